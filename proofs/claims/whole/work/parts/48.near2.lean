/-! the sums of the nearest, of class and reference -/
section NS
variable {A : SA} {B : SB} {n : Nat} {M : Nat → Nat} {P : Nat → Option Nat} {S : Nat → Nat → Bool} {W : Nat → Nat} {t : Nat} {pt st : Nat → Nat}
def dF (n : Nat) (M : Nat → Nat) (t : Nat) (va : Nat → Option Nat) (vv : Nat → Nat → Option Nat) (i : Nat) : Nat := if i < t then dN n M va (vv i) else 0
theorem dF_lt (hs : Shp n M P) {va : Nat → Option Nat} {vv : Nat → Nat → Option Nat} (ha : ∀ i v, i < n → va i = some v → v < 30) (hv : ∀ i, i < t → ∀ j v, j < n → vv i j = some v → v < 30) (i : Nat) : dF n M t va vv i < 10000 := by
  unfold dF
  split
  · rename_i h
    have h1 := dN_le hs ha (hv i h) n (Nat.le_refl n)
    have := hs.1
    unfold dN
    omega
  · omega
theorem w_nearSum (hS : ISp n M P S W A B) (ht : t ≤ 60) (e2 : A 2 0 = nI t) (h14 : ∀ i, i < t → st i ≤ 3 ∧ A 14 i = nI (st i)) {p : Nat} {va : Nat → Option Nat} {la : Nat → Nat} (ha : RdIs n M P S W p va la) {vv : Nat → Nat → Option Nat} {ll : Nat → Nat → Nat} (hv : ∀ i, i < t → RdIs n M P S W (pt i) (vv i) (ll i)) (hrow : ∀ i, i < t → ∀ j, j < n → A (116 + i) j = enc (vv i j)) {k : Nat} (hk : 1 ≤ k) (hk5 : k ≤ 5) {c : Nat} {e : Nat → Nat} (hq : SqOK st (dF n M t va vv) t c e) {Q : Int64 → SA → Prop}
    (h : ∀ A', Scr A A' → Q (sumL (fun r => (A 15 (e r)).toInt64) (min k c)) A') : wp_X4_nearSum (lN p) (nI k) A B Q := by
  have hs := hS.1
  have hdlt := dF_lt (t := t) hs (va := va) (vv := vv) (ha.v30 hs) (fun i hi => (hv i hi).v30 hs)
  refine w_read hS.1 hS.2.1 hS.2.2.1 hS.2.2.2.1 off6 ha (fun f hf => ?_)
  have hsc0 : Scr A (va_up A 6 f) := Scr.up (by decide)
  refine lp3 (wp_X4_nearSum_21 _ Q (nI k) B) (fun v4 v5 A' => ∃ (T c' : Nat) (e' : Nat → Nat), T ≤ t ∧ SqOK st (dF n M t va vv) T c' e' ∧ v5 = nI T ∧ v4 = nI (min k c') ∧ Scr A A' ∧ (∀ j, j < n → A' 6 j = enc (va j)) ∧ ∀ r, r < min k c' → A' 19 r = nI (dF n M t va vv (e' r)) ∧ A' 20 r = A 15 (e' r)) (fun _ v5 _ => 60 - v5.toNatClampNeg) ?_ _ _ _
    ⟨0, 0, fun _ => 0, Nat.zero_le t, ⟨rfl, fun r h => by omega, fun r q _ h => by omega, fun i h => by omega⟩, nI_0.symm, by rw [Nat.min_zero]; rfl, hsc0, fun j hj => by rw [va_up_self]; exact hf j hj, fun r hr => by omega⟩
  rintro m v4 v5 A' ⟨T, c', e', hT, hq', rfl, rfl, hsc, h6, hgs⟩ ih
  have eT : (nI T).toNatClampNeg = T := nI_clamp (by omega)
  have hS' := hS.scr hsc
  refine pk_le t T (fun q => ?_) (fun q => ?_) (by rw [hsc.at (by decide)]; exact e2)
  · have hTt : T = t := by omega
    subst hTt
    obtain ⟨hcc, hee⟩ := sq_uniq hq' hq
    subst hcc
    refine lp2 (wp_X4_nearSum_90 _ Q (nI (min k c')) A' B) (fun v5 v7 => ∃ i : Nat, i ≤ min k c' ∧ v7 = nI i ∧ v5 = sumL (fun r => (A 15 (e r)).toInt64) i) (fun _ v7 => 5 - v7.toNatClampNeg) ?_ _ _ ⟨0, Nat.zero_le _, nI_0.symm, rfl⟩
    rintro m2 v5 v7 ⟨i, hi, rfl, rfl⟩ ih2
    have ei : (nI i).toNatClampNeg = i := nI_clamp (by omega)
    refine pk_le (min k c') i (fun q2 => ?_) (fun q2 => ⟨pk_in i 5 (by omega), fun x e v7 e7 => ?_⟩)
    · rw [show i = min k c' by omega]; exact h A' hsc
    · rw [nI_1] at e7
      refine ih2 _ _ ⟨i + 1, by omega, e7, ?_⟩ (by rw [e7, ei, nI_clamp (by omega)]; omega)
      rw [e, ei, (hgs i q2).2, hee i (by omega)]
      rfl
  · refine ⟨pk_in T 60 (by omega), ?_⟩
    rw [eT, hsc.at (by decide), (h14 T q).2]
    have hst := (h14 T q).1
    refine pk_ne (st T) 1 (fun q2 v5 e5 => ?_) (fun q2 => ⟨pk_in T 60 (by omega), ?_⟩)
    · rw [nI_1] at e5
      exact ih _ _ _ ⟨T + 1, c', e', by omega, sq_skip hq' q2, e5, rfl, hsc, h6, hgs⟩ (by rw [e5, eT, nI_clamp (by omega)]; omega)
    · refine w_apart hs hS'.2.2.1 off6 (off116 (by omega)) (va := va) (vb := vv T) h6 (fun j hj => by rw [hsc.at (by omega)]; exact hrow T q j hj) (ha.v30 hs) ((hv T q).v30 hs) ⟨pk_in T 60 (by omega), ?_⟩
      have ed : dN n M va (vv T) = dF n M t va vv T := by simp [dF, q]
      rw [ed, hsc.at (by decide)]
      refine w_holdNear (s := fun i => A 15 i) hq' q2 hdlt hk hk5 hgs (fun e2' f2 g2 hq2 hg2 v5 e5 => ?_)
      rw [nI_1] at e5
      refine ih _ _ _ ⟨T + 1, c' + 1, e2', by omega, hq2, e5, rfl, hsc.tr (Scr.tr (Scr.up (by decide)) (Scr.up (by decide))), fun j hj => ?_, fun r hr => ?_⟩ (by rw [e5, eT, nI_clamp (by omega)]; omega)
      · rw [va_up_ne _ _ (by decide), va_up_ne _ _ (by decide)]; exact h6 j hj
      · rw [va_up_ne _ _ (by decide), va_up_self, va_up_self]; exact hg2 r hr
theorem nar0 : vp_nar .boolean (0 : Int32) = 0 := by decide +kernel
theorem nar1 : vp_nar .boolean (1 : Int32) = 1 := by decide +kernel
theorem w6_near (hS : ISp n M P S W A B) (ht : t ≤ 60) (e56 : A 5 6 = nI t) (h35 : ∀ i, i < t → st i ≤ 3 ∧ A 35 i = nI (st i)) (h34 : ∀ i, i < t → B 34 i = lN (pt i)) {p : Nat} {va : Nat → Option Nat} {la : Nat → Nat} (ha : RdIs n M P S W p va la) {vv : Nat → Nat → Option Nat} {ll : Nat → Nat → Nat} (hv : ∀ i, i < t → RdIs n M P S W (pt i) (vv i) (ll i)) {k : Nat} (hk : 1 ≤ k) (hk5 : k ≤ 5) {c : Nat} {e : Nat → Nat} (hq : SqOK st (dF n M t va vv) t c e) {Q : Int64 → SA → Prop}
    (h : ∀ A', Scr A A' → A' 5 13 = nI (min k c) → Q (sumL (fun r => (A 36 (e r)).toInt64) (min k c)) A') : wp_X6_near (lN p) (nI k) A B Q := by
  have hs := hS.1
  have hdlt := dF_lt (t := t) hs (va := va) (vv := vv) (ha.v30 hs) (fun i hi => (hv i hi).v30 hs)
  unfold wp_X6_near
  generalize hE : (fun (A_14 : SA) => ∃ n_39 : Nat, wp_X6_near_71 (fun (v4_40 : Int64) (A_41 : SA) => Q v4_40 A_41) Q (nI k) B n_39 (0 : Int64) (0 : Int32) (u2 A_14 5 13 (0 : Int32))) = E
  refine lp2 (wp_X6_near_3 E Q (lN p) (nI k) B) (fun v4 A' => ∃ i : Nat, i ≤ t ∧ v4 = nI i ∧ Scr A A' ∧ ∀ j, j < i → A' 39 j = 0 ∧ (st j = 1 → A' 40 j = nI (dF n M t va vv j))) (fun v4 _ => 60 - v4.toNatClampNeg) ?_ _ _ ⟨0, Nat.zero_le t, nI_0.symm, Scr.rf, fun j hj => by omega⟩
  rintro m v4 A' ⟨i, hi, rfl, hsc, hf⟩ ih
  have ei : (nI i).toNatClampNeg = i := nI_clamp (by omega)
  refine pk_le t i (fun q => ?_) (fun q => ?_) (by rw [hsc.2 6 (by decide)]; exact e56)
  · have hit : i = t := by omega
    subst hit
    rw [← hE]
    dsimp only
    -- the picking
    refine lp3 (wp_X6_near_71 (fun v A => Q v A) Q (nI k) B) (fun v4 v6 A2 => ∃ x : Nat, x ≤ k ∧ v6 = nI x ∧ v4 = sumL (fun r => (A 36 (e r)).toInt64) (min x c) ∧ Scr A A2 ∧ A2 5 13 = nI (min x c) ∧ (∀ r, r < min x c → A2 39 (e r) = 1) ∧ (∀ j, j < i → st j = 1 → (∀ r, r < min x c → e r ≠ j) → A2 39 j = 0) ∧ ∀ j, j < i → st j = 1 → A2 40 j = nI (dF n M i va vv j)) (fun _ v6 _ => 5 - v6.toNatClampNeg) ?_ _ _ _
      ⟨0, Nat.zero_le k, nI_0.symm, by rw [Nat.zero_min]; rfl, hsc.tr Scr.tk, by rw [u2_self, Nat.zero_min]; rfl, fun r hr => by omega, fun j hj _ _ => by rw [u2_kn (by decide)]; exact (hf j hj).1, fun j hj hs => by rw [u2_kn (by decide)]; exact (hf j hj).2 hs⟩
    rintro m2 v4 v6 A2 ⟨x, hx, rfl, rfl, hsc2, ht13, hfl1, hfl0, h40⟩ ih2
    have ex : (nI x).toNatClampNeg = x := nI_clamp (by omega)
    refine pk_le k x (fun q2 => ?_) (fun q2 => ?_)
    · have hxk : x = k := by omega
      subst hxk
      exact h A2 hsc2 ht13
    · generalize hE3 : (fun (v7_31 : Int32) => ((v7_31 < 0 → ∀ v6_33 : Int32, v6_33 = nI x + 1 → wp_X6_near_71 (fun v A => Q v A) Q (nI k) B m2 (sumL (fun r => (A 36 (e r)).toInt64) (min x c)) v6_33 A2) ∧ (¬ v7_31 < 0 → vp_in v7_31 60 ∧ ∀ x_35 : Int32, x_35 = ((A2 5 13) + (1 : Int32)) → vp_in v7_31 60 ∧ ∀ x_37 : Int64, x_37 = (sumL (fun r => (A 36 (e r)).toInt64) (min x c) + (A2 36 v7_31.toNatClampNeg).toInt64) → ∀ v6_38 : Int32, v6_38 = nI x + 1 → wp_X6_near_71 (fun v A => Q v A) Q (nI k) B m2 x_37 v6_38 (u2 (u2 A2 39 v7_31.toNatClampNeg (vp_nar .boolean (1 : Int32))) 5 13 x_35)))) = E3
      -- which may still be taken
      refine lp2 (wp_X6_near_84 E3 Q (nI k) _ (nI x) A2 B) (fun v7 v8 => ∃ y : Nat, y ≤ i ∧ v8 = nI y ∧ ((v7 = -2 ∧ ∀ j, j < y → st j = 1 → ¬ (∀ r, r < min x c → e r ≠ j)) ∨ ∃ z, z < y ∧ v7 = nI z ∧ st z = 1 ∧ (∀ r, r < min x c → e r ≠ z) ∧ ∀ j, j < y → st j = 1 → (∀ r, r < min x c → e r ≠ j) → j = z ∨ prc (dF n M i va vv) z j)) (fun _ v8 => 60 - v8.toNatClampNeg) ?_ _ _ ⟨0, Nat.zero_le i, nI_0.symm, Or.inl ⟨rfl, fun j hj => by omega⟩⟩
      rintro m3 v7 v8 ⟨y, hy, rfl, hbest⟩ ih3
      have ey : (nI y).toNatClampNeg = y := nI_clamp (by omega)
      refine pk_le i y (fun q3 => ?_) (fun q3 => ?_) (by rw [hsc2.2 6 (by decide)]; exact e56)
      · have hyi : y = i := by omega
        subst hyi
        rw [← hE3]
        dsimp only
        rcases hbest with ⟨rfl, hnone⟩ | ⟨z, hz, rfl, hsz, hez, hmin⟩
        · -- none is left
          have hcx : c ≤ x := by
            rcases Nat.lt_or_ge x c with w | w
            · have h1 := hq.2.1 x w
              refine absurd (fun r hr => ?_) (hnone (e x) h1.1 h1.2)
              intro he
              have h2 := hq.2.2.1 r x (by omega) w
              rw [he] at h2
              unfold prc at h2
              omega
            · exact w
          refine br_t (by decide) (fun v6 e6 => ?_)
          rw [nI_1] at e6
          refine ih2 _ _ _ ⟨x + 1, by omega, e6, by rw [show min (x + 1) c = min x c by omega], hsc2, by rw [show min (x + 1) c = min x c by omega]; exact ht13, fun r hr => hfl1 r (by omega), fun j hj hsj hne => hfl0 j hj hsj (fun r hr => hne r (by omega)), h40⟩ (by rw [e6, ex, nI_clamp (by omega)]; omega)
        · -- the next one in the order
          obtain ⟨w, hw, ew⟩ := hq.2.2.2 z hz hsz
          have hwx : min x c ≤ w := by
            rcases Nat.lt_or_ge w (min x c) with u | u
            · exact absurd ew (hez w u)
            · exact u
          have hxc : x < c := by omega
          have hmx : min x c = x := by omega
          have hwe : w = x := by
            rcases Nat.lt_or_ge x w with u | u
            · have h1 := hq.2.2.1 x w u hw
              have h2 := hq.2.1 x hxc
              have h3 := hmin (e x) h2.1 h2.2 (fun r hr he => by
                have h4 := hq.2.2.1 r x (by omega) hxc
                rw [he] at h4
                unfold prc at h4
                omega)
              rw [ew] at h1
              rcases h3 with h3 | h3
              · rw [h3] at h1
                unfold prc at h1
                omega
              · unfold prc at h1 h3
                omega
            · omega
          subst hwe
          have ez : (nI z).toNatClampNeg = z := nI_clamp (by omega)
          refine br_f (nI_pos (by omega)) ⟨pk_in z 60 (by omega), fun x35 e35 => ⟨pk_in z 60 (by omega), fun x37 e37 v6 e6 => ?_⟩⟩
          rw [nI_1] at e6
          rw [ht13, nI_1] at e35
          rw [ez, hsc2.at (by decide)] at e37
          rw [ez, nar1]
          refine ih2 _ _ _ ⟨w + 1, by omega, e6, ?_, (hsc2.tr (Scr.up (k := 39) (by decide))).tr Scr.tk, ?_, fun r hr => ?_, fun j hj hsj hne => ?_, fun j hj hsj => ?_⟩ (by rw [e6, ex, nI_clamp (by omega)]; omega)
          · rw [e37, hmx, show min (w + 1) c = w + 1 by omega, ← ew]
            rfl
          · rw [u2_self, e35, hmx, show min (w + 1) c = w + 1 by omega]
          · rw [u2_kn (by decide)]
            by_cases hr2 : e r = z
            · rw [hr2, u2_self]
            · rw [u2_ne hr2]
              refine hfl1 r ?_
              rcases Nat.lt_or_ge r w with u | u
              · omega
              · exact absurd (by rw [show r = w by omega]; exact ew) hr2
          · have hjz : j ≠ z := fun he => hne w (by omega) (by rw [ew, he])
            rw [u2_kn (by decide), u2_ne hjz]
            exact hfl0 j hj hsj (fun r hr => hne r (by omega))
          · rw [u2_kn (by decide), u2_kn (by decide)]; exact h40 j hj hsj
      · -- one more trial is looked at
        have nxt : ∀ (v7 v8 : Int32), v8 = nI y + 1 → ((v7 = -2 ∧ ∀ j, j < y + 1 → st j = 1 → ¬ (∀ r, r < min x c → e r ≠ j)) ∨ ∃ z, z < y + 1 ∧ v7 = nI z ∧ st z = 1 ∧ (∀ r, r < min x c → e r ≠ z) ∧ ∀ j, j < y + 1 → st j = 1 → (∀ r, r < min x c → e r ≠ j) → j = z ∨ prc (dF n M i va vv) z j) → wp_X6_near_84 E3 Q (nI k) (sumL (fun r => (A 36 (e r)).toInt64) (min x c)) (nI x) A2 B m3 v7 v8 := by
          intro v7 v8 e8 hb
          rw [nI_1] at e8
          exact ih3 _ _ ⟨y + 1, by omega, e8, hb⟩ (by rw [e8, ey, nI_clamp (by omega)]; omega)
        have keep : (st y ≠ 1 ∨ ¬ (∀ r, r < min x c → e r ≠ y)) → ∀ v8 : Int32, v8 = nI y + 1 → wp_X6_near_84 E3 Q (nI k) (sumL (fun r => (A 36 (e r)).toInt64) (min x c)) (nI x) A2 B m3 v7 v8 := by
          intro hno v8 e8
          refine nxt v7 v8 e8 ?_
          rcases hbest with ⟨rfl, hnone⟩ | ⟨z, hz, rfl, hsz, hez, hmin⟩
          · refine Or.inl ⟨rfl, fun j hj hsj hne => ?_⟩
            by_cases hjy : j = y
            · subst hjy
              rcases hno with u | u
              · exact u hsj
              · exact u hne
            · exact hnone j (by omega) hsj hne
          · refine Or.inr ⟨z, by omega, rfl, hsz, hez, fun j hj hsj hne => ?_⟩
            by_cases hjy : j = y
            · subst hjy
              rcases hno with u | u
              · exact absurd hsj u
              · exact absurd hne u
            · exact hmin j (by omega) hsj hne
        refine ⟨pk_in y 60 (by omega), ?_⟩
        rw [ey, hsc2.at (by decide), (h35 y q3).2]
        have hst := (h35 y q3).1
        refine pk_ne (st y) 1 (fun q4 => keep (Or.inl q4)) (fun q4 => ⟨pk_in y 60 (by omega), ?_⟩)
        by_cases hel : ∀ r, r < min x c → e r ≠ y
        · refine bn_t (hfl0 y q3 q4 hel) ?_
          rcases hbest with ⟨rfl, hnone⟩ | ⟨z, hz, rfl, hsz, hez, hmin⟩
          · refine br_t (by decide) (fun v8 e8 => nxt _ v8 e8 (Or.inr ⟨y, by omega, rfl, q4, hel, fun j hj hsj hne => ?_⟩))
            by_cases hjy : j = y
            · exact Or.inl hjy
            · exact absurd hne (hnone j (by omega) hsj)
          · have ez : (nI z).toNatClampNeg = z := nI_clamp (by omega)
            have hdz := hdlt z
            have hdy := hdlt y
            refine br_f (nI_pos (by omega)) ⟨pk_in y 60 (by omega), pk_in z 60 (by omega), ?_⟩
            rw [ez, h40 z (by omega) hsz, h40 y q3 q4]
            refine pk_le (dF n M i va vv z) (dF n M i va vv y) (fun q5 v8 e8 => nxt _ v8 e8 (Or.inr ⟨z, by omega, rfl, hsz, hez, fun j hj hsj hne => ?_⟩)) (fun q5 v8 e8 => nxt _ v8 e8 (Or.inr ⟨y, by omega, rfl, q4, hel, fun j hj hsj hne => ?_⟩))
            · by_cases hjy : j = y
              · subst hjy; right; unfold prc; omega
              · exact hmin j (by omega) hsj hne
            · by_cases hjy : j = y
              · exact Or.inl hjy
              · right
                rcases hmin j (by omega) hsj hne with u | u
                · subst u; unfold prc; omega
                · unfold prc at u ⊢; omega
        · have h1 : A2 39 y = 1 := by
            apply Classical.byContradiction
            intro hn1
            refine hel (fun r hr he => hn1 ?_)
            rw [← he]
            exact hfl1 r hr
          exact bn_f (by rw [h1]; decide) (keep (Or.inr hel))
  · refine ⟨pk_in i 60 (by omega), pk_in i 60 (by omega), ?_⟩
    rw [ei, hsc.at (by decide), (h35 i q).2, nar0]
    have hst := (h35 i q).1
    have nxt : ∀ (v4 : Int32) (A3 : SA), v4 = nI i + 1 → Scr A A3 → (∀ j, j < i → A3 39 j = A' 39 j ∧ A3 40 j = A' 40 j) → A3 39 i = 0 → (st i = 1 → A3 40 i = nI (dF n M t va vv i)) → wp_X6_near_3 E Q (lN p) (nI k) B m v4 A3 := by
      intro v4 A3 e4 h1 h2 h3 h4
      rw [nI_1] at e4
      refine ih _ _ ⟨i + 1, by omega, e4, h1, fun j hj => ?_⟩ (by rw [e4, ei, nI_clamp (by omega)]; omega)
      by_cases hji : j = i
      · subst hji; exact ⟨h3, h4⟩
      · have := h2 j (by omega)
        have := hf j (by omega)
        exact ⟨by rw [(h2 j (by omega)).1]; exact this.1, fun hs => by rw [(h2 j (by omega)).2]; exact this.2 hs⟩
    have hsc1 : Scr A (u2 A' 39 i 0) := hsc.tr (Scr.up (k := 39) (by decide))
    refine pk_ne (st i) 1 (fun q2 => ⟨pk_in i 60 (by omega), fun v4 e4 => ?_⟩) (fun q2 => ⟨pk_in i 60 (by omega), ?_⟩)
    · refine nxt v4 _ e4 (hsc1.tr (Scr.up (k := 40) (by decide))) (fun j hj => ?_) ?_ (fun z => absurd z q2)
      · rw [u2_kn (by decide), u2_ne (by omega), u2_ne (by omega), u2_kn (by decide)]; exact ⟨rfl, rfl⟩
      · rw [u2_kn (by decide), u2_self]
    · rw [h34 i q]
      have hS1 := hS.scr hsc1
      refine w6_distanceOf hs hS1.2.1 hS1.2.2.2.2.1 hS1.2.2.2.2.2 ha (hv i q) (fun g => ⟨pk_in i 60 (by omega), fun v4 e4 => ?_⟩)
      refine nxt v4 _ e4 ((hsc1.tr (Scr.up (k := 33) (by decide))).tr (Scr.up (k := 40) (by decide))) (fun j hj => ?_) ?_ (fun _ => ?_)
      · rw [u2_kn (by decide), va_up_ne _ _ (by decide), u2_ne (by omega), u2_ne (by omega), va_up_ne _ _ (by decide), u2_kn (by decide)]; exact ⟨rfl, rfl⟩
      · rw [u2_kn (by decide), va_up_ne _ _ (by decide), u2_self]
      · rw [u2_self]; simp [dF, q]
end NS
