/-! THE SPACE in the reference -/
def SpM (n : Nat) (M : Nat → Nat) (P : Nat → Option Nat) (S : Nat → Nat → Bool) (A : SA) : Prop :=
  A 5 0 = nI n ∧ (∀ i, i < n → A 29 i = nI (M i)) ∧ (∀ i, i < n → (P i = none → A 30 i < 0) ∧ ∀ p, P i = some p → A 30 i = nI p) ∧ ∀ i v, i < n → v < 32 → bt (A 31 i) v = S i v
section MC
variable {n : Nat} {M : Nat → Nat} {P : Nat → Option Nat} {S : Nat → Nat → Bool} {W : Nat → Nat} {A : SA} {B : SB}
theorem SpM.fr {A' : SA} (h : SpM n M P S A) (h1 : A' 5 0 = A 5 0) (h8 : A' 29 = A 29) (h9 : A' 30 = A 30) (h10 : A' 31 = A 31) : SpM n M P S A' := by
  unfold SpM
  rw [h1, h8, h9, h10]
  exact h
theorem SpM.up {f : Nat → Int32} (h : SpM n M P S A) : SpM n M P S (va_up A 33 f) :=
  h.fr (by rw [va_up_ne _ _ (by decide)]) (va_up_ne _ _ (by decide)) (va_up_ne _ _ (by decide)) (va_up_ne _ _ (by decide))
theorem w6_there (hs : Shp n M P) (hM : SpM n M P S A) {at' i : Nat} (hat : at' = 0 ∨ at' = 8) (hi : i < n) {vals : Nat → Option Nat} (hv : ∀ p, P i = some p → A 33 (at' + p) = enc (vals p) ∧ ∀ v, vals p = some v → v < 32) {Q : Int32 → Prop}
    (h1 : thB P S vals i = true → Q 1) (h0 : thB P S vals i = false → Q 0) : wp_X6_isThere (nI at') (nI i) A B Q := by
  have hn := hs.1
  have ei : (nI i).toNatClampNeg = i := nI_clamp (by omega)
  refine ⟨pk_in i 8 (by omega), ?_⟩
  rw [ei]
  cases hp : P i with
  | none => exact br_t ((hM.2.2.1 i hi).1 hp) (h1 (thB_root hp))
  | some p =>
    have hpi := hs.2.2 i p hi hp
    obtain ⟨hv1, hv2⟩ := hv p hp
    rw [(hM.2.2.1 i hi).2 p hp]
    refine br_f (nI_pos (by omega)) ⟨pk_in i 8 (by omega), fun x e => ?_⟩
    rw [nI_add] at e
    subst e
    have ep : (nI (at' + p)).toNatClampNeg = at' + p := nI_clamp (by omega)
    refine ⟨pk_in (at' + p) 16 (by omega), ?_⟩
    rw [ep, hv1]
    cases hq : vals p with
    | none => exact br_t (by decide) (h0 (thB_no hq hp))
    | some v =>
      have hv3 := hv2 v hq
      refine br_f (nI_pos (by omega)) ⟨pk_in i 8 (by omega), pk_in i 8 (by omega), fun x e => ?_⟩
      rw [nI_add] at e
      subst e
      refine ⟨pk_in (at' + p) 16 (by omega), ?_⟩
      rw [ep, hv1, hq]
      have et := thB_at (S := S) hq hp
      have eb := hM.2.2.2 i v hi hv3
      refine ⟨fun z => h0 ?_, fun z => h1 ?_⟩
      · rw [et, ← eb]; rw [show enc (some v) = nI v from rfl, bit_s hv3] at z; simpa using z
      · rw [et, ← eb]; rw [show enc (some v) = nI v from rfl, bit_s hv3] at z; exact z
theorem w6_behind (hs : Shp n M P) (hM : SpM n M P S A) {at' k : Nat} (hat : at' = 0 ∨ at' = 8) (hk : k < n) (hw : ∀ c, k < c → c < n → B 32 c = lN (W c)) {vals : Nat → Option Nat} (hv : ∀ j, j ≤ k → A 33 (at' + j) = enc (vals j)) (hb : ∀ j v, j ≤ k → vals j = some v → v < 32) {Q : Int64 → Prop}
    (h : Q (lN (opN n P W (k + 1) (thB P S vals)))) : wp_X6_behind (nI at') (nI k) A B Q := by
  have hn := hs.1
  intro x e
  rw [nI_1] at e
  subst e
  refine lp2 (wp_X6_behind_7 (fun v => Q v) Q (nI at') (nI k) A B) (fun v3 v5 => ∃ c : Nat, k + 1 ≤ c ∧ c ≤ n ∧ v5 = nI c ∧ v3 = lN (prN (fun c => if plB P (k + 1) c = true ∧ thB P S vals c = true then W c else 1) (k + 1) c)) (fun _ v5 => 8 - v5.toNatClampNeg) ?_ _ _ ⟨k + 1, Nat.le_refl _, by omega, rfl, by rw [prN_ge (Nat.le_refl _)]; rfl⟩
  rintro m v3 v5 ⟨c, hc1, hc2, rfl, rfl⟩ ih
  have ec : (nI c).toNatClampNeg = c := nI_clamp (by omega)
  refine pk_le n c (fun q => ?_) (fun q => ?_) hM.1
  · rw [show c = n by omega]; exact h
  · refine ⟨pk_in c 8 (by omega), ?_⟩
    rw [ec]
    have e1 : ∀ (y : Nat), lN y * (1 : Int64) = lN y := fun y => by rw [show (1 : Int64) = lN 1 from rfl, lN_mul, Nat.mul_one]
    have step : ∀ (y : Nat) (x : Int64) (v5 : Int32), (if plB P (k + 1) c = true ∧ thB P S vals c = true then W c else 1) = y → x = lN (prN (fun c => if plB P (k + 1) c = true ∧ thB P S vals c = true then W c else 1) (k + 1) c) * lN y → v5 = nI c + 1 → wp_X6_behind_7 (fun v => Q v) Q (nI at') (nI k) A B m x v5 := by
      intro y x v5 hy hx h5
      rw [nI_1] at h5
      refine ih _ _ ⟨c + 1, by omega, by omega, h5, ?_⟩ ?_
      · rw [hx, lN_mul, prN_r hc1, hy]
      · rw [h5, ec, nI_clamp (by omega)]; omega
    cases hp : P c with
    | none =>
      refine br_f (fun z => ?_) ?_
      · have z2 := (hM.2.2.1 c q).1 hp
        have := Int32.lt_trans z z2
        exact nI_pos (n := k) (by omega) this
      · refine w6_there hs hM hat q (vals := vals) (fun p h => by rw [hp] at h; cases h) (fun hT => ?_) (fun hT => ?_)
        · refine br_f (by decide) ⟨pk_in c 8 (by omega), fun x ex v5 e5 => ?_⟩
          rw [hw c (by omega) q] at ex
          exact step (W c) x v5 (if_pos ⟨by simp [plB, hp], hT⟩) ex e5
        · rw [thB_root hp] at hT; cases hT
    | some p =>
      have hpc := hs.2.2 c p q hp
      rw [(hM.2.2.1 c q).2 p hp]
      refine pk_lt k p (fun q2 x ex v5 e5 => ?_) (fun q2 => ?_)
      · exact step 1 x v5 (if_neg (fun z => by have := z.1; simp [plB, hp] at this; omega)) (by rw [ex]; rfl) e5
      · refine w6_there hs hM hat q (vals := vals) (fun p' h => by rw [hp] at h; cases h; exact ⟨hv p q2, fun v => hb p v q2⟩) (fun hT => ?_) (fun hT => ?_)
        · refine br_f (by decide) ⟨pk_in c 8 (by omega), fun x ex v5 e5 => ?_⟩
          rw [hw c (by omega) q] at ex
          exact step (W c) x v5 (if_pos ⟨by simp [plB, hp]; omega, hT⟩) ex e5
        · refine br_t rfl (fun x ex v5 e5 => ?_)
          exact step 1 x v5 (if_neg (fun z => by rw [hT] at z; exact absurd z.2 (by decide))) (by rw [ex]; rfl) e5
/-- a value put at one name -/
def updO (vals : Nat → Option Nat) (i : Nat) (o : Option Nat) : Nat → Option Nat := fun j => if j = i then o else vals j
theorem updO_op {vals : Nat → Option Nat} {i u : Nat} : opN n P W (i + 1) (thB P S (updO vals i (some u))) = rsN n P W i (thB P S vals) * wbN n P S W i u :=
  op_wb (fun c _ _ hP => thB_upd (i := i) (fun j hj => by simp [updO, hj]) hP) (fun c _ _ hP => thB_at (i := i) (by simp [updO]) hP)
/-- the reference finds a point's values -/
theorem w6_find (hs : Shp n M P) (hW : WOK n M P S W) (hM : SpM n M P S A) (hw : ∀ c, c < n → B 32 c = lN (W c)) {at' : Nat} (hat : at' = 0 ∨ at' = 8) {pt : Nat} {vals : Nat → Option Nat} {lf : Nat → Nat} (hr : RdIs n M P S W pt vals lf) {Q : SA → Prop}
    (h : ∀ f : Nat → Int32, (∀ i, i < n → f (at' + i) = enc (vals i)) → (∀ j, (j < at' ∨ at' + 8 ≤ j) → f j = A 33 j) → Q (va_up A 33 f)) : wp_X6_find (nI at') (lN pt) A B Q := by
  have hn := hs.1
  have hbb : ∀ j v, j < n → vals j = some v → v < 32 := fun j v hj e => by
    cases hT : thB P S vals j with
    | true =>
      obtain ⟨w, h1, h2, -⟩ := (hr.2 j hj).1 hT
      have := (hs.2.1 j hj).2
      rw [e] at h1
      cases h1
      omega
    | false =>
      have h1 := ((hr.2 j hj).2 hT).1
      rw [e] at h1
      cases h1
  refine lp3 (wp_X6_find_6 (fun A => Q A) Q (nI at') B) (fun v4 v6 A' => ∃ (i : Nat) (f : Nat → Int32), i ≤ n ∧ v6 = nI i ∧ v4 = lN (lf i) ∧ A' = va_up A 33 f ∧ (∀ j, j < i → f (at' + j) = enc (vals j)) ∧ ∀ j, (j < at' ∨ at' + 8 ≤ j) → f j = A 33 j) (fun _ v6 _ => 8 - v6.toNatClampNeg) ?_ _ _ _
    ⟨0, A 33, Nat.zero_le n, nI_0.symm, by rw [hr.1], (va_up_id A 33).symm, fun j hj => by omega, fun j _ => rfl⟩
  rintro m v4 v6 A' ⟨i, f, hi, rfl, rfl, rfl, hf, ho⟩ ih
  have ei : (nI i).toNatClampNeg = i := nI_clamp (by omega)
  refine pk_le n i (fun q => ?_) (fun q => ?_) (hM.up (f := f)).1
  · exact h f (fun j hj => hf j (by omega)) ho
  · rw [nI_add]
    have eix : (nI (at' + i)).toNatClampNeg = at' + i := nI_clamp (by omega)
    have hin : vp_in (nI (at' + i)) 16 := pk_in (at' + i) 16 (by omega)
    refine ⟨hin, ?_⟩
    rw [eix, u2_up]
    -- on to the next name
    have nxt : ∀ g : Nat → Int32, g (at' + i) = enc (vals i) → (∀ j, j ≠ at' + i → g j = f j) → ∀ v6 : Int32, v6 = nI i + 1 → wp_X6_find_6 (fun A => Q A) Q (nI at') B m (lN (lf (i + 1))) v6 (va_up A 33 g) := by
      intro g hg1 hg2 v6 e6
      rw [nI_1] at e6
      refine ih _ _ _ ⟨i + 1, g, by omega, e6, rfl, rfl, fun j hj => ?_, fun j hj => ?_⟩ ?_
      · by_cases hji : j = i
        · subst hji; exact hg1
        · rw [hg2 _ (by omega)]; exact hf j (by omega)
      · rw [hg2 j (by omega)]; exact ho j hj
      · rw [e6, ei, nI_clamp (by omega)]; omega
    refine w6_there hs hM.up hat q (vals := vals) (fun p hp => ?_) (fun hT => ?_) (fun hT => ?_)
    · have hpi := hs.2.2 i p q hp
      refine ⟨?_, fun v => hbb p v (by omega)⟩
      rw [va_up_self, upd, if_neg (by omega)]
      exact hf p hpi
    · refine bn_f (by decide) ⟨hin, ?_⟩
      rw [u2_up]
      obtain ⟨v, hv1, hv2, hv3, hv4⟩ := (hr.2 i q).1 hT
      have hMi := hs.2.1 i q
      have hrs := rs_bd hs hW q (thB P S vals)
      have hop := op_lt hs hW (Nat.le_of_lt q) (thB P S vals)
      have eop := op_rs (P := P) (W := W) q (plB_self hs q) hT
      have hmono : ∀ u, u < v → rsN n P W i (thB P S vals) * sumN (wbN n P S W i) u + rsN n P W i (thB P S vals) * wbN n P S W i u ≤ rsN n P W i (thB P S vals) * sumN (wbN n P S W i) v := by
        intro u hu
        have h1 : sumN (wbN n P S W i) (u + 1) ≤ sumN (wbN n P S W i) v := sumN_mono (by omega)
        have h2 := Nat.mul_le_mul_left (rsN n P W i (thB P S vals)) h1
        simp only [sumN, Nat.mul_add] at h2
        exact h2
      have hlfi : lf i < 656100000001 := by
        have h1 : sumN (wbN n P S W i) (v + 1) ≤ sumN (wbN n P S W i) (M i) := sumN_mono (by omega)
        have h2 := Nat.mul_le_mul_left (rsN n P W i (thB P S vals)) h1
        rw [← hW i q, Nat.mul_comm _ (W i), ← eop] at h2
        simp only [sumN, Nat.mul_add] at h2
        generalize rsN n P W i (thB P S vals) * sumN (wbN n P S W i) v = y at *
        generalize rsN n P W i (thB P S vals) * wbN n P S W i v = z at *
        omega
      -- behind, with u at the name
      have beh : ∀ (u : Nat) (g : Nat → Int32) (Q2 : Int64 → Prop), u ≤ v → g (at' + i) = nI u → (∀ j, j ≠ at' + i → g j = f j) → Q2 (lN (rsN n P W i (thB P S vals) * wbN n P S W i u)) → wp_X6_behind (nI at') (nI i) (va_up A 33 g) B Q2 := by
        intro u g Q2 hu hg1 hg2 hQ
        refine w6_behind hs hM.up hat q (fun c _ hc => hw c hc) (vals := updO vals i (some u)) (fun j hj => ?_) (fun j w hj e => ?_) (by rw [updO_op]; exact hQ)
        · rw [va_up_self]
          by_cases hji : j = i
          · subst hji; rw [hg1]; simp [updO, enc]
          · rw [hg2 _ (by omega), hf j (by omega)]; simp [updO, hji]
        · by_cases hji : j = i
          · subst hji; simp [updO] at e; omega
          · simp only [updO, hji, if_false] at e; exact hbb j w (by omega) e
      refine beh 0 _ _ (Nat.zero_le v) (by simp [upd]; exact nI_0.symm) (fun j hj => by simp [upd, hj]) ?_
      refine lp3 (wp_X6_find_58 _ Q (nI at') (nI i) B) (fun v4 v7 A' => ∃ (u : Nat) (g : Nat → Int32), u ≤ v ∧ v4 = lN (lf i - rsN n P W i (thB P S vals) * sumN (wbN n P S W i) u) ∧ v7 = lN (rsN n P W i (thB P S vals) * wbN n P S W i u) ∧ A' = va_up A 33 g ∧ g (at' + i) = nI u ∧ ∀ j, j ≠ at' + i → g j = f j) (fun _ _ A' => 30 - (A' 33 (at' + i)).toNatClampNeg) ?_ _ _ _
        ⟨0, _, Nat.zero_le v, by simp [sumN], rfl, rfl, by simp [upd]; exact nI_0.symm, fun j hj => by simp [upd, hj]⟩
      rintro m2 v4 v7 A2 ⟨u, g, hu, rfl, rfl, rfl, hg1, hg2⟩ ih2
      have eu : (nI u).toNatClampNeg = u := nI_clamp (by omega)
      have hwu := rw_bd hs hW q (thB P S vals) u
      refine pj_lt (lf i - rsN n P W i (thB P S vals) * sumN (wbN n P S W i) u) (rsN n P W i (thB P S vals) * wbN n P S W i u) (fun q3 v6 e6 => ?_) (fun q3 x12 e12 x13 e13 => ?_) rfl rfl (by omega) (by omega)
      · have huv : u = v := by
          rcases Nat.lt_or_ge u v with z | z
          · have := hmono u z
            omega
          · omega
        subst huv
        have e1 : lf i - rsN n P W i (thB P S vals) * sumN (wbN n P S W i) u = lf (i + 1) := by omega
        rw [e1]
        exact nxt g (by rw [hg1, hv1]; rfl) hg2 v6 e6
      · have huv : u < v := by
          rcases Nat.lt_or_ge u v with z | z
          · exact z
          · have : u = v := by omega
            subst this
            omega
        have hm := hmono u huv
        rw [nI_add] at e13
        subst e13
        refine ⟨hin, fun x15 e15 => ?_⟩
        rw [nI_add, eix, u2_up]
        rw [eix, va_up_self, hg1, nI_1] at e15
        refine ⟨hin, ?_⟩
        refine beh (u + 1) _ _ (by omega) (by simp [upd]; exact e15) (fun j hj => by simp [upd, hj]; exact hg2 j hj) ?_
        refine ih2 _ _ _ ⟨u + 1, _, by omega, ?_, rfl, rfl, by simp [upd]; exact e15, fun j hj => by simp [upd, hj]; exact hg2 j hj⟩ ?_
        · rw [e12, lN_sub q3]
          congr 1
          simp only [sumN, Nat.mul_add]
          omega
        · rw [va_up_self, va_up_self, hg1, eu]
          simp only [upd, if_true]
          rw [e15, nI_clamp (by omega)]; omega
    · refine bn_t rfl (fun v6 e6 => ?_)
      obtain ⟨h1, h2⟩ := (hr.2 i q).2 hT
      rw [← h2]
      exact nxt _ (by simp [upd, h1, enc]) (fun j hj => by simp [upd, hj]) v6 e6
end MC
