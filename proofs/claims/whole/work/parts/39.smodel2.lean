/-! the reference: a point's number, filling values, ways, points, distance; the class's distance -/
section MN
variable {n : Nat} {M : Nat → Nat} {P : Nat → Option Nat} {S : Nat → Nat → Bool} {W : Nat → Nat} {A : SA} {B : SB}
theorem va_up33 {k : Nat} {f : Nat → Int32} (h : ∀ j, f j = A k j) : va_up A k f = A := by
  rw [show f = A k from funext h, va_up_id]
theorem w6_numberOf (hs : Shp n M P) (hM : SpM n M P S A) (hw : ∀ c, c < n → B 32 c = lN (W c)) {vals : Nat → Option Nat} (hv : VOK n M P S vals) (hA : ∀ i, i < n → A 33 i = enc (vals i)) {Q : Int64 → SA → Prop}
    (h : Q (lN (plN n P S W vals n)) A) : wp_X6_numberOf A B Q := by
  have hn := hs.1
  have hbb : ∀ j v, j < n → vals j = some v → v < M j := fun j v hj e => by
    cases hT : thB P S vals j with
    | true => obtain ⟨w, h1, h2⟩ := (hv j hj).1 hT; rw [e] at h1; cases h1; exact h2
    | false => have h1 := (hv j hj).2 hT; rw [e] at h1; cases h1
  refine lp3 (wp_X6_numberOf_4 (fun v A => Q v A) Q B) (fun v1 v3 A' => ∃ i : Nat, i ≤ n ∧ v3 = nI i ∧ v1 = lN (plN n P S W vals i) ∧ A = A') (fun _ v3 _ => 8 - v3.toNatClampNeg) ?_ _ _ _ ⟨0, Nat.zero_le n, nI_0.symm, rfl, rfl⟩
  rintro m v1 v3 A' ⟨i, hi, rfl, rfl, rfl⟩ ih
  have ei : (nI i).toNatClampNeg = i := nI_clamp (by omega)
  refine pk_le n i (fun q => ?_) (fun q => ?_) hM.1
  · rw [show i = n by omega]; exact h
  · refine ⟨pk_in i 16 (by omega), fun x e => ?_⟩
    rw [ei, hA i q] at e
    -- how far the value is counted
    obtain ⟨v, hvv⟩ : ∃ v : Nat, v ≤ 30 ∧ plN n P S W vals (i + 1) = plN n P S W vals i + rsN n P W i (thB P S vals) * sumN (wbN n P S W i) v ∧ (∀ u : Nat, u ≤ 30 → (x ≤ nI u ↔ v ≤ u)) := by
      cases hvi : vals i with
      | none =>
        refine ⟨0, by omega, by simp [plN, hvi, sumN], fun u hu => ?_⟩
        rw [e, hvi]
        refine ⟨fun _ => by omega, fun _ => ?_⟩
        have h0 : (-2 : Int32) ≤ 0 := by decide
        have h1 : (0 : Int32) ≤ nI u := nI_pos' (by omega)
        exact Int32.le_trans h0 h1
      | some v =>
        have := hbb i v q hvi
        have := hs.2.1 i q
        refine ⟨v, by omega, by simp [plN, hvi], fun u hu => ?_⟩
        rw [e, hvi]
        exact nI_leI (by omega) (by omega)
    obtain ⟨hv30, hpl, hcmp⟩ := hvv
    rw [ei]
    refine lp3 (wp_X6_numberOf_23 _ Q (nI i) x B) (fun v1 v5 A' => ∃ (u : Nat) (f : Nat → Int32), u ≤ v ∧ v5 = nI u ∧ v1 = lN (plN n P S W vals i + rsN n P W i (thB P S vals) * sumN (wbN n P S W i) u) ∧ A' = va_up A' 33 f ∧ A' = va_up A 33 f ∧ ∀ j, j ≠ i → f j = A 33 j) (fun _ v5 _ => 30 - v5.toNatClampNeg) ?_ _ _ _
      ⟨0, A 33, Nat.zero_le v, nI_0.symm, by simp [sumN], (va_up_id A 33).symm, (va_up_id A 33).symm, fun j _ => rfl⟩
    rintro m2 v1 v5 A2 ⟨u, f, hu, rfl, rfl, -, rfl, hf⟩ ih2
    have eu : (nI u).toNatClampNeg = u := nI_clamp (by omega)
    have hcu := hcmp u (by omega)
    refine ⟨fun q2 => ?_, fun q2 => ?_⟩
    · rw [hcu] at q2
      have huv : u = v := by omega
      subst huv
      refine ⟨pk_in i 16 (by omega), fun v3 e3 => ?_⟩
      rw [nI_1] at e3
      rw [u2_up, va_up33 (fun j => ?_)]
      · refine ih _ _ _ ⟨i + 1, by omega, e3, by rw [hpl], rfl⟩ ?_
        rw [e3, ei, nI_clamp (by omega)]; omega
      · by_cases hji : j = i
        · subst hji; simp only [upd, if_true]; rw [hA j q]; exact e
        · simp only [upd, hji, if_false]; exact hf j hji
    · rw [hcu] at q2
      refine ⟨pk_in i 16 (by omega), ?_⟩
      rw [ei, u2_up]
      have h0 : nI 0 = (0 : Int32) := nI_0
      rw [← h0]
      refine w6_behind hs hM.up (at' := 0) (Or.inl rfl) q (fun c _ hc => hw c hc) (vals := updO vals i (some u)) (fun j hj => ?_) (fun j w hj e => ?_) ?_
      · rw [va_up_self, Nat.zero_add]
        by_cases hji : j = i
        · subst hji; simp [upd, updO, enc]
        · simp only [upd, hji, if_false]
          rw [hf j hji, hA j (by omega)]; simp [updO, hji]
      · by_cases hji : j = i
        · subst hji; simp [updO] at e; omega
        · simp only [updO, hji, if_false] at e
          have := hbb j w (by omega) e
          have := hs.2.1 j (by omega)
          omega
      · rw [updO_op]
        intro x9 e9 v5 e5
        rw [nI_1] at e5
        refine ih2 _ _ _ ⟨u + 1, _, by omega, e5, ?_, ?_, rfl, fun j hj => ?_⟩ ?_
        · rw [e9, lN_add]
          congr 1
          simp only [sumN, Nat.mul_add]
          omega
        · funext a
          by_cases ha : a = 33
          · subst ha; simp [va_up]
          · simp [va_up, ha]
        · simp only [upd, hj, if_false]; exact hf j hj
        · rw [e5, eu, nI_clamp (by omega)]; omega
/-- the reference fills its values by a rule -/
theorem w6_points (hs : Shp n M P) (hM : SpM n M P S A) (hw : ∀ c, c < n → B 32 c = lN (W c)) {Q : Int64 → Prop} (h : Q (lN (allN n P W))) : wp_X6_points A B Q := by
  have hn := hs.1
  refine lp2 (wp_X6_points_4 (fun v => Q v) Q A B) (fun v1 v3 => ∃ i : Nat, i ≤ n ∧ v3 = nI i ∧ v1 = lN (prN (fun c => if P c = none then W c else 1) 0 i)) (fun _ v3 => 8 - v3.toNatClampNeg) ?_ _ _ ⟨0, Nat.zero_le n, nI_0.symm, rfl⟩
  rintro m v1 v3 ⟨i, hi, rfl, rfl⟩ ih
  have ei : (nI i).toNatClampNeg = i := nI_clamp (by omega)
  refine pk_le n i (fun q => ?_) (fun q => ?_) hM.1
  · rw [show i = n by omega, all_roots]; exact h
  · refine ⟨pk_in i 8 (by omega), ?_⟩
    rw [ei]
    have step : ∀ (y : Nat) (x : Int64) (v3 : Int32), (if P i = none then W i else 1) = y → x = lN (prN (fun c => if P c = none then W c else 1) 0 i) * lN y → v3 = nI i + 1 → wp_X6_points_4 (fun v => Q v) Q A B m x v3 := by
      intro y x v3 hy hx h3
      rw [nI_1] at h3
      refine ih _ _ ⟨i + 1, by omega, h3, ?_⟩ ?_
      · rw [hx, lN_mul, prN_r (Nat.zero_le i), hy]
      · rw [h3, ei, nI_clamp (by omega)]; omega
    cases hp : P i with
    | none =>
      refine br_f (Int32.not_le.mpr ((hM.2.2.1 i q).1 hp)) ⟨pk_in i 8 (by omega), fun x e v3 e3 => ?_⟩
      rw [hw i q] at e
      exact step (W i) x v3 (if_pos hp) e e3
    | some p =>
      have hpi := hs.2.2 i p q hp
      rw [(hM.2.2.1 i q).2 p hp]
      exact br_t (nI_pos' (by omega)) (fun x e v3 e3 => step 1 x v3 (if_neg (by rw [hp]; simp)) (by rw [e]; rfl) e3)
theorem w6_waysOf (hs : Shp n M P) (hM : SpM n M P S A) {k v : Nat} (hk : k < n) (hv : v < 32) (hw : ∀ c, k < c → c < n → B 32 c = lN (W c)) {Q : Int64 → Prop} (h : Q (lN (wbN n P S W k v))) : wp_X6_waysOf (nI k) (nI v) A B Q := by
  have hn := hs.1
  intro x e
  rw [nI_1] at e
  subst e
  refine lp2 (wp_X6_waysOf_7 (fun v => Q v) Q (nI k) (nI v) A B) (fun v3 v5 => ∃ c : Nat, k + 1 ≤ c ∧ c ≤ n ∧ v5 = nI c ∧ v3 = lN (prN (fun c => if P c = some k ∧ S c v = true then W c else 1) (k + 1) c)) (fun _ v5 => 8 - v5.toNatClampNeg) ?_ _ _ ⟨k + 1, Nat.le_refl _, by omega, rfl, by rw [prN_ge (Nat.le_refl _)]; rfl⟩
  rintro m v3 v5 ⟨c, hc1, hc2, rfl, rfl⟩ ih
  have ec : (nI c).toNatClampNeg = c := nI_clamp (by omega)
  refine pk_le n c (fun q => ?_) (fun q => ?_) hM.1
  · rw [show c = n by omega]; exact h
  · refine ⟨pk_in c 8 (by omega), ?_⟩
    rw [ec]
    have step : ∀ (y : Nat) (x : Int64) (v5 : Int32), (if P c = some k ∧ S c v = true then W c else 1) = y → x = lN (prN (fun c => if P c = some k ∧ S c v = true then W c else 1) (k + 1) c) * lN y → v5 = nI c + 1 → wp_X6_waysOf_7 (fun v => Q v) Q (nI k) (nI v) A B m x v5 := by
      intro y x v5 hy hx h5
      rw [nI_1] at h5
      refine ih _ _ ⟨c + 1, by omega, by omega, h5, ?_⟩ ?_
      · rw [hx, lN_mul, prN_r hc1, hy]
      · rw [h5, ec, nI_clamp (by omega)]; omega
    have hne : P c ≠ some k → ¬ A 30 c = nI k := by
      intro hp z
      cases hp2 : P c with
      | none =>
        have h1 := (hM.2.2.1 c q).1 hp2
        rw [z] at h1
        exact nI_pos (n := k) (by omega) h1
      | some p =>
        have h1 := (hM.2.2.1 c q).2 p hp2
        have hpc := hs.2.2 c p q hp2
        rw [z, nI_eq (by omega) (by omega)] at h1
        exact hp (by rw [hp2, h1])
    by_cases hp : P c = some k
    · refine bn_t ((hM.2.2.1 c q).2 k hp) ⟨pk_in c 8 (by omega), ⟨fun z x e v5 e5 => ?_, fun z => ⟨pk_in c 8 (by omega), fun x e v5 e5 => ?_⟩⟩⟩
      · rw [bit_s hv, hM.2.2.2 c v q hv] at z
        exact step 1 x v5 (if_neg (fun y => z y.2)) (by rw [e]; rfl) e5
      · rw [bit_s hv, hM.2.2.2 c v q hv] at z
        rw [hw c (by omega) q] at e
        exact step (W c) x v5 (if_pos ⟨hp, z⟩) e e5
    · exact bn_f (hne hp) (fun x e v5 e5 => step 1 x v5 (if_neg (fun y => hp y.1)) (by rw [e]; rfl) e5)
/-- the reference counts its ways -/
theorem w6_ways (hs : Shp n M P) (hW : WOK n M P S W) (hM : SpM n M P S A) {E : SB → Prop} {Q : Int32 → SA → SB → Prop} (h : ∀ f : Nat → Int64, (∀ c, c < n → f c = lN (W c)) → E (va_up B 32 f)) : ∃ m, wp_X6_name_118 E Q A m (nI n - 1) B := by
  have hn := hs.1
  refine lp2 (wp_X6_name_118 E Q A) (fun v4 B' => ∃ (k : Nat) (f : Nat → Int64), k ≤ n ∧ v4 = nI k - 1 ∧ B' = va_up B 32 f ∧ ∀ j, k ≤ j → j < n → f j = lN (W j)) (fun v4 _ => (v4 + 1).toNatClampNeg) ?_ _ _ ⟨n, B 32, Nat.le_refl n, rfl, (va_up_id B 32).symm, fun j h1 h2 => by omega⟩
  rintro m v4 B1 ⟨k, f, hk, rfl, rfl, hf⟩ ih
  cases k with
  | zero => exact br_t (by decide +kernel) (h f (fun c hc => hf c (by omega) hc))
  | succ i =>
    have hi : i < n := by omega
    have ei : (nI i).toNatClampNeg = i := nI_clamp (by omega)
    have hMi := hs.2.1 i hi
    rw [nI_pred]
    refine br_f (nI_pos (by omega)) ⟨pk_in i 8 (by omega), ?_⟩
    rw [ei, u2L_up]
    refine lp2 (wp_X6_name_134 _ Q (nI i) A) (fun v5 B' => ∃ (v : Nat) (g : Nat → Int64), v ≤ M i ∧ v5 = nI v ∧ B' = va_up B 32 g ∧ g i = lN (sumN (wbN n P S W i) v) ∧ ∀ j, j ≠ i → g j = f j) (fun v5 _ => 30 - v5.toNatClampNeg) ?_ _ _ ⟨0, _, Nat.zero_le _, nI_0.symm, rfl, by simp [vp_updL, sumN]; rfl, fun j hj => by simp [vp_updL, hj]⟩
    rintro m2 v5 B2 ⟨v, g, hv, rfl, rfl, hg1, hg2⟩ ih2
    have ev : (nI v).toNatClampNeg = v := nI_clamp (by omega)
    refine ⟨pk_in i 8 (by omega), ?_⟩
    rw [ei, hM.2.1 i hi]
    refine pk_le (M i) v (fun q v4 e4 => ?_) (fun q => ?_)
    · have hdn : nI i + (-1) = nI i - 1 := by rw [Int32.sub_eq_add_neg]
      rw [hdn] at e4
      refine ih _ _ ⟨i, g, by omega, e4, rfl, fun j h1 h2 => ?_⟩ ?_
      · by_cases hji : j = i
        · subst hji; rw [hg1, show v = M j by omega, ← hW j hi]
        · rw [hg2 j hji]; exact hf j (by omega) h2
      · rw [e4, Int32.sub_add_cancel, Int32.sub_add_cancel, ei, nI_clamp (by omega)]; omega
    · refine ⟨pk_in i 8 (by omega), ?_⟩
      refine w6_waysOf (W := W) hs hM hi (show v < 32 by omega) (fun c h1 h2 => ?_) (fun x e => ⟨pk_in i 8 (by omega), fun v5 e5 => ?_⟩)
      · rw [va_up_self, hg2 c (by omega)]; exact hf c (by omega) h2
      · rw [nI_1] at e5
        rw [u2L_up]
        refine ih2 _ _ ⟨v + 1, _, by omega, e5, rfl, ?_, fun j hj => ?_⟩ ?_
        · simp only [vp_updL, if_true]
          rw [e, va_up_self, hg1, lN_add]
          rfl
        · simp only [vp_updL, hj, if_false]; exact hg2 j hj
        · rw [e5, ev, nI_clamp (by omega)]; omega
/-! DISTANCE -/
def dAt (m : Nat) (a b : Option Nat) : Nat := match a, b with
  | none, none => 0
  | some v, some w => (if v ≤ w then w - v else v - w) * 30 / m
  | _, _ => 30
def dN (n : Nat) (M : Nat → Nat) (va vb : Nat → Option Nat) : Nat := sumN (fun i => dAt (M i) (va i) (vb i)) n
theorem dAt_le {m : Nat} (hm : 1 ≤ m) {a b : Option Nat} (ha : ∀ v, a = some v → v < 30) (hb : ∀ v, b = some v → v < 30) : dAt m a b ≤ 900 := by
  unfold dAt
  split
  · omega
  · rename_i v w
    have h1 := ha v rfl
    have h2 := hb w rfl
    refine Nat.le_trans (Nat.div_le_self _ _) ?_
    split <;> omega
  · omega
theorem dN_le (hs : Shp n M P) {va vb : Nat → Option Nat} (ha : ∀ i v, i < n → va i = some v → v < 30) (hb : ∀ i v, i < n → vb i = some v → v < 30) : ∀ i, i ≤ n → sumN (fun i => dAt (M i) (va i) (vb i)) i ≤ i * 900 := by
  intro i hi
  exact sumN_le (fun c hc => dAt_le (hs.2.1 c (by omega)).1 (fun v => ha c v (by omega)) (fun v => hb c v (by omega)))
theorem w_apartAt (hs : Shp n M P) (hC : SpC n M P S A) {i : Nat} (hi : i < n) {a b : Option Nat} (ha : ∀ v, a = some v → v < 30) (hb : ∀ v, b = some v → v < 30) {Q : Int32 → Prop} (h : Q (nI (dAt (M i) a b))) : wp_X3_apartAt (nI i) (enc a) (enc b) A B Q := by
  have hn := hs.1
  have hM := hs.2.1 i hi
  have ei : (nI i).toNatClampNeg = i := nI_clamp (by omega)
  have e30 : (30 : Int32) = nI 30 := rfl
  cases a with
  | none =>
    cases b with
    | none => exact bn_t rfl h
    | some w =>
      have hw := hb w rfl
      refine bn_f (fun z => ?_) (br_t (by decide) h)
      have h1 : enc (none : Option Nat) < 0 := by decide
      rw [z] at h1
      exact nI_pos (n := w) (by omega) h1
  | some v =>
    have hv := ha v rfl
    cases b with
    | none =>
      refine bn_f (fun z => ?_) (br_f (nI_pos (by omega)) (br_f (by decide) h))
      have h1 : enc (none : Option Nat) < 0 := by decide
      rw [← z] at h1
      exact nI_pos (n := v) (by omega) h1
    | some w =>
      have hw := hb w rfl
      refine pk_ne v w (fun q => ?_) (fun q => ?_)
      · refine br_f (nI_pos (by omega)) (br_t (nI_pos' (by omega)) ⟨pk_in i 8 (by omega), ?_⟩)
        rw [ei, hC.2.1 i hi, nI_l (by omega)]
        have ed : ((if 0 ≤ (enc (some v) - enc (some w)) then (enc (some v) - enc (some w)) else 0 - (enc (some v) - enc (some w))) * (30 : Int32)).toInt64 = lN ((if v ≤ w then w - v else v - w) * 30) := by
          show ((if 0 ≤ (nI v - nI w) then (nI v - nI w) else 0 - (nI v - nI w)) * (30 : Int32)).toInt64 = _
          by_cases hvw : v ≤ w
          · rw [if_pos hvw]
            have h1 : ¬ 0 ≤ nI v - nI w := by
              have := pk_sneg (a := v) (b := w) (by omega) (by omega)
              exact Int32.not_le.mpr this
            have h2 : (0 : Int32) - (nI v - nI w) = nI (w - v) := by
              rw [← pk_sub hvw, Int32.zero_sub, Int32.neg_sub]
            rw [if_neg h1, h2, e30, pk_mul, nI_l (by omega)]
          · rw [if_neg hvw]
            have h1 : 0 ≤ nI v - nI w := by rw [pk_sub (by omega)]; exact nI_pos' (by omega)
            rw [if_pos h1, pk_sub (by omega), e30, pk_mul, nI_l (by omega)]
        rw [ed]
        have hb1 : (if v ≤ w then w - v else v - w) * 30 < 1000 := by split <;> omega
        refine w_cut (by omega) (by omega) (by omega) ?_
        rw [lN_i]
        exact h
      · subst q
        have e0 : dAt (M i) (some v) (some v) = 0 := by simp [dAt]
        rw [e0] at h
        exact h
theorem w_apart (hs : Shp n M P) (hC : SpC n M P S A) {k1 k2 : Nat} (hk1 : offC k1) (hk2 : offC k2) {va vb : Nat → Option Nat} (ha : ∀ i, i < n → A k1 i = enc (va i)) (hb : ∀ i, i < n → A k2 i = enc (vb i)) (ha2 : ∀ i v, i < n → va i = some v → v < 30) (hb2 : ∀ i v, i < n → vb i = some v → v < 30) {Q : Int32 → Prop}
    (h : Q (nI (dN n M va vb))) : wp_X3_apart k1 k2 A B Q := by
  have hn := hs.1
  refine lp2 (wp_X3_apart_5 (fun v => Q v) Q k1 k2 A B) (fun v3 v4 => ∃ i : Nat, i ≤ n ∧ v4 = nI i ∧ v3 = nI (sumN (fun i => dAt (M i) (va i) (vb i)) i)) (fun _ v4 => 8 - v4.toNatClampNeg) ?_ _ _ ⟨0, Nat.zero_le n, nI_0.symm, rfl⟩
  rintro m v3 v4 ⟨i, hi, rfl, rfl⟩ ih
  have ei : (nI i).toNatClampNeg = i := nI_clamp (by omega)
  refine pk_le n i (fun q => ?_) (fun q => ?_) hC.1
  · rw [show i = n by omega]; exact h
  · refine ⟨⟨hk1.1, hk1.2.1, by rw [hk1.2.2.1]; exact pk_in i 8 (by omega)⟩, ⟨hk2.1, hk2.2.1, by rw [hk2.2.2.1]; exact pk_in i 8 (by omega)⟩, ?_⟩
    rw [ei, ha i q, hb i q]
    refine w_apartAt hs hC q (fun v => ha2 i v q) (fun v => hb2 i v q) (fun x e v4 e4 => ?_)
    rw [nI_1] at e4
    refine ih _ _ ⟨i + 1, by omega, e4, by rw [e, nI_add]; rfl⟩ ?_
    rw [e4, ei, nI_clamp (by omega)]; omega
theorem w6_distanceOf (hs : Shp n M P) (hW : WOK n M P S W) (hM : SpM n M P S A) (hw : ∀ c, c < n → B 32 c = lN (W c)) {p q : Nat} {va vb : Nat → Option Nat} {la lb : Nat → Nat} (ha : RdIs n M P S W p va la) (hb : RdIs n M P S W q vb lb) {Q : Int32 → SA → Prop}
    (h : ∀ f : Nat → Int32, Q (nI (dN n M va vb)) (va_up A 33 f)) : wp_X6_distanceOf (lN p) (lN q) A B Q := by
  have hn := hs.1
  have hv30 : ∀ {p : Nat} {va : Nat → Option Nat} {la : Nat → Nat}, RdIs n M P S W p va la → ∀ i v, i < n → va i = some v → v < 30 := by
    intro p va la ha i v hi e
    have hM := hs.2.1 i hi
    cases hT : thB P S va i with
    | true => obtain ⟨w, h1, h2⟩ := (ha.ok i hi).1 hT; rw [e] at h1; cases h1; omega
    | false => have h1 := (ha.ok i hi).2 hT; rw [e] at h1; cases h1
  rw [show wp_X6_distanceOf (lN p) (lN q) A B Q = wp_X6_find (nI 0) (lN p) A B _ from rfl]
  refine w6_find hs hW hM hw (Or.inl rfl) ha (fun f hf1 hf2 => ?_)
  refine w6_find (at' := 8) hs hW hM.up hw (Or.inr rfl) hb (fun g hg1 hg2 => ?_)
  have eup : va_up (va_up A 33 f) 33 g = va_up A 33 g := by
    funext a
    by_cases h9 : a = 33
    · subst h9; simp [va_up]
    · simp [va_up, h9]
  rw [eup]
  have hg0 : ∀ i, i < n → g i = enc (va i) := fun i hi => by rw [hg2 i (Or.inl (by omega)), va_up_self]; simpa using hf1 i hi
  refine lp2 (wp_X6_distanceOf_19 _ Q _ B) (fun v5 v6 => ∃ i : Nat, i ≤ n ∧ v6 = nI i ∧ v5 = nI (sumN (fun i => dAt (M i) (va i) (vb i)) i)) (fun _ v6 => 8 - v6.toNatClampNeg) ?_ _ _ ⟨0, Nat.zero_le n, nI_0.symm, rfl⟩
  rintro m v5 v6 ⟨i, hi, rfl, rfl⟩ ih
  have ei : (nI i).toNatClampNeg = i := nI_clamp (by omega)
  refine pk_le n i (fun q => ?_) (fun q => ?_) (hM.up (f := g)).1
  · rw [show i = n by omega]; exact h g
  · refine ⟨pk_in i 16 (by omega), fun x9 e9 x10 e10 => ?_⟩
    have e10' : x10 = nI (8 + i) := by rw [e10, show (8 : Int32) = nI 8 from rfl, nI_add]
    subst e10'
    refine ⟨pk_in (8 + i) 16 (by omega), fun x12 e12 => ?_⟩
    rw [ei, va_up_self, hg0 i q] at e9
    rw [nI_clamp (by omega), va_up_self, hg1 i q] at e12
    have eM := (hM.up (f := g)).2.1 i q
    have hMi := hs.2.1 i q
    have step : ∀ (y : Nat) (x : Int32) (v6 : Int32), dAt (M i) (va i) (vb i) = y → x = nI (sumN (fun i => dAt (M i) (va i) (vb i)) i) + nI y → v6 = nI i + 1 → wp_X6_distanceOf_19 (fun v5 => Q v5 (va_up A 33 g)) Q (va_up A 33 g) B m x v6 := by
      intro y x v6 hy hx h6
      rw [nI_1] at h6
      refine ih _ _ ⟨i + 1, by omega, h6, ?_⟩ ?_
      · rw [hx, nI_add]; simp only [sumN]; rw [hy]
      · rw [h6, ei, nI_clamp (by omega)]; omega
    have e0 : (0 : Int32) = nI 0 := rfl
    have e30 : (30 : Int32) = nI 30 := rfl
    have hm0 : ¬ nI (M i) = 0 := nI_ne0 (by omega) (by omega)
    cases hva : va i with
    | none =>
      rw [hva] at e9
      have x9n : x9 < 0 := by rw [e9]; decide
      have x9n' : ¬ (0 : Int32) ≤ x9 := Int32.not_le.mpr x9n
      cases hvb : vb i with
      | none =>
        rw [hvb] at e12
        have x12n' : ¬ (0 : Int32) ≤ x12 := by rw [e12]; decide
        refine br_t (by rw [e9, e12]; exact Int32.le_refl _) (fun _ _ => br_f x9n' (br_f x12n' (fun x e v6 e6 => step 0 x v6 (by rw [hva, hvb]; rfl) e e6)))
      | some w =>
        rw [hvb] at e12
        have hw30 := hv30 hb i w q hvb
        have x12p : (0 : Int32) ≤ x12 := by rw [e12]; exact nI_pos' (by omega)
        refine br_t (Int32.le_trans (Int32.le_of_lt x9n) x12p) (fun _ _ => br_f x9n' (br_t x12p (br_t x9n (fun x e v6 e6 => step 30 x v6 (by rw [hva, hvb]; rfl) e e6))))
    | some v =>
      rw [hva] at e9
      have hv30' := hv30 ha i v q hva
      have x9p : (0 : Int32) ≤ x9 := by rw [e9]; exact nI_pos' (by omega)
      have x9p' : ¬ x9 < 0 := Int32.not_lt.mpr x9p
      cases hvb : vb i with
      | none =>
        rw [hvb] at e12
        have x12n : x12 < 0 := by rw [e12]; decide
        have x12n' : ¬ (0 : Int32) ≤ x12 := Int32.not_le.mpr x12n
        refine br_f (fun z => x12n' (Int32.le_trans x9p z)) (fun _ _ => br_t x9p (br_f x9p' (br_f x12n' (fun x e v6 e6 => step 30 x v6 (by rw [hva, hvb]; rfl) e e6))))
      | some w =>
        rw [hvb] at e12
        have hw30 := hv30 hb i w q hvb
        have x12p : (0 : Int32) ≤ x12 := by rw [e12]; exact nI_pos' (by omega)
        have fin : ∀ (d : Nat) (x : Int32), d ≤ 30 → x = nI d → (if v ≤ w then w - v else v - w) = d → vp_in (nI i) 8 ∧ (¬ va_up A 33 g 29 (nI i).toNatClampNeg = 0) ∧ ∀ y : Int32, y = nI (sumN (fun i => dAt (M i) (va i) (vb i)) i) + x * 30 / va_up A 33 g 29 (nI i).toNatClampNeg → ∀ v6 : Int32, v6 = nI i + 1 → wp_X6_distanceOf_19 (fun v5 => Q v5 (va_up A 33 g)) Q (va_up A 33 g) B m y v6 := by
          intro d x hd hx hd2
          rw [ei, eM]
          refine ⟨pk_in i 8 (by omega), hm0, fun y ey v6 e6 => step (d * 30 / M i) y v6 (by rw [hva, hvb]; simp only [dAt]; rw [hd2]) ?_ e6⟩
          rw [ey, hx, e30, pk_mul, pk_div (by omega) (by omega) (by omega)]
        refine ⟨fun z x14 e14 => br_t x9p (br_f x9p' (br_t x12p ?_)), fun z x39 e39 => br_t x9p (br_f x9p' (br_t x12p ?_))⟩
        · have hvw : v ≤ w := by rw [e9, e12] at z; exact (nI_leI (by omega) (by omega)).mp z
          exact fin (w - v) x14 (by omega) (by rw [e14, e9, e12]; exact pk_sub hvw) (if_pos hvw)
        · have hvw : ¬ v ≤ w := by rw [e9, e12] at z; exact fun y => z ((nI_leI (by omega) (by omega)).mpr y)
          exact fin (v - w) x39 (by omega) (by rw [e39, e9, e12]; exact pk_sub (by omega)) (if_neg hvw)
end MN
