/-! the class counts its ways -/
theorem u2L_up {B : SB} {k i : Nat} {f : Nat → Int64} {x : Int64} : u2L (va_up B k f) k i x = va_up B k (vp_updL f i x) := by
  funext j
  by_cases h : j = k
  · subst h; simp [u2L, va_up]
  · simp [u2L, va_up, h]
theorem w_fillL {k : Nat} (hk : kd k = 2) (hk2 : k < NW) (hl : ulen k < 2 ^ 31) {v : Int64} {A : SA} {B : SB} {Q : SB → Prop} (h : ∀ f : Nat → Int64, (∀ j, j < ulen k → f j = v) → Q (va_up B k f)) : wp_J7_fill_d0a16 k v A B Q := by
  refine ⟨⟨Or.inr hk, hk2⟩, fun x e => ?_⟩
  subst e
  refine lp2 (wp_J7_fill_d0a16_6 (fun B => Q B) Q k v (nI (ulen k)) A) (fun v3 B' => ∃ (i : Nat) (f : Nat → Int64), i ≤ ulen k ∧ v3 = nI i ∧ B' = va_up B k f ∧ ∀ j, j < i → f j = v) (fun v3 _ => ulen k - v3.toNatClampNeg) ?_ _ _ ⟨0, B k, Nat.zero_le _, nI_0.symm, (va_up_id B k).symm, fun j hj => by omega⟩
  rintro m v3 B' ⟨i, f, hi, rfl, rfl, hf⟩ ih
  have ei : (nI i).toNatClampNeg = i := nI_clamp (by omega)
  refine pk_le (ulen k) i (fun q => ?_) (fun q => ?_)
  · exact h f (fun j hj => hf j (by omega))
  · refine ⟨⟨hk, hk2, pk_in i (ulen k) q⟩, fun v3 e3 => ?_⟩
    rw [e3, nI_1, ei, u2L_up]
    refine ih _ _ ⟨i + 1, _, by omega, rfl, rfl, fun j hj => ?_⟩ ?_
    · by_cases hji : j = i
      · subst hji; simp [vp_updL]
      · simp only [vp_updL, hji, if_false]; exact hf j (by omega)
    · rw [ei, nI_clamp (by omega)]; omega
/-- the longs that counting the ways leaves as they are -/
def keepB (B B' : SB) : Prop := ∀ c, c ≠ 1 → c ≠ 11 → (c < 48 ∨ 56 ≤ c) → B' c = B c
def wzN (n : Nat) (P : Nat → Option Nat) (S : Nat → Nat → Bool) (W : Nat → Nat) (k j v : Nat) : Nat := prN (fun c => if P c = some j ∧ S c v = true then W c else 1) k n
section SW
variable {n : Nat} {M : Nat → Nat} {P : Nat → Option Nat} {S : Nat → Nat → Bool} {W : Nat → Nat} {A : SA} {B : SB}
theorem wz_wb (hs : Shp n M P) {j v : Nat} : ∀ d k, k + d = j + 1 → j < n → wzN n P S W k j v = wbN n P S W j v := by
  intro d
  induction d with
  | zero => intro k hk _; rw [show k = j + 1 by omega]; rfl
  | succ d ih =>
    intro k hk hj
    rw [← ih (k + 1) (by omega) hj]
    unfold wzN
    rw [prN_l (by omega)]
    have : ¬ (P k = some j ∧ S k v = true) := fun z => by have := hs.2.2 k j (by omega) z.1; omega
    rw [if_neg this, Nat.one_mul]
theorem w_sumOfWays (hs : Shp n M P) (hC : SpC n M P S A) {i : Nat} (hi : i < n) {f : Nat → Nat} (hf : ∀ v, v < M i → B (48 + i) v = lN (f v)) {Q : Int64 → Prop} (h : Q (lN (sumN f (M i)))) : wp_X3_sumOfWays (nI i) A B Q := by
  have hn := hs.1
  have hM := hs.2.1 i hi
  have ei : (nI i).toNatClampNeg = i := nI_clamp (by omega)
  refine lp2 (wp_X3_sumOfWays_5 (fun v => Q v) Q (nI i) A B) (fun v2 v4 => ∃ u : Nat, u ≤ M i ∧ v4 = nI u ∧ v2 = lN (sumN f u)) (fun _ v4 => 30 - v4.toNatClampNeg) ?_ _ _ ⟨0, Nat.zero_le _, nI_0.symm, rfl⟩
  rintro m v2 v4 ⟨u, hu, rfl, rfl⟩ ih
  have eu : (nI u).toNatClampNeg = u := nI_clamp (by omega)
  refine ⟨pk_in i 8 (by omega), ?_⟩
  rw [ei, hC.2.1 i hi]
  refine pk_le (M i) u (fun q => ?_) (fun q => ?_)
  · rw [show u = M i by omega]; exact h
  · refine ⟨pk_in i 8 (by omega), pk_in u 30 (by omega), fun x e v4 e4 => ?_⟩
    refine ih _ _ ⟨u + 1, by omega, by rw [e4, nI_1], ?_⟩ ?_
    · rw [e, eu, hf u q, lN_add]; rfl
    · rw [e4, nI_1, eu, nI_clamp (by omega)]; omega
theorem w_hang (hs : Shp n M P) (hC : SpC n M P S A) {i p : Nat} (hi : i < n) (hp : p < n) {Q : SB → Prop}
    (h : ∀ f : Nat → Int64, (∀ v, v < M p → f v = if S i v = true then B (48 + p) v * B 11 i else B (48 + p) v) → Q (va_up B (48 + p) f)) : wp_X3_hang (nI i) (nI p) A B Q := by
  have hn := hs.1
  have hM := hs.2.1 p hp
  have ei : (nI i).toNatClampNeg = i := nI_clamp (by omega)
  have ep : (nI p).toNatClampNeg = p := nI_clamp (by omega)
  refine lp2 (wp_X3_hang_2 (fun B => Q B) Q (nI i) (nI p) A) (fun v3 B' => ∃ (u : Nat) (f : Nat → Int64), u ≤ M p ∧ v3 = nI u ∧ B' = va_up B (48 + p) f ∧ (∀ v, v < u → f v = if S i v = true then B (48 + p) v * B 11 i else B (48 + p) v) ∧ ∀ v, u ≤ v → f v = B (48 + p) v) (fun v3 _ => 30 - v3.toNatClampNeg) ?_ _ _
    ⟨0, B (48 + p), Nat.zero_le _, nI_0.symm, (va_up_id B (48 + p)).symm, fun v hv => by omega, fun v _ => rfl⟩
  rintro m v3 B' ⟨u, f, hu, rfl, rfl, hf1, hf2⟩ ih
  have eu : (nI u).toNatClampNeg = u := nI_clamp (by omega)
  refine ⟨pk_in p 8 (by omega), ?_⟩
  rw [ep, hC.2.1 p hp]
  refine pk_le (M p) u (fun q => ?_) (fun q => ?_)
  · exact h f (fun v hv => hf1 v (by omega))
  · refine ⟨pk_in i 8 (by omega), ?_⟩
    rw [ei]
    have eb := hC.2.2.2 i u hi (by omega)
    refine w_hasBit (show u < 32 by omega) (fun hT => ?_) (fun hT => ?_)
    · rw [eb] at hT
      refine br_f (by decide) ⟨pk_in p 8 (by omega), pk_in u 30 (by omega), pk_in i 8 (by omega), fun x e => ⟨pk_in u 30 (by omega), fun v3 e3 => ?_⟩⟩
      rw [e3, nI_1, eu, u2L_up]
      refine ih _ _ ⟨u + 1, _, by omega, rfl, rfl, fun v hv => ?_, fun v hv => ?_⟩ ?_
      · by_cases hvu : v = u
        · subst hvu
          rw [if_pos hT]
          simp only [vp_updL, if_true]
          rw [e, eu, va_up_self, va_up_ne _ _ (by omega), hf2 v (Nat.le_refl v)]
        · simp only [vp_updL, hvu, if_false]; exact hf1 v (by omega)
      · simp only [vp_updL, show v ≠ u by omega, if_false]; exact hf2 v (by omega)
      · rw [eu, nI_clamp (by omega)]; omega
    · rw [eb] at hT
      refine br_t rfl (fun v3 e3 => ?_)
      rw [e3, nI_1]
      refine ih _ _ ⟨u + 1, f, by omega, rfl, rfl, fun v hv => ?_, fun v hv => hf2 v (by omega)⟩ ?_
      · by_cases hvu : v = u
        · subst hvu
          rw [if_neg (by rw [hT]; decide)]
          exact hf2 v (Nat.le_refl v)
        · exact hf1 v (by omega)
      · rw [eu, nI_clamp (by omega)]; omega
theorem all_roots : prN (fun c => if P c = none then W c else 1) 0 n = allN n P W := by
  refine prN_congr (fun c _ _ => ?_)
  cases h : P c with
  | none => simp [plB, h]
  | some p => simp [plB, h]
theorem w_countWays (hs : Shp n M P) (hW : WOK n M P S W) (hC : SpC n M P S A) {Q : SB → Prop} (h : ∀ B' : SB, SpW n M P S W B' → keepB B B' → Q B') : wp_X3_countWays A B Q := by
  have hn := hs.1
  refine lp2 (wp_X3_countWays_7 _ Q A) (fun v1 B' => ∃ i : Nat, i ≤ n ∧ v1 = nI i ∧ B' 1 1 = 1 ∧ keepB B B' ∧ ∀ j v, j < i → v < 30 → B' (48 + j) v = 1) (fun v1 _ => 8 - v1.toNatClampNeg) ?_ _ _ ⟨0, Nat.zero_le n, nI_0.symm, u2L_self, fun c h1 h2 h3 => u2L_kn h1, fun j v hj => by omega⟩
  rintro m v1 B1 ⟨i, hi, rfl, h1, hk, hf⟩ ih
  have ei : (nI i).toNatClampNeg = i := nI_clamp (by omega)
  refine pk_le n i (fun q => ?_) (fun q => ?_) hC.1
  · -- downwards
    intro x e
    have ex : x = nI n - 1 := by rw [e, hC.1]
    refine lp2 (wp_X3_countWays_38 (fun B => Q B) Q A) (fun v1 B' => ∃ k : Nat, k ≤ n ∧ v1 = nI k - 1 ∧ keepB B B' ∧ B' 1 1 = lN (prN (fun c => if P c = none then W c else 1) k n) ∧ (∀ j, k ≤ j → j < n → B' 11 j = lN (W j)) ∧ ∀ j v, j < n → v < M j → B' (48 + j) v = lN (wzN n P S W k j v)) (fun v1 _ => (v1 + 1).toNatClampNeg) ?_ _ _
      ⟨n, Nat.le_refl n, ex, hk, by rw [h1, prN_ge (Nat.le_refl n)]; rfl, fun j h1 h2 => by omega, fun j v hj hv => by
        have := hs.2.1 j hj
        rw [hf j v (by omega) (by omega)]; unfold wzN; rw [prN_ge (Nat.le_refl n)]; rfl⟩
    rintro m2 v1 B2 ⟨k, hkn, rfl, hk2, ha, hw, hz⟩ ih2
    have emu : nI k - 1 + 1 = nI k := by
      cases k with
      | zero => decide +kernel
      | succ k => rw [nI_pred, nI_1]
    cases k with
    | zero =>
      refine br_t (by decide +kernel) (h B2 ⟨?_, fun j hj => hw j (by omega) hj, fun j v hj hv => ?_⟩ hk2)
      · rw [ha, all_roots]
      · rw [hz j v hj hv, wz_wb hs (j + 1) 0 (by omega) hj]
    | succ i2 =>
      have hi2 : i2 < n := by omega
      have ei2 : (nI i2).toNatClampNeg = i2 := nI_clamp (by omega)
      have hM := hs.2.1 i2 hi2
      rw [nI_pred]
      refine br_f (nI_pos (by omega)) ?_
      refine w_sumOfWays hs hC hi2 (f := fun v => wzN n P S W (i2 + 1) i2 v) (fun v hv => hz i2 v hi2 hv) ⟨pk_in i2 8 (by omega), pk_in i2 8 (by omega), ?_⟩
      have eW : sumN (fun v => wzN n P S W (i2 + 1) i2 v) (M i2) = W i2 := by
        rw [hW i2 hi2]
        rfl
      rw [eW, ei2]
      have e9 := hC.2.2.1 i2 hi2
      have hdn : nI i2 + (-1) = nI i2 - 1 := by rw [Int32.sub_eq_add_neg]
      -- the new ways
      have hw' : ∀ B3 : SB, B3 11 = (u2L B2 11 i2 (lN (W i2))) 11 → ∀ j, i2 ≤ j → j < n → B3 11 j = lN (W j) := by
        intro B3 e3 j h1 h2
        rw [e3]
        by_cases hj : j = i2
        · subst hj; exact u2L_self
        · rw [u2L_ne hj]; exact hw j (by omega) h2
      cases hp : P i2 with
      | none =>
        refine br_f (Int32.not_le.mpr (e9.1 hp)) ⟨pk_in i2 8 (by omega), fun x ex v1 ev => ?_⟩
        rw [ev, hdn]
        refine ih2 _ _ ⟨i2, by omega, rfl, ?_, ?_, ?_, ?_⟩ ?_
        · intro c h1 h2 h3
          rw [u2L_kn h1, u2L_kn h2]
          exact hk2 c h1 h2 h3
        · rw [u2L_self, ex, u2L_self, ha, lN_mul, prN_l (a := i2) hi2, if_pos hp, Nat.mul_comm]
        · exact hw' _ (by rw [u2L_kn (by decide)])
        · intro j v hj hv
          rw [u2L_kn (by omega), u2L_kn (by omega), hz j v hj hv]
          unfold wzN
          rw [prN_l (a := i2) hi2, if_neg (by rw [hp]; simp), Nat.one_mul]
        · rw [emu, nI_clamp (by omega)]
          have : (nI i2 - 1 + 1) = nI i2 := by rw [Int32.sub_add_cancel]
          rw [this, ei2]
          omega
      | some p =>
        have hpi := hs.2.2 i2 p hi2 hp
        rw [e9.2 p hp]
        refine br_t (nI_pos' (by omega)) ⟨pk_in i2 8 (by omega), ?_⟩
        refine w_hang hs hC hi2 (show p < n by omega) (fun f hf3 v1 ev => ?_)
        rw [ev, hdn]
        refine ih2 _ _ ⟨i2, by omega, rfl, ?_, ?_, ?_, ?_⟩ ?_
        · intro c h1 h2 h3
          rw [va_up_ne _ _ (by omega), u2L_kn h2]
          exact hk2 c h1 h2 h3
        · rw [va_up_ne _ _ (by omega), u2L_kn (by decide), ha, prN_l (a := i2) hi2, if_neg (by rw [hp]; simp), Nat.one_mul]
        · exact hw' _ (by rw [va_up_ne _ _ (by omega)])
        · intro j v hj hv
          have ez : wzN n P S W i2 j v = (if P i2 = some j ∧ S i2 v = true then W i2 else 1) * wzN n P S W (i2 + 1) j v := by
            unfold wzN
            rw [prN_l (a := i2) hi2]
          by_cases hjp : j = p
          · subst hjp
            rw [va_up_self, hf3 v hv, u2L_kn (by omega), u2L_self, hz j v hj hv, ez]
            by_cases hS : S i2 v = true
            · rw [if_pos hS, if_pos ⟨hp, hS⟩, lN_mul, Nat.mul_comm]
            · rw [if_neg hS, if_neg (fun z => hS z.2), Nat.one_mul]
          · rw [va_up_ne _ _ (by omega), u2L_kn (by omega), hz j v hj hv, ez, if_neg (by rw [hp]; simp; intro z; exact absurd z.symm hjp), Nat.one_mul]
        · rw [emu, nI_clamp (by omega)]
          have : (nI i2 - 1 + 1) = nI i2 := by rw [Int32.sub_add_cancel]
          rw [this, ei2]
          omega
  · have hin8 : vp_in (nI i) 8 := pk_in i 8 (by omega)
    have hrow := urow_48 hin8
    refine ⟨hin8, ?_⟩
    refine w_fillL hrow.1 hrow.2.1 (by rw [hrow.2.2]; decide) (fun f hf2 v1 e1 => ?_)
    rw [hrow.2.2] at hf2
    rw [e1, nI_1]
    rw [ei]
    refine ih _ _ ⟨i + 1, by omega, rfl, by rw [va_up_ne _ _ (by omega)]; exact h1, fun c h1 h2 h3 => by rw [va_up_ne _ _ (by omega)]; exact hk c h1 h2 h3, fun j v hj hv => ?_⟩ ?_
    · by_cases hji : j = i
      · subst hji; rw [va_up_self]; exact hf2 v hv
      · rw [va_up_ne _ _ (by omega)]; exact hf j v (by omega) hv
    · rw [ei, nI_clamp (by omega)]; omega
end SW
