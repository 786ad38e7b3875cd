/-! the reference fills its values: by the bits of a number, by picks -/
theorem l5 (x : Int64) {k : Nat} (hk : k ≤ 35) : ((x >>> ((nI k).toInt64 &&& 63)) &&& (31 : Int64)) = ((x.toUInt64 >>> ((nI k).toInt64.toUInt64 &&& Int64.toUInt64 63)).toInt64 &&& (31 : Int64)) := by
  have h31 : ∀ i, i < 64 → (31 : Int64).toBitVec.getLsbD i = decide (i < 5) := by decide +kernel
  have e1 : (x >>> ((nI k).toInt64 &&& 63)).toBitVec = x.toBitVec.sshiftRight k := by
    rw [wb_c k (by omega), Int64.toBitVec_shiftRight, wb_tb, wb_sm k (by omega)]
    show x.toBitVec.sshiftRight (BitVec.ofNat 64 k).toNat = _
    rw [BitVec.toNat_ofNat, Nat.mod_eq_of_lt (by omega)]
  have e2 : (x.toUInt64 >>> ((nI k).toInt64.toUInt64 &&& Int64.toUInt64 63)).toInt64.toBitVec = x.toBitVec >>> k := by
    rw [wb_cu k (by omega)]
    show (x.toUInt64 >>> UInt64.ofNat k).toBitVec = _
    apply BitVec.eq_of_toNat_eq
    show (x.toUInt64 >>> UInt64.ofNat k).toNat = _
    have h1 : (UInt64.ofNat k).toNat = k := by
      show (BitVec.ofNat 64 k).toNat = k
      rw [BitVec.toNat_ofNat, Nat.mod_eq_of_lt (by omega)]
    rw [UInt64.toNat_shiftRight, h1, BitVec.toNat_ushiftRight, Nat.mod_eq_of_lt (show k < 64 by omega)]
    rfl
  apply wb_inj
  rw [Int64.toBitVec_and, Int64.toBitVec_and, e1, e2]
  apply BitVec.eq_of_getLsbD_eq
  intro i hi
  rw [BitVec.getLsbD_and, BitVec.getLsbD_and, h31 i hi]
  by_cases h5 : i < 5
  · rw [BitVec.getLsbD_sshiftRight, BitVec.getLsbD_ushiftRight]
    simp [h5, show k + i < 64 by omega, show ¬ 64 ≤ i by omega]
  · simp [h5]
def dgN (w : Nat) (i : Nat) : Nat := w / 2 ^ (5 * i) % 32
theorem dg_c {w i : Nat} (hw : w < 2 ^ 64) (hi : i < 8) : (((lN w).toUInt64 >>> (((5 : Int32) * nI i).toInt64.toUInt64 &&& Int64.toUInt64 63)).toInt64.toInt32 &&& (31 : Int32)) = nI (dgN w i) ∧ dgN w i < 32 := by
  have e5 : (5 : Int32) * nI i = nI (5 * i) := by rw [show (5 : Int32) = nI 5 from rfl, pk_mul]
  refine ⟨?_, Nat.mod_lt _ (by decide)⟩
  rw [e5, wb_shr hw (by omega), lN_i, pk_and _ 5 (by decide +kernel)]
  congr 1
  have : (nI (w / 2 ^ (5 * i))).toBitVec.toNat = w / 2 ^ (5 * i) % 4294967296 := rfl
  rw [this]
  show w / 2 ^ (5 * i) % 4294967296 % 32 = w / 2 ^ (5 * i) % 32
  omega
theorem dg_m {w i : Nat} (hw : w < 2 ^ 64) (hi : i < 8) : ((lN w >>> (((5 : Int32) * nI i).toInt64 &&& 63)) &&& (31 : Int64)).toInt32 = nI (dgN w i) := by
  have e5 : (5 : Int32) * nI i = nI (5 * i) := by rw [show (5 : Int32) = nI 5 from rfl, pk_mul]
  have hd : w / 2 ^ (5 * i) < 2 ^ 64 := Nat.lt_of_le_of_lt (Nat.div_le_self _ _) hw
  rw [e5, l5 _ (by omega), wb_shr hw (by omega), show (31 : Int64) = lN (2 ^ 5 - 1) from rfl, wb_mask hd (by decide), lN_i]
  rfl
section FM
variable {n : Nat} {M : Nat → Nat} {P : Nat → Option Nat} {S : Nat → Nat → Bool} {W : Nat → Nat} {A : SA} {B : SB}
theorem w6_number (hs : Shp n M P) (hM : SpM n M P S A) (hw : ∀ c, c < n → B 32 c = lN (W c)) {w : Nat} (hw64 : w < 2 ^ 64) {vals : Nat → Option Nat} (hf : FillIs n P S (dgN w) vals) {Q : Int64 → SA → Prop}
    (h1 : (∀ i, i < n → thB P S vals i = true → dgN w i < M i) → ∀ f : Nat → Int32, Q (lN (plN n P S W vals n)) (va_up A 33 f))
    (h0 : ¬ (∀ i, i < n → thB P S vals i = true → dgN w i < M i) → ∀ f : Nat → Int32, Q (-2) (va_up A 33 f)) : wp_X6_number (lN w) A B Q := by
  have hn := hs.1
  have h00 : (0 : Int32) = nI 0 := rfl
  refine lp2 (wp_X6_number_2 Q (lN w) B) (fun v3 A' => ∃ (i : Nat) (f : Nat → Int32), i ≤ n ∧ v3 = nI i ∧ A' = va_up A 33 f ∧ (∀ j, j < i → f j = enc (vals j)) ∧ ∀ j, j < i → thB P S vals j = true → dgN w j < M j) (fun v3 _ => 8 - v3.toNatClampNeg) ?_ _ _
    ⟨0, A 33, Nat.zero_le n, nI_0.symm, (va_up_id A 33).symm, fun j hj => by omega, fun j hj => by omega⟩
  rintro m v3 A' ⟨i, f, hi, rfl, rfl, hf2, hok⟩ ih
  have ei : (nI i).toNatClampNeg = i := nI_clamp (by omega)
  refine pk_le n i (fun q => ?_) (fun q => ?_) (hM.up (f := f)).1
  · refine w6_numberOf hs hM.up hw (hf.ok (fun j hj => hok j (by omega))) (fun j hj => by rw [va_up_self]; exact hf2 j (by omega)) ?_
    exact h1 (fun j hj => hok j (by omega)) f
  · refine ⟨pk_in i 16 (by omega), ?_⟩
    rw [ei, u2_up, h00]
    have hb := hf.b (fun j hj => Nat.mod_lt _ (by decide))
    refine w6_there (at' := 0) hs hM.up (Or.inl rfl) q (vals := vals) (fun p hp => ?_) (fun hT => ?_) (fun hT => ?_)
    · have hpi := hs.2.2 i p q hp
      refine ⟨?_, fun v => hb p v (by omega)⟩
      rw [va_up_self, Nat.zero_add, upd, if_neg (by omega)]
      exact hf2 p hpi
    · refine br_f (by decide) (fun x e => ⟨pk_in i 16 (by omega), pk_in i 16 (by omega), pk_in i 8 (by omega), ?_⟩)
      have ex : x = nI (dgN w i) := by rw [e]; exact dg_m hw64 (by omega)
      subst ex
      rw [u2_up, va_up_self, va_up_ne _ _ (by decide), hM.2.1 i q]
      have hd : dgN w i < 32 := Nat.mod_lt _ (by decide)
      have hMi := hs.2.1 i q
      have e2 : upd (upd f i (-2)) i (nI (dgN w i)) i = nI (dgN w i) := by simp [upd]
      refine pk_lt (dgN w i) (M i) (fun q2 v3 e3 => ?_) (fun q2 => ?_) e2
      · rw [nI_1] at e3
        refine ih _ _ ⟨i + 1, _, by omega, e3, rfl, fun j hj => ?_, fun j hj hTj => ?_⟩ ?_
        · by_cases hji : j = i
          · subst hji
            rw [hf j q, if_pos hT, e2]
            rfl
          · simp only [upd, hji, if_false]; exact hf2 j (by omega)
        · by_cases hji : j = i
          · subst hji; exact q2
          · exact hok j (by omega) hTj
        · rw [e3, ei, nI_clamp (by omega)]; omega
      · exact h0 (fun z => by have := z i q hT; omega) _
    · refine br_t rfl (fun v3 e3 => ?_)
      rw [nI_1] at e3
      refine ih _ _ ⟨i + 1, _, by omega, e3, rfl, fun j hj => ?_, fun j hj hTj => ?_⟩ ?_
      · by_cases hji : j = i
        · subst hji
          rw [hf j q, if_neg (by rw [hT]; decide)]
          simp [upd, enc]
        · simp only [upd, hji, if_false]; exact hf2 j (by omega)
      · by_cases hji : j = i
        · subst hji; rw [hT] at hTj; cases hTj
        · exact hok j (by omega) hTj
      · rw [e3, ei, nI_clamp (by omega)]; omega
theorem w6_pickEach (hs : Shp n M P) (hM : SpM n M P S A) {seed : Int32} {vals : Nat → Option Nat} (hf : FillIs n P S (fun i => pickF (M i) (hashF seed (nI i))) vals) {E : SA → Prop} {Q : Int32 → SA → SB → Prop}
    (h : ∀ f : Nat → Int32, (∀ i, i < n → f i = enc (vals i)) → E (va_up A 33 f)) : ∃ m, wp_X6_trial_68 E Q seed B m 0 A := by
  have hn := hs.1
  have h00 : (0 : Int32) = nI 0 := rfl
  have hpk : ∀ j, j < n → pickF (M j) (hashF seed (nI j)) < M j := fun j hj => by
    have := hs.2.1 j hj
    exact (pickF_ok (M j) (hashF seed (nI j)) (by omega) (by omega)).1
  refine lp2 (wp_X6_trial_68 E Q seed B) (fun v3 A' => ∃ (i : Nat) (f : Nat → Int32), i ≤ n ∧ v3 = nI i ∧ A' = va_up A 33 f ∧ (∀ j, j < i → f j = enc (vals j))) (fun v3 _ => 8 - v3.toNatClampNeg) ?_ _ _
    ⟨0, A 33, Nat.zero_le n, nI_0.symm, (va_up_id A 33).symm, fun j hj => by omega⟩
  rintro m v3 A' ⟨i, f, hi, rfl, rfl, hf2⟩ ih
  have ei : (nI i).toNatClampNeg = i := nI_clamp (by omega)
  refine pk_le n i (fun q => ?_) (fun q => ?_) (hM.up (f := f)).1
  · exact h f (fun j hj => hf2 j (by omega))
  · refine ⟨pk_in i 16 (by omega), ?_⟩
    rw [ei, u2_up, h00]
    have hb := hf.b (fun j hj => by have := hpk j hj; have := hs.2.1 j hj; omega)
    refine w6_there (at' := 0) hs hM.up (Or.inl rfl) q (vals := vals) (fun p hp => ?_) (fun hT => ?_) (fun hT => ?_)
    · have hpi := hs.2.2 i p q hp
      refine ⟨?_, fun v => hb p v (by omega)⟩
      rw [va_up_self, Nat.zero_add, upd, if_neg (by omega)]
      exact hf2 p hpi
    · have hMi := hs.2.1 i q
      refine br_f (by decide) (w6_hash ⟨pk_in i 8 (by omega), ?_⟩)
      rw [va_up_ne _ _ (by decide), hM.2.1 i q, nI_l (by omega)]
      refine (pickF_ok (M i) (hashF seed (nI i)) (by omega) (by omega)).2.2 _ _ _ (fun x e => ⟨pk_in i 16 (by omega), fun v3 e3 => ?_⟩)
      rw [nI_1] at e3
      rw [u2_up]
      refine ih _ _ ⟨i + 1, _, by omega, e3, rfl, fun j hj => ?_⟩ ?_
      · by_cases hji : j = i
        · subst hji
          rw [hf j q, if_pos hT]
          simp [upd, enc, e, lN_i]
        · simp only [upd, hji, if_false]; exact hf2 j (by omega)
      · rw [e3, ei, nI_clamp (by omega)]; omega
    · refine br_t rfl (fun v3 e3 => ?_)
      rw [nI_1] at e3
      refine ih _ _ ⟨i + 1, _, by omega, e3, rfl, fun j hj => ?_⟩ ?_
      · by_cases hji : j = i
        · subst hji
          rw [hf j q, if_neg (by rw [hT]; decide)]
          simp [upd, enc]
        · simp only [upd, hji, if_false]; exact hf2 j (by omega)
      · rw [e3, ei, nI_clamp (by omega)]; omega
end FM
