/-! the class: a point's number; filling a row of values by a rule -/
section SP
variable {n : Nat} {M : Nat → Nat} {P : Nat → Option Nat} {S : Nat → Nat → Bool} {W : Nat → Nat} {A : SA} {B : SB}
theorem w_place (hs : Shp n M P) (hW : WOK n M P S W) (hC : SpC n M P S A) (hB : SpW n M P S W B) {k : Nat} (hk : offC k) {vals : Nat → Option Nat} (hv : VOK n M P S vals) (hA : ∀ i, i < n → A k i = enc (vals i)) {Q : Int64 → Prop}
    (h : Q (lN (plN n P S W vals n))) : wp_X3_place k A B Q := by
  have hn := hs.1
  intro x1 e1
  refine lp3 (wp_X3_place_11 (fun v => Q v) Q k A B) (fun v2 v4 v6 => ∃ i : Nat, i ≤ n ∧ v6 = nI i ∧ v2 = lN (plN n P S W vals i) ∧ v4 = lN (opN n P W i (thB P S vals))) (fun _ _ v6 => 8 - v6.toNatClampNeg) ?_ _ _ _
    ⟨0, Nat.zero_le n, nI_0.symm, rfl, by rw [e1, hB.1, all_th]⟩
  rintro m v2 v4 v6 ⟨i, hi, rfl, rfl, rfl⟩ ih
  have ei : (nI i).toNatClampNeg = i := nI_clamp (by omega)
  refine pk_le n i (fun q => ?_) (fun q => ?_) hC.1
  · rw [show i = n by omega]; exact h
  · have hin : vp_in (nI i) (ulen k) := by rw [hk.2.2.1]; exact pk_in i 8 (by omega)
    refine ⟨⟨hk.1, hk.2.1, hin⟩, ?_⟩
    rw [ei, hA i q]
    cases hvi : vals i with
    | none =>
      refine br_t (by decide) (fun v6 e6 => ?_)
      have hT : thB P S vals i = false := by
        cases hT : thB P S vals i with
        | false => rfl
        | true => obtain ⟨v, h1, -⟩ := (hv i q).1 hT; rw [hvi] at h1; cases h1
      rw [e6, nI_1]
      refine ih _ _ _ ⟨i + 1, by omega, rfl, ?_, ?_⟩ ?_
      · simp only [plN, hvi, Nat.add_zero]
      · rw [op_wb0 (T := thB P S vals) (fun c _ _ _ => rfl) (fun c _ _ hP => thB_no hvi hP), op_rs0 q hT]
      · rw [ei, nI_clamp (by omega)]; omega
    | some v =>
      have hT : thB P S vals i = true := by
        cases hT : thB P S vals i with
        | true => rfl
        | false => have h1 := (hv i q).2 hT; rw [hvi] at h1; cases h1
      have hvM : v < M i := by obtain ⟨v', h1, h2⟩ := (hv i q).1 hT; rw [hvi] at h1; cases h1; exact h2
      have hM := hs.2.1 i q
      refine br_f (nI_pos (by omega)) ⟨pk_in i 8 (by omega), ?_⟩
      have hWi := W_bd hs hW q
      have hop := op_lt hs hW (Nat.le_of_lt q) (thB P S vals)
      have eop := op_rs (P := P) (W := W) q (plB_self hs q) hT
      rw [hB.2.1 i q]
      refine w_cut (by omega) (by omega) (by omega) ?_
      rw [eop, Nat.mul_div_cancel_left _ (by omega)]
      refine lp2 (wp_X3_place_44 _ Q k _ (nI i) A B) (fun v2 v7 => ∃ u : Nat, u ≤ v ∧ v7 = nI u ∧ v2 = lN (plN n P S W vals i + rsN n P W i (thB P S vals) * sumN (wbN n P S W i) u)) (fun _ v7 => 30 - v7.toNatClampNeg) ?_ _ _ ⟨0, Nat.zero_le v, nI_0.symm, by simp [sumN]⟩
      rintro m2 v2 v7 ⟨u, hu, rfl, rfl⟩ ih2
      have eu : (nI u).toNatClampNeg = u := nI_clamp (by omega)
      refine ⟨⟨hk.1, hk.2.1, hin⟩, ?_⟩
      rw [ei, hA i q, hvi]
      refine pk_le v u (fun q2 => ?_) (fun q2 => ?_)
      · have : u = v := by omega
        subst this
        refine ⟨pk_in i 8 (by omega), ⟨hk.1, hk.2.1, hin⟩, fun x e => ?_⟩
        have ex : x = nI u := e
        subst ex
        refine ⟨pk_in u 30 (by omega), fun y ey v6 e6 => ?_⟩
        rw [e6, nI_1]
        refine ih _ _ _ ⟨i + 1, by omega, rfl, ?_, ?_⟩ ?_
        · simp only [plN, hvi]
        · rw [ey, eu, hB.2.2 i u q hvM, lN_mul, op_wb (T := thB P S vals) (S := S) (v := u) (fun c _ _ _ => rfl) (fun c _ _ hP => thB_at hvi hP)]
        · rw [ei, nI_clamp (by omega)]; omega
      · refine ⟨pk_in i 8 (by omega), pk_in u 30 (by omega), fun x e v7 e7 => ?_⟩
        refine ih2 _ _ ⟨u + 1, by omega, by rw [e7, nI_1], ?_⟩ ?_
        · rw [e, eu, hB.2.2 i u q (by omega), lN_mul, lN_add]
          congr 1
          simp only [sumN, Nat.mul_add]
          omega
        · rw [e7, nI_1, nI_clamp (by omega), nI_clamp (by omega)]; omega
/-- a row filled by a rule: where a name is there it takes g -/
def FillIs (n : Nat) (P : Nat → Option Nat) (S : Nat → Nat → Bool) (g : Nat → Nat) (vals : Nat → Option Nat) : Prop := ∀ i, i < n → vals i = if thB P S vals i = true then some (g i) else none
theorem fill_ex (hs : Shp n M P) (g : Nat → Nat) : ∃ vals, FillIs n P S g vals := by
  have key : ∀ i, i ≤ n → ∃ vals : Nat → Option Nat, ∀ j, j < i → vals j = if thB P S vals j = true then some (g j) else none := by
    intro i
    induction i with
    | zero => exact fun _ => ⟨fun _ => none, fun j hj => by omega⟩
    | succ i ih =>
      intro hi
      obtain ⟨vals, hv⟩ := ih (by omega)
      refine ⟨fun j => if j = i then (if thB P S vals i = true then some (g i) else none) else vals j, fun j hj => ?_⟩
      have et : thB P S (fun j => if j = i then (if thB P S vals i = true then some (g i) else none) else vals j) j = thB P S vals j := thB_upd (i := i) (fun a ha => by simp [ha]) (fun q => by have := hs.2.2 j i (by omega) q; omega)
      rw [et]
      by_cases hji : j = i
      · subst hji; simp
      · simp only [hji, if_false]; exact hv j (by omega)
  obtain ⟨vals, hv⟩ := key n (Nat.le_refl n)
  exact ⟨vals, hv⟩
theorem FillIs.b {g : Nat → Nat} {vals : Nat → Option Nat} (h : FillIs n P S g vals) (hg : ∀ i, i < n → g i < 32) : ∀ j v, j < n → vals j = some v → v < 32 := by
  intro j v hj e
  have h1 := h j hj
  rw [e] at h1
  by_cases hT : thB P S vals j = true
  · rw [if_pos hT] at h1; cases h1; exact hg j hj
  · rw [if_neg hT] at h1; cases h1
theorem FillIs.ok {g : Nat → Nat} {vals : Nat → Option Nat} (h : FillIs n P S g vals) (hg : ∀ i, i < n → thB P S vals i = true → g i < M i) : VOK n M P S vals := by
  intro i hi
  have h1 := h i hi
  refine ⟨fun hT => ⟨g i, by rw [h1, if_pos hT], hg i hi hT⟩, fun hT => ?_⟩
  rw [h1, if_neg (by rw [hT]; decide)]
theorem w_takeBits (hs : Shp n M P) (hC : SpC n M P S A) {k : Nat} (hk : offC k) {w : Int64} {g : Nat → Nat} (hg : ∀ i, i < n → ((w.toUInt64 >>> (((5 : Int32) * nI i).toInt64.toUInt64 &&& Int64.toUInt64 63)).toInt64.toInt32 &&& (31 : Int32)) = nI (g i) ∧ g i < 32)
    {vals : Nat → Option Nat} (hf : FillIs n P S g vals) {Q : Int32 → SA → Prop} (h1 : (∀ i, i < n → thB P S vals i = true → g i < M i) → ∀ f : Nat → Int32, (∀ i, i < n → f i = enc (vals i)) → Q 1 (va_up A k f))
    (h0 : ¬ (∀ i, i < n → thB P S vals i = true → g i < M i) → ∀ f : Nat → Int32, Q 0 (va_up A k f)) : wp_X3_takeBits w k A B Q := by
  have hn := hs.1
  refine lp2 (wp_X3_takeBits_3 Q w k B) (fun v4 A' => ∃ (i : Nat) (f : Nat → Int32), i ≤ n ∧ v4 = nI i ∧ A' = va_up A k f ∧ (∀ j, j < i → f j = enc (vals j)) ∧ ∀ j, j < i → thB P S vals j = true → g j < M j) (fun v4 _ => 8 - v4.toNatClampNeg) ?_ _ _
    ⟨0, A k, Nat.zero_le n, nI_0.symm, (va_up_id A k).symm, fun j hj => by omega, fun j hj => by omega⟩
  rintro m v4 A' ⟨i, f, hi, rfl, rfl, hf2, hok⟩ ih
  have ei : (nI i).toNatClampNeg = i := nI_clamp (by omega)
  refine pk_le n i (fun q => ?_) (fun q => ?_) (hC.up hk).1
  · exact h1 (fun j hj => hok j (by omega)) f (fun j hj => hf2 j (by omega))
  · have hin : vp_in (nI i) (ulen k) := by rw [hk.2.2.1]; exact pk_in i 8 (by omega)
    refine ⟨⟨hk.1, hk.2.1, hin⟩, ?_⟩
    rw [ei, u2_up]
    have hb := hf.b (fun j hj => (hg j hj).2)
    refine w_there hs (hC.up hk) (i := i) (vals := vals) q hk (fun j hj => ?_) (fun j v hj => hb j v (by omega)) (fun hT => ?_) (fun hT => ?_)
    · rw [va_up_self, upd, if_neg (by omega)]
      exact hf2 j hj
    · refine br_f (by decide) (fun x e => ⟨pk_in i 8 (by omega), ?_⟩)
      have ex : x = nI (g i) := by rw [e]; exact (hg i q).1
      subst ex
      have hgi := (hg i q).2
      have hM := hs.2.1 i q
      have eM : va_up A k (upd f i (-2)) 8 i = nI (M i) := (hC.up hk).2.1 i q
      refine pk_lt (g i) (M i) (fun q2 => ⟨⟨hk.1, hk.2.1, hin⟩, fun v4 e4 => ?_⟩) (fun q2 => ?_) rfl eM
      · rw [e4, nI_1, u2_up]
        refine ih _ _ ⟨i + 1, _, by omega, rfl, rfl, fun j hj => ?_, fun j hj hTj => ?_⟩ ?_
        · by_cases hji : j = i
          · subst hji
            rw [hf j q, if_pos hT]
            simp [upd, enc]
          · simp only [upd, hji, if_false]; exact hf2 j (by omega)
        · by_cases hji : j = i
          · subst hji; exact q2
          · exact hok j (by omega) hTj
        · rw [ei, nI_clamp (by omega)]; omega
      · exact h0 (fun z => by have := z i q hT; omega) _
    · refine br_t rfl (fun v4 e4 => ?_)
      rw [e4, nI_1]
      refine ih _ _ ⟨i + 1, _, by omega, rfl, rfl, fun j hj => ?_, fun j hj hTj => ?_⟩ ?_
      · by_cases hji : j = i
        · subst hji
          rw [hf j q, if_neg (by rw [hT]; decide)]
          simp [upd, enc]
        · simp only [upd, hji, if_false]; exact hf2 j (by omega)
      · by_cases hji : j = i
        · subst hji; rw [hT] at hTj; cases hTj
        · exact hok j (by omega) hTj
      · rw [ei, nI_clamp (by omega)]; omega
theorem w_pickEach (hs : Shp n M P) (hC : SpC n M P S A) {k : Nat} (hk : offC k) {seed : Int32} {vals : Nat → Option Nat} (hf : FillIs n P S (fun i => pickF (M i) (hashF seed (nI i))) vals) {Q : SA → Prop}
    (h : ∀ f : Nat → Int32, (∀ i, i < n → f i = enc (vals i)) → Q (va_up A k f)) : wp_X3_pickEach seed k A B Q := by
  have hn := hs.1
  refine lp2 (wp_X3_pickEach_2 (fun A => Q A) Q seed k B) (fun v3 A' => ∃ (i : Nat) (f : Nat → Int32), i ≤ n ∧ v3 = nI i ∧ A' = va_up A k f ∧ (∀ j, j < i → f j = enc (vals j))) (fun v3 _ => 8 - v3.toNatClampNeg) ?_ _ _
    ⟨0, A k, Nat.zero_le n, nI_0.symm, (va_up_id A k).symm, fun j hj => by omega⟩
  rintro m v3 A' ⟨i, f, hi, rfl, rfl, hf2⟩ ih
  have ei : (nI i).toNatClampNeg = i := nI_clamp (by omega)
  have hpk : ∀ j, j < n → pickF (M j) (hashF seed (nI j)) < M j := fun j hj => by
    have := hs.2.1 j hj
    exact (pickF_ok (M j) (hashF seed (nI j)) (by omega) (by omega)).1
  refine pk_le n i (fun q => ?_) (fun q => ?_) (hC.up hk).1
  · exact h f (fun j hj => hf2 j (by omega))
  · have hin : vp_in (nI i) (ulen k) := by rw [hk.2.2.1]; exact pk_in i 8 (by omega)
    refine ⟨⟨hk.1, hk.2.1, hin⟩, ?_⟩
    rw [ei, u2_up]
    have hb := hf.b (fun j hj => by have := hpk j hj; have := hs.2.1 j hj; omega)
    refine w_there hs (hC.up hk) (i := i) (vals := vals) q hk (fun j hj => ?_) (fun j v hj => hb j v (by omega)) (fun hT => ?_) (fun hT => ?_)
    · rw [va_up_self, upd, if_neg (by omega)]
      exact hf2 j hj
    · refine br_f (by decide) ⟨pk_in i 8 (by omega), w_hash ?_⟩
      have hM := hs.2.1 i q
      have eM : va_up A k (upd f i (-2)) 8 i = nI (M i) := (hC.up hk).2.1 i q
      rw [eM, nI_l (by omega)]
      refine (pickF_ok (M i) (hashF seed (nI i)) (by omega) (by omega)).2.1 _ _ _ (fun x e => ⟨⟨hk.1, hk.2.1, hin⟩, fun v3 e3 => ?_⟩)
      rw [e3, nI_1, u2_up]
      refine ih _ _ ⟨i + 1, _, by omega, rfl, rfl, fun j hj => ?_⟩ ?_
      · by_cases hji : j = i
        · subst hji
          rw [hf j q, if_pos hT]
          simp [upd, enc, e, lN_i]
        · simp only [upd, hji, if_false]; exact hf2 j (by omega)
      · rw [ei, nI_clamp (by omega)]; omega
    · refine br_t rfl (fun v3 e3 => ?_)
      rw [e3, nI_1]
      refine ih _ _ ⟨i + 1, _, by omega, rfl, rfl, fun j hj => ?_⟩ ?_
      · by_cases hji : j = i
        · subst hji
          rw [hf j q, if_neg (by rw [hT]; decide)]
          simp [upd, enc]
        · simp only [upd, hji, if_false]; exact hf2 j (by omega)
      · rw [ei, nI_clamp (by omega)]; omega
end SP
