/-! VALUES of a POINT: what is there, the digits, the number -/
def thB (P : Nat → Option Nat) (S : Nat → Nat → Bool) (vals : Nat → Option Nat) (c : Nat) : Bool := match P c with
  | none => true
  | some p => match vals p with
    | none => false
    | some v => S c v
def RdAt (n : Nat) (M : Nat → Nat) (P : Nat → Option Nat) (S : Nat → Nat → Bool) (W : Nat → Nat) (vals : Nat → Option Nat) (lf : Nat → Nat) (i : Nat) : Prop :=
  (thB P S vals i = true → ∃ v, vals i = some v ∧ v < M i ∧ lf i = rsN n P W i (thB P S vals) * sumN (wbN n P S W i) v + lf (i + 1) ∧ lf (i + 1) < rsN n P W i (thB P S vals) * wbN n P S W i v) ∧ (thB P S vals i = false → vals i = none ∧ lf (i + 1) = lf i)
def RdIs (n : Nat) (M : Nat → Nat) (P : Nat → Option Nat) (S : Nat → Nat → Bool) (W : Nat → Nat) (pt : Nat) (vals : Nat → Option Nat) (lf : Nat → Nat) : Prop := lf 0 = pt ∧ ∀ i, i < n → RdAt n M P S W vals lf i
def allN (n : Nat) (P : Nat → Option Nat) (W : Nat → Nat) : Nat := opN n P W 0 (fun _ => true)
section SV
variable {n : Nat} {M : Nat → Nat} {P : Nat → Option Nat} {S : Nat → Nat → Bool} {W : Nat → Nat}
theorem thB_root {vals : Nat → Option Nat} {c : Nat} (h : P c = none) : thB P S vals c = true := by simp [thB, h]
theorem thB_upd {vals vals' : Nat → Option Nat} {i c : Nat} (hv : ∀ j, j ≠ i → vals' j = vals j) (h : P c ≠ some i) : thB P S vals' c = thB P S vals c := by
  unfold thB
  cases e : P c with
  | none => rfl
  | some p =>
    have : p ≠ i := fun q => h (by rw [e, q])
    simp only [hv p this]
theorem thB_at {vals : Nat → Option Nat} {i c v : Nat} (hv : vals i = some v) (h : P c = some i) : thB P S vals c = S c v := by simp [thB, h, hv]
theorem thB_no {vals : Nat → Option Nat} {i c : Nat} (hv : vals i = none) (h : P c = some i) : thB P S vals c = false := by simp [thB, h, hv]
theorem plB_ne {i c : Nat} (h : plB P i c = true) : P c ≠ some i := fun q => by rw [plB_not q] at h; cases h
theorem plB_ne' {i j c : Nat} (hj : j ≤ i) (h : plB P j c = true) : P c ≠ some i := fun q => by
  unfold plB at h
  rw [q] at h
  simp at h
  omega
theorem rsN_congr {i : Nat} {T T' : Nat → Bool} (h : ∀ c, i < c → c < n → plB P i c = true → T c = T' c) : rsN n P W i T = rsN n P W i T' := by
  refine prN_congr (fun c hc hn => ?_)
  by_cases hp : plB P i c = true
  · rw [h c (by omega) hn hp]
  · simp [hp]
theorem all_th (vals : Nat → Option Nat) : opN n P W 0 (thB P S vals) = allN n P W := by
  refine prN_congr (fun c _ _ => ?_)
  by_cases hp : plB P 0 c = true
  · have : P c = none := by
      unfold plB at hp
      cases e : P c with
      | none => rfl
      | some p => rw [e] at hp; simp at hp
    simp [thB_root this]
  · simp [hp]
theorem all_bd (hs : Shp n M P) (hW : WOK n M P S W) : 1 ≤ allN n P W ∧ allN n P W ≤ 656100000000 := op_lt hs hW (Nat.zero_le n) _
theorem rd_ex (hs : Shp n M P) (hW : WOK n M P S W) {pt : Nat} (hpt : pt < allN n P W) : ∃ vals lf, RdIs n M P S W pt vals lf := by
  have key : ∀ i, i ≤ n → ∃ (vals : Nat → Option Nat) (lf : Nat → Nat), lf 0 = pt ∧ (∀ j, j < i → RdAt n M P S W vals lf j) ∧ lf i < opN n P W i (thB P S vals) := by
    intro i
    induction i with
    | zero => exact fun _ => ⟨fun _ => none, fun _ => pt, rfl, fun j hj => by omega, by rw [all_th]; exact hpt⟩
    | succ i ih =>
      intro hi
      obtain ⟨vals, lf, h0, hj, hlt⟩ := ih (by omega)
      have hin : i < n := by omega
      -- what changes at i alone leaves the earlier ones as they are
      have keep : ∀ (vals' : Nat → Option Nat) (lf' : Nat → Nat), (∀ j, j ≠ i → vals' j = vals j) → (∀ j, j ≤ i → lf' j = lf j) → ∀ j, j < i → RdAt n M P S W vals' lf' j := by
        intro vals' lf' hv hl j hji
        have h1 := hj j hji
        have et : ∀ c, c ≤ i → c < n → thB P S vals' c = thB P S vals c := fun c hc hcn => thB_upd hv (fun q => by have := hs.2.2 c i hcn q; omega)
        have er : rsN n P W j (thB P S vals') = rsN n P W j (thB P S vals) := rsN_congr (fun c _ _ hp => thB_upd hv (plB_ne' (by omega) hp))
        unfold RdAt at h1 ⊢
        rw [et j (by omega) (by omega), er, hv j (by omega), hl j (by omega), hl (j + 1) (by omega)]
        exact h1
      cases hT : thB P S vals i with
      | true =>
        rw [op_rs hin (plB_self hs hin) hT, hW i hin, Nat.mul_comm, ← sumN_mul] at hlt
        obtain ⟨v, hv1, hv2, hv3⟩ := sumN_dig hlt
        rw [sumN_mul] at hv2 hv3
        refine ⟨fun j => if j = i then some v else vals j, fun j => if j = i + 1 then lf i - rsN n P W i (thB P S vals) * sumN (wbN n P S W i) v else lf j, by simp [h0], ?_, ?_⟩
        · have hvv : ∀ j, j ≠ i → (fun j => if j = i then some v else vals j) j = vals j := fun j hj => by simp [hj]
          intro j hji
          rcases Nat.lt_or_ge j i with q | q
          · exact keep _ _ hvv (fun a ha => by simp [show a ≠ i + 1 by omega]) j q
          · have : j = i := by omega
            subst this
            have et : thB P S (fun a => if a = j then some v else vals a) j = true := by
              rw [thB_upd hvv (fun q => by have := hs.2.2 j j hin q; omega)]
              exact hT
            have er : rsN n P W j (thB P S (fun a => if a = j then some v else vals a)) = rsN n P W j (thB P S vals) := rsN_congr (fun c _ _ hp => thB_upd hvv (plB_ne hp))
            refine ⟨fun _ => ⟨v, by simp, hv1, ?_, ?_⟩, fun q => by rw [et] at q; cases q⟩
            · rw [er]
              simp only [if_true, show j ≠ j + 1 by omega, if_false]
              omega
            · rw [er]
              simp only [if_true]
              simp only [sumN, Nat.mul_add] at hv3
              omega
        · simp only [if_true]
          rw [op_wb (T := thB P S vals) (S := S) (v := v)]
          · simp only [sumN, Nat.mul_add] at hv3
            omega
          · intro c _ _ hP
            exact thB_upd (i := i) (fun j hj => by simp [hj]) hP
          · intro c _ _ hP
            exact thB_at (i := i) (by simp) hP
      | false =>
        rw [op_rs0 hin hT] at hlt
        refine ⟨fun j => if j = i then none else vals j, fun j => if j = i + 1 then lf i else lf j, by simp [h0], ?_, ?_⟩
        · have hvv : ∀ j, j ≠ i → (fun j => if j = i then none else vals j) j = vals j := fun j hj => by simp [hj]
          intro j hji
          rcases Nat.lt_or_ge j i with q | q
          · exact keep _ _ hvv (fun a ha => by simp [show a ≠ i + 1 by omega]) j q
          · have : j = i := by omega
            subst this
            have et : thB P S (fun a => if a = j then none else vals a) j = false := by
              rw [thB_upd hvv (fun q => by have := hs.2.2 j j hin q; omega)]
              exact hT
            exact ⟨fun q => (by rw [et] at q; cases q), fun _ => ⟨by simp, by simp⟩⟩
        · simp only [if_true]
          rw [op_wb0 (T := thB P S vals)]
          · exact hlt
          · intro c _ _ hP
            exact thB_upd (i := i) (fun j hj => by simp [hj]) hP
          · intro c _ _ hP
            exact thB_no (i := i) (by simp) hP
  obtain ⟨vals, lf, h0, hj, -⟩ := key n (Nat.le_refl n)
  exact ⟨vals, lf, h0, hj⟩
/-- the values are those of a point -/
def VOK (n : Nat) (M : Nat → Nat) (P : Nat → Option Nat) (S : Nat → Nat → Bool) (vals : Nat → Option Nat) : Prop := ∀ i, i < n → (thB P S vals i = true → ∃ v, vals i = some v ∧ v < M i) ∧ (thB P S vals i = false → vals i = none)
theorem RdIs.ok {pt : Nat} {vals : Nat → Option Nat} {lf : Nat → Nat} (h : RdIs n M P S W pt vals lf) : VOK n M P S vals := fun i hi => ⟨fun q => by obtain ⟨v, h1, h2, -⟩ := (h.2 i hi).1 q; exact ⟨v, h1, h2⟩, fun q => ((h.2 i hi).2 q).1⟩
/-- what the names before i add to the number -/
def plN (n : Nat) (P : Nat → Option Nat) (S : Nat → Nat → Bool) (W : Nat → Nat) (vals : Nat → Option Nat) : Nat → Nat
  | 0 => 0
  | i + 1 => plN n P S W vals i + match vals i with
    | none => 0
    | some v => rsN n P W i (thB P S vals) * sumN (wbN n P S W i) v
theorem pl_lt (hs : Shp n M P) (hW : WOK n M P S W) {vals : Nat → Option Nat} (hv : VOK n M P S vals) : ∀ i, i ≤ n → plN n P S W vals i + opN n P W i (thB P S vals) ≤ allN n P W := by
  intro i
  induction i with
  | zero => intro _; rw [all_th]; simp [plN]
  | succ i ih =>
    intro hi
    have h := ih (by omega)
    have hin : i < n := by omega
    cases hT : thB P S vals i with
    | true =>
      obtain ⟨v, hv1, hv2⟩ := (hv i hin).1 hT
      rw [op_rs hin (plB_self hs hin) hT, hW i hin] at h
      rw [op_wb (T := thB P S vals) (S := S) (v := v) (fun c _ _ _ => rfl) (fun c _ _ hP => thB_at hv1 hP)]
      have h3 : plN n P S W vals (i + 1) = plN n P S W vals i + rsN n P W i (thB P S vals) * sumN (wbN n P S W i) v := by simp only [plN, hv1]
      have h1 : sumN (wbN n P S W i) (v + 1) ≤ sumN (wbN n P S W i) (M i) := sumN_mono (by omega)
      have h2 := Nat.mul_le_mul_left (rsN n P W i (thB P S vals)) h1
      simp only [sumN, Nat.mul_add] at h2
      rw [Nat.mul_comm (sumN (wbN n P S W i) (M i))] at h
      rw [h3]
      generalize rsN n P W i (thB P S vals) * sumN (wbN n P S W i) v = x at *
      generalize rsN n P W i (thB P S vals) * wbN n P S W i v = y at *
      generalize rsN n P W i (thB P S vals) * sumN (wbN n P S W i) (M i) = z at *
      omega
    | false =>
      have hv1 := (hv i hin).2 hT
      rw [op_rs0 hin hT] at h
      rw [op_wb0 (T := thB P S vals) (fun c _ _ _ => rfl) (fun c _ _ hP => thB_no hv1 hP)]
      simp only [plN, hv1]
      omega
theorem pl_all (hs : Shp n M P) (hW : WOK n M P S W) {vals : Nat → Option Nat} (hv : VOK n M P S vals) : plN n P S W vals n < allN n P W := by
  have h := pl_lt hs hW hv n (Nat.le_refl n)
  have h2 := (op_lt hs hW (Nat.le_refl n) (thB P S vals)).1
  omega
end SV
