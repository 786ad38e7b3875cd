/-! sums and products over ranges; the mathematics of THE SPACE -/
def sumN (f : Nat → Nat) : Nat → Nat
  | 0 => 0
  | k + 1 => sumN f k + f k
def prN (f : Nat → Nat) (a : Nat) : Nat → Nat
  | 0 => 1
  | b + 1 => if a ≤ b then prN f a b * f b else 1
theorem prN_ge {f : Nat → Nat} {a b : Nat} (h : b ≤ a) : prN f a b = 1 := by
  cases b with
  | zero => rfl
  | succ b => simp [prN, show ¬ a ≤ b by omega]
theorem prN_r {f : Nat → Nat} {a b : Nat} (h : a ≤ b) : prN f a (b + 1) = prN f a b * f b := by simp [prN, h]
theorem prN_l {f : Nat → Nat} {a b : Nat} (h : a < b) : prN f a b = f a * prN f (a + 1) b := by
  induction b with
  | zero => omega
  | succ b ih =>
    rw [prN_r (by omega)]
    rcases Nat.lt_or_ge a b with q | q
    · rw [ih q, prN_r (by omega), Nat.mul_assoc]
    · have : a = b := by omega
      subst this
      rw [prN_ge (Nat.le_refl a), prN_ge (Nat.le_refl (a + 1)), Nat.one_mul, Nat.mul_one]
theorem prN_congr {f g : Nat → Nat} {a b : Nat} (h : ∀ c, a ≤ c → c < b → f c = g c) : prN f a b = prN g a b := by
  induction b with
  | zero => rfl
  | succ b ih =>
    rcases Nat.lt_or_ge b a with q | q
    · rw [prN_ge (by omega), prN_ge (by omega)]
    · rw [prN_r q, prN_r q, ih (fun c h1 h2 => h c h1 (by omega)), h b q (by omega)]
theorem prN_mul {f g : Nat → Nat} {a b : Nat} : prN (fun c => f c * g c) a b = prN f a b * prN g a b := by
  induction b with
  | zero => rfl
  | succ b ih =>
    rcases Nat.lt_or_ge b a with q | q
    · rw [prN_ge (by omega), prN_ge (by omega), prN_ge (by omega)]
    · rw [prN_r q, prN_r q, prN_r q, ih]
      simp only [Nat.mul_assoc, Nat.mul_left_comm, Nat.mul_comm]
theorem sumN_congr {f g : Nat → Nat} {k : Nat} (h : ∀ c, c < k → f c = g c) : sumN f k = sumN g k := by
  induction k with
  | zero => rfl
  | succ k ih => simp only [sumN]; rw [ih (fun c hc => h c (by omega)), h k (by omega)]
theorem sumN_mul (r : Nat) (f : Nat → Nat) (k : Nat) : sumN (fun c => r * f c) k = r * sumN f k := by
  induction k with
  | zero => rfl
  | succ k ih => simp only [sumN]; rw [ih, Nat.mul_add]
theorem sumN_mono {f : Nat → Nat} {a b : Nat} (h : a ≤ b) : sumN f a ≤ sumN f b := by
  induction b with
  | zero => simp [show a = 0 by omega]
  | succ b ih =>
    rcases Nat.lt_or_ge a (b + 1) with q | q
    · simp only [sumN]; have := ih (by omega); omega
    · rw [show a = b + 1 by omega]; exact Nat.le_refl _
theorem sumN_le {f : Nat → Nat} {k q : Nat} (h : ∀ c, c < k → f c ≤ q) : sumN f k ≤ k * q := by
  induction k with
  | zero => simp [sumN]
  | succ k ih =>
    simp only [sumN]
    have h1 := ih (fun c hc => h c (by omega))
    have h2 := h k (by omega)
    rw [Nat.succ_mul]
    omega
theorem sumN_pos {f : Nat → Nat} {k : Nat} (hk : 0 < k) (h : ∀ c, c < k → 1 ≤ f c) : 1 ≤ sumN f k := by
  cases k with
  | zero => omega
  | succ k => simp only [sumN]; have := h k (by omega); omega
/-- a number below a sum has its digit -/
theorem sumN_dig {f : Nat → Nat} {k left : Nat} (h : left < sumN f k) : ∃ v, v < k ∧ sumN f v ≤ left ∧ left < sumN f (v + 1) := by
  induction k with
  | zero => simp [sumN] at h
  | succ k ih =>
    rcases Nat.lt_or_ge left (sumN f k) with q | q
    · obtain ⟨v, h1, h2, h3⟩ := ih q
      exact ⟨v, by omega, h2, h3⟩
    · exact ⟨k, by omega, q, h⟩
/-- does the name that c hangs on come before i? -/
def plB (P : Nat → Option Nat) (i c : Nat) : Bool := match P c with
  | none => true
  | some p => decide (p < i)
def wbN (n : Nat) (P : Nat → Option Nat) (S : Nat → Nat → Bool) (W : Nat → Nat) (i v : Nat) : Nat := prN (fun c => if P c = some i ∧ S c v = true then W c else 1) (i + 1) n
def WOK (n : Nat) (M : Nat → Nat) (P : Nat → Option Nat) (S : Nat → Nat → Bool) (W : Nat → Nat) : Prop := ∀ i, i < n → W i = sumN (wbN n P S W i) (M i)
def Shp (n : Nat) (M : Nat → Nat) (P : Nat → Option Nat) : Prop := n ≤ 8 ∧ (∀ i, i < n → 1 ≤ M i ∧ M i ≤ 30) ∧ ∀ i p, i < n → P i = some p → p < i
def rsN (n : Nat) (P : Nat → Option Nat) (W : Nat → Nat) (i : Nat) (T : Nat → Bool) : Nat := prN (fun c => if plB P i c = true ∧ T c = true then W c else 1) (i + 1) n
def opN (n : Nat) (P : Nat → Option Nat) (W : Nat → Nat) (i : Nat) (T : Nat → Bool) : Nat := prN (fun c => if plB P i c = true ∧ T c = true then W c else 1) i n
section SM
variable {n : Nat} {M : Nat → Nat} {P : Nat → Option Nat} {S : Nat → Nat → Bool} {W : Nat → Nat}
theorem ways_ex (n : Nat) (M : Nat → Nat) (P : Nat → Option Nat) (S : Nat → Nat → Bool) : ∃ W, WOK n M P S W := by
  have key : ∀ k, k ≤ n → ∃ W : Nat → Nat, ∀ i, n - k ≤ i → i < n → W i = sumN (wbN n P S W i) (M i) := by
    intro k
    induction k with
    | zero => exact fun _ => ⟨fun _ => 1, fun i h1 h2 => by omega⟩
    | succ k ih =>
      intro hk
      obtain ⟨W, hW⟩ := ih (by omega)
      refine ⟨fun j => if j = n - (k + 1) then sumN (wbN n P S W (n - (k + 1))) (M (n - (k + 1))) else W j, fun i h1 h2 => ?_⟩
      have e : ∀ a, n - (k + 1) ≤ a → wbN n P S (fun j => if j = n - (k + 1) then sumN (wbN n P S W (n - (k + 1))) (M (n - (k + 1))) else W j) a = wbN n P S W a := by
        intro a ha
        funext v
        refine prN_congr (fun c hc _ => ?_)
        simp only [show c ≠ n - (k + 1) by omega, if_false]
      rw [e i h1]
      by_cases hi : i = n - (k + 1)
      · subst hi; simp
      · simp only [hi, if_false]
        exact hW i (by omega) h2
  obtain ⟨W, hW⟩ := key n (Nat.le_refl n)
  exact ⟨W, fun i hi => hW i (by omega) hi⟩
theorem op_rs {i : Nat} {T : Nat → Bool} (hi : i < n) (hp : plB P i i = true) (hT : T i = true) : opN n P W i T = W i * rsN n P W i T := by
  unfold opN rsN
  rw [prN_l hi]
  simp [hp, hT]
theorem op_rs0 {i : Nat} {T : Nat → Bool} (hi : i < n) (hT : T i = false) : opN n P W i T = rsN n P W i T := by
  unfold opN rsN
  rw [prN_l hi]
  simp [hT]
theorem plB_succ {i c : Nat} : plB P (i + 1) c = true ↔ (plB P i c = true ∨ P c = some i) := by
  unfold plB
  cases h : P c with
  | none => simp
  | some p => simp; omega
theorem plB_not {i c : Nat} (h : P c = some i) : plB P i c = false := by simp [plB, h]
theorem op_wb {i v : Nat} {T T' : Nat → Bool} (h1 : ∀ c, i < c → c < n → P c ≠ some i → T' c = T c) (h2 : ∀ c, i < c → c < n → P c = some i → T' c = S c v) : opN n P W (i + 1) T' = rsN n P W i T * wbN n P S W i v := by
  unfold opN rsN wbN
  rw [← prN_mul]
  refine prN_congr (fun c hc hn => ?_)
  by_cases hP : P c = some i
  · rw [h2 c (by omega) hn hP]
    have e1 : plB P (i + 1) c = true := plB_succ.mpr (Or.inr hP)
    have e2 : plB P i c = false := plB_not hP
    simp [e1, e2, hP]
  · rw [h1 c (by omega) hn hP]
    have e1 : plB P (i + 1) c = plB P i c := by
      rw [Bool.eq_iff_iff, plB_succ]
      simp [hP]
    simp [e1, hP]
theorem op_wb0 {i : Nat} {T T' : Nat → Bool} (h1 : ∀ c, i < c → c < n → P c ≠ some i → T' c = T c) (h2 : ∀ c, i < c → c < n → P c = some i → T' c = false) : opN n P W (i + 1) T' = rsN n P W i T := by
  unfold opN rsN
  refine prN_congr (fun c hc hn => ?_)
  by_cases hP : P c = some i
  · rw [h2 c (by omega) hn hP]
    have e2 : plB P i c = false := plB_not hP
    simp [e2]
  · rw [h1 c (by omega) hn hP]
    have e1 : plB P (i + 1) c = plB P i c := by
      rw [Bool.eq_iff_iff, plB_succ]
      simp [hP]
    simp [e1]
theorem plB_self (hs : Shp n M P) {i : Nat} (hi : i < n) : plB P i i = true := by
  unfold plB
  cases h : P i with
  | none => rfl
  | some p => simpa using hs.2.2 i p hi h
/-- all that is open lies between 1 and 30^8 -/
theorem op_bd (hs : Shp n M P) (hW : WOK n M P S W) : ∀ k i, i + k = n → ∀ T : Nat → Bool, 1 ≤ opN n P W i T ∧ opN n P W i T ≤ 30 ^ k := by
  intro k
  induction k with
  | zero =>
    intro i hi T
    unfold opN
    rw [prN_ge (by omega)]
    exact ⟨by omega, by simp⟩
  | succ k ih =>
    intro i hi T
    have hin : i < n := by omega
    by_cases hT : T i = true
    · have e : opN n P W i T = sumN (fun v => opN n P W (i + 1) (fun c => if P c = some i then S c v else T c)) (M i) := by
        rw [op_rs hin (plB_self hs hin) hT, hW i hin, Nat.mul_comm, ← sumN_mul]
        refine sumN_congr (fun v _ => ?_)
        rw [op_wb (T := T) (S := S) (v := v)]
        · intro c _ _ hP; simp [hP]
        · intro c _ _ hP; simp [hP]
      rw [e]
      have hM := hs.2.1 i hin
      refine ⟨sumN_pos (by omega) (fun v _ => (ih (i + 1) (by omega) _).1), ?_⟩
      have h1 := sumN_le (f := fun v => opN n P W (i + 1) (fun c => if P c = some i then S c v else T c)) (k := M i) (q := 30 ^ k) (fun v _ => (ih (i + 1) (by omega) _).2)
      refine Nat.le_trans h1 ?_
      rw [Nat.pow_succ, Nat.mul_comm (30 ^ k)]
      exact Nat.mul_le_mul_right _ hM.2
    · have hT' : T i = false := by simpa using hT
      rw [op_rs0 hin hT', ← op_wb0 (T := T) (T' := fun c => if P c = some i then false else T c) (fun c _ _ hP => by simp [hP]) (fun c _ _ hP => by simp [hP])]
      have h1 := ih (i + 1) (by omega) (fun c => if P c = some i then false else T c)
      refine ⟨h1.1, Nat.le_trans h1.2 ?_⟩
      rw [Nat.pow_succ]
      omega
theorem op_lt (hs : Shp n M P) (hW : WOK n M P S W) {i : Nat} (hi : i ≤ n) (T : Nat → Bool) : 1 ≤ opN n P W i T ∧ opN n P W i T ≤ 656100000000 := by
  obtain ⟨h1, h2⟩ := op_bd hs hW (n - i) i (by omega) T
  refine ⟨h1, Nat.le_trans h2 ?_⟩
  have : n - i ≤ 8 := by have := hs.1; omega
  exact Nat.le_trans (Nat.pow_le_pow_right (by decide) this) (by decide)
theorem rs_bd (hs : Shp n M P) (hW : WOK n M P S W) {i : Nat} (hi : i < n) (T : Nat → Bool) : 1 ≤ rsN n P W i T ∧ rsN n P W i T ≤ 656100000000 := by
  rw [← op_wb0 (T := T) (T' := fun c => if P c = some i then false else T c) (fun c _ _ hP => by simp [hP]) (fun c _ _ hP => by simp [hP])]
  exact op_lt hs hW (by omega) _
theorem W_bd (hs : Shp n M P) (hW : WOK n M P S W) {i : Nat} (hi : i < n) : 1 ≤ W i ∧ W i ≤ 656100000000 := by
  have h := op_lt hs hW (Nat.le_of_lt hi) (fun c => decide (c = i))
  rw [op_rs hi (plB_self hs hi) (by simp)] at h
  have e : rsN n P W i (fun c => decide (c = i)) = 1 := by
    unfold rsN
    rw [prN_congr (g := fun _ => 1) (fun c hc _ => by simp [show c ≠ i by omega])]
    have : ∀ a b, prN (fun _ => 1) a b = 1 := by
      intro a b
      induction b with
      | zero => rfl
      | succ b ih =>
        rcases Nat.lt_or_ge b a with q | q
        · exact prN_ge (by omega)
        · rw [prN_r q, ih]
    exact this _ _
  rw [e, Nat.mul_one] at h
  exact h
theorem rw_bd (hs : Shp n M P) (hW : WOK n M P S W) {i : Nat} (hi : i < n) (T : Nat → Bool) (v : Nat) : 1 ≤ rsN n P W i T * wbN n P S W i v ∧ rsN n P W i T * wbN n P S W i v ≤ 656100000000 := by
  rw [← op_wb (T := T) (T' := fun c => if P c = some i then S c v else T c) (fun c _ _ hP => by simp [hP]) (fun c _ _ hP => by simp [hP])]
  exact op_lt hs hW (by omega) _
end SM
