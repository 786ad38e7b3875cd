/-! pure rows: branches over longs, simple methods -/
theorem pj_le {x y : Int64} {A B : Prop} (a b : Nat) (f : a ≤ b → A) (g : b < a → B) (hx : x = lN a) (hy : y = lN b) (ha : a < 2 ^ 63) (hb : b < 2 ^ 63) : (x ≤ y → A) ∧ (¬ x ≤ y → B) := by
  subst hx hy
  rw [pk_lLE ha hb]
  exact ⟨f, fun z => g (by omega)⟩
theorem pj_lt {x y : Int64} {A B : Prop} (a b : Nat) (f : a < b → A) (g : b ≤ a → B) (hx : x = lN a) (hy : y = lN b) (ha : a < 2 ^ 63) (hb : b < 2 ^ 63) : (x < y → A) ∧ (¬ x < y → B) := by
  subst hx hy
  rw [pk_lLT ha hb]
  exact ⟨f, fun z => g (by omega)⟩
theorem pk_ne {x y : Int32} {A B : Prop} (a b : Nat) (f : a ≠ b → A) (g : a = b → B) (hx : x = nI a := by rfl) (hy : y = nI b := by rfl) (ha : a < 2 ^ 31 := by omega) (hb : b < 2 ^ 31 := by omega) : (¬ x = y → A) ∧ (x = y → B) := by
  subst hx hy
  rw [nI_eq ha hb]
  exact ⟨f, g⟩
/-- a choice between two ways by a condition that is known -/
theorem bn_t {c A B : Prop} (h : c) (b : B) : (¬ c → A) ∧ (c → B) := ⟨fun z => absurd h z, fun _ => b⟩
theorem bn_f {c A B : Prop} (h : ¬ c) (a : A) : (¬ c → A) ∧ (c → B) := ⟨fun _ => a, fun z => absurd z h⟩
theorem w_within {a b c : Int64} {A : SA} {B : SB} {Q : Int32 → Prop} (h1 : b ≤ a → a ≤ c → Q 1) (h0 : ¬ (b ≤ a ∧ a ≤ c) → Q 0) : wp_X5_within a b c A B Q := by
  refine ⟨fun q => h0 (fun z => Int64.not_le.mpr q z.1), fun q => ⟨fun q2 => h0 (fun z => Int64.not_le.mpr q2 z.2), fun q2 => h1 (Int64.not_lt.mp q) (Int64.not_lt.mp q2)⟩⟩
theorem w_in {a b c : Int64} {A : SA} {B : SB} {Q : Int32 → Prop} (h1 : b ≤ a → a ≤ c → Q 1) (h0 : ¬ (b ≤ a ∧ a ≤ c) → Q 0) : wp_X6_in a b c A B Q := w_within (A := A) (B := B) h1 h0
theorem w_cut {a b : Nat} {A : SA} {B : SB} {Q : Int64 → Prop} (ha : a < 2 ^ 63) (hb : b < 2 ^ 63) (h0 : 0 < b) (h : Q (lN (a / b))) : wp_X5_cut (lN a) (lN b) A B Q := by
  have e0 : (0 : Int64) = lN 0 := by decide +kernel
  refine br_f (fun q => ?_) ⟨fun q => ?_, ?_⟩
  · rw [e0, pk_lLE hb (by decide)] at q; omega
  · rw [e0, pk_lEQ hb (by decide)] at q; omega
  · rw [pk_lDiv ha h0 hb]; exact h
theorem w_rest {a b : Nat} {A : SA} {B : SB} {Q : Int64 → Prop} (ha : a < 2 ^ 63) (hb : b < 2 ^ 63) (h0 : 0 < b) (h : Q (lN (a % b))) : wp_X5_rest (lN a) (lN b) A B Q := by
  have e0 : (0 : Int64) = lN 0 := by decide +kernel
  refine br_f (fun q => ?_) ⟨fun q => ?_, ?_⟩
  · rw [e0, pk_lLE hb (by decide)] at q; omega
  · rw [e0, pk_lEQ hb (by decide)] at q; omega
  · rw [pk_lRem ha h0 hb]; exact h
