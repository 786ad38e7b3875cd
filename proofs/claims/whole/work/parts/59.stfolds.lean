/-! the order of the rows: keys and ranks -/
def keyI (s : Int32) (r : Nat) : Int := 256 * (hashF s (nI r)).toInt + (r : Int)
def keyL (s : Int32) (r : Nat) : Int64 := ((hashF s (nI r)).toInt64 <<< ((8 : Int32).toInt64 &&& 63)) ||| (nI r).toInt64
theorem key_ex (x : Int32) {r : Nat} (hr : r < 256) : ∃ k, k < 2 ^ 64 ∧ (x.toInt64 <<< ((8 : Int32).toInt64 &&& 63)) ||| (nI r).toInt64 = lN k ∧ k % 256 = r ∧ (lN k).toInt = 256 * x.toInt + (r : Int) := by
  obtain ⟨n, hn, en⟩ := wb_of x.toInt64
  have hx1 := Int32.le_toInt x
  have hx2 := Int32.toInt_lt x
  have ht : (lN n).toInt = x.toInt := by rw [← en, Int32.toInt_toInt64]
  have hT : ∀ m, m < 2 ^ 64 → (lN m).toInt = if m < 2 ^ 63 then (m : Int) else (m : Int) - 2 ^ 64 := by
    intro m hm
    show (lN m).toBitVec.toInt = _
    rw [BitVec.toInt_eq_toNat_cond, wb_tn hm]
    by_cases h : m < 2 ^ 63
    · rw [if_pos h, if_pos (by omega)]
    · rw [if_neg h, if_neg (by omega)]; rfl
  have e1 : lN n <<< ((8 : Int32).toInt64 &&& 63) = lN (n * 2 ^ 8) := wb_shl n (k := 8) (by decide)
  have e2 : n * 2 ^ 8 % 2 ^ 64 = 2 ^ 8 * (n % 2 ^ 56) := by omega
  refine ⟨2 ^ 8 * (n % 2 ^ 56) + r, by omega, ?_, by omega, ?_⟩
  · rw [en, e1, wb_mod, e2, nI_l (by omega), wb_or (by omega) (by omega), Nat.two_pow_add_eq_or_of_lt (by omega : r < 2 ^ 8)]
  · rw [hT n hn] at ht
    rw [hT _ (by omega)]
    split at ht <;> split <;> omega
theorem keyL_lt {s : Int32} {a b : Nat} (ha : a < 256) (hb : b < 256) : keyL s a ≤ keyL s b ↔ keyI s a ≤ keyI s b := by
  obtain ⟨k, -, e, -, h⟩ := key_ex (hashF s (nI a)) ha
  obtain ⟨k', -, e', -, h'⟩ := key_ex (hashF s (nI b)) hb
  unfold keyL keyI
  rw [e, e', Int64.le_iff_toInt_le, h, h']
theorem keyL_row {s : Int32} {a : Nat} (ha : a < 256) : (keyL s a).toInt32 &&& (255 : Int32) = nI a := by
  obtain ⟨k, hk, e, hm, -⟩ := key_ex (hashF s (nI a)) ha
  unfold keyL
  rw [e, lN_i, pk_and _ 8 (by decide +kernel)]
  have : (nI k).toBitVec.toNat = k % 2 ^ 32 := BitVec.toNat_ofNat ..
  rw [this, show k % 2 ^ 32 % 2 ^ 8 = a by omega]
theorem keyI_inj {s : Int32} {a b : Nat} (ha : a < 256) (hb : b < 256) (h : keyI s a = keyI s b) : a = b := by
  unfold keyI at h
  omega
def rk (s : Int32) (n r : Nat) : Nat := cntN (fun r' => decide (keyI s r' < keyI s r)) n
theorem cntN_mono {p q : Nat → Bool} (h : ∀ i, p i = true → q i = true) : ∀ k, cntN p k ≤ cntN q k
  | 0 => Nat.le_refl 0
  | k + 1 => by
    simp only [cntN]
    have ih := cntN_mono h k
    by_cases hp : p k = true
    · rw [if_pos hp, if_pos (h k hp)]; omega
    · rw [if_neg hp]; omega
theorem cntN_mlt {p q : Nat → Bool} (h : ∀ i, p i = true → q i = true) {j : Nat} (hp : p j = false) (hq : q j = true) : ∀ k, j < k → cntN p k < cntN q k
  | 0, hk => by omega
  | k + 1, hk => by
    simp only [cntN]
    by_cases e : j = k
    · subst e
      have ih := cntN_mono h j
      rw [hp, hq]; simp; omega
    · have ih := cntN_mlt h hp hq k (by omega)
      by_cases hp2 : p k = true
      · rw [if_pos hp2, if_pos (h k hp2)]; omega
      · rw [if_neg hp2]; omega
theorem rk_lt {s : Int32} {n a b : Nat} (ha : a < n) : rk s n a < rk s n b ↔ keyI s a < keyI s b := by
  constructor
  · intro h
    refine Int.not_le.mp (fun z => ?_)
    have := cntN_mono (p := fun r' => decide (keyI s r' < keyI s b)) (q := fun r' => decide (keyI s r' < keyI s a)) (fun i hi => by simp at hi ⊢; omega) n
    unfold rk at h
    omega
  · intro h
    exact cntN_mlt (j := a) (fun i hi => by simp at hi ⊢; omega) (by simp) (by simpa using h) n ha
theorem rk_self {s : Int32} {n a : Nat} (ha : a < n) : rk s n a < n := by
  have := cntN_mlt (p := fun r' => decide (keyI s r' < keyI s a)) (q := fun _ => true) (j := a) (fun _ _ => rfl) (by simp) rfl n ha
  exact Nat.lt_of_lt_of_le this (cntN_le _ _)
theorem rk_succ {s : Int32} {n r : Nat} : rk s (n + 1) r = rk s n r + if keyI s n < keyI s r then 1 else 0 := by
  unfold rk
  simp only [cntN, decide_eq_true_eq]
/-- the keys of the first n rows, each at its rank -/
def OrdOK (s : Int32) (n : Nat) (f : Nat → Int64) : Prop := (∀ r, r < n → f (rk s n r) = keyL s r) ∧ ∀ p, p < n → ∃ r, r < n ∧ rk s n r = p
theorem OrdOK.ins {s : Int32} {n : Nat} {f g : Nat → Int64} (hn : n < 200) (h : OrdOK s n f) (h1 : ∀ j, j < rk s n n → g j = f j) (h2 : g (rk s n n) = keyL s n) (h3 : ∀ j, rk s n n ≤ j → j < n → g (j + 1) = f j) : OrdOK s (n + 1) g := by
  have self : rk s (n + 1) n = rk s n n := by rw [rk_succ, if_neg (by omega), Nat.add_zero]
  have lo : ∀ r, r < n → keyI s r < keyI s n → rk s (n + 1) r = rk s n r ∧ rk s n r < rk s n n := fun r hr hk => ⟨by rw [rk_succ, if_neg (by omega), Nat.add_zero], (rk_lt hr).mpr hk⟩
  have hi : ∀ r, r < n → ¬ keyI s r < keyI s n → rk s (n + 1) r = rk s n r + 1 ∧ rk s n n ≤ rk s n r := fun r hr hk => ⟨by
    have : keyI s n ≠ keyI s r := fun z => by have := keyI_inj (by omega) (by omega) z; omega
    rw [rk_succ, if_pos (by omega)], Nat.le_of_not_lt (fun z => hk ((rk_lt hr).mp z))⟩
  constructor
  · intro r hr
    by_cases e : r = n
    · subst e; rw [self]; exact h2
    · by_cases hk : keyI s r < keyI s n
      · obtain ⟨q1, q2⟩ := lo r (by omega) hk
        rw [q1, h1 _ q2]; exact h.1 r (by omega)
      · obtain ⟨q1, q2⟩ := hi r (by omega) hk
        rw [q1, h3 _ q2 (rk_self (by omega))]; exact h.1 r (by omega)
  · intro p hp
    rcases Nat.lt_trichotomy p (rk s n n) with hlt | heq | hgt
    · have hT : rk s n n ≤ n := cntN_le _ _
      obtain ⟨r, hr, e⟩ := h.2 p (by omega)
      have hk : keyI s r < keyI s n := (rk_lt hr).mp (by omega)
      exact ⟨r, by omega, by rw [(lo r hr hk).1]; exact e⟩
    · exact ⟨n, by omega, by rw [self]; exact heq.symm⟩
    · obtain ⟨r, hr, e⟩ := h.2 (p - 1) (by omega)
      have hk : ¬ keyI s r < keyI s n := fun z => by have := (rk_lt hr).mpr z; omega
      exact ⟨r, by omega, by rw [(hi r hr hk).1]; omega⟩
def wdB (st : Nat) : Nat := 2 ^ (8 - st)
theorem wdB_s {st : Nat} (q : st < 8) : wdB st = wdB (st + 1) * 2 := by
  unfold wdB
  rw [← Nat.pow_succ]; congr 1; omega
theorem wdB_lo {lo hi st : Nat} (h : hi - lo < wdB st) (q : st < 8) : (lo + hi) / 2 - lo < wdB (st + 1) := by
  rw [wdB_s q] at h
  generalize wdB (st + 1) = w at h ⊢
  omega
theorem wdB_hi {lo hi st : Nat} (h : hi - lo < wdB st) (q : st < 8) (hl : lo < hi) : hi - ((lo + hi) / 2 + 1) < wdB (st + 1) := by
  rw [wdB_s q] at h
  generalize wdB (st + 1) = w at h ⊢
  omega
section FS
variable {A : SA} {B : SB}
theorem w_sortIn {s : Int32} {n : Nat} (hn : n < 200) (h : OrdOK s n (B 28)) {Q : SB → Prop} (hQ : ∀ g, OrdOK s (n + 1) g → Q (va_up B 28 g)) : wp_X0_sortIn (keyL s n) (nI n) A B Q := by
  have hT : rk s n n ≤ n := cntN_le _ _
  refine lp3 (wp_X0_sortIn_9 _ Q (keyL s n) (nI n) A B) (fun v4 v5 v6 => ∃ lo hi st : Nat, v4 = nI lo ∧ v5 = nI hi ∧ v6 = nI st ∧ lo ≤ rk s n n ∧ rk s n n ≤ hi ∧ hi ≤ n ∧ st ≤ 8 ∧ hi - lo < wdB st) (fun v4 v5 _ => v5.toNatClampNeg - v4.toNatClampNeg) ?_ _ _ _ ⟨0, n, 0, nI_0.symm, rfl, nI_0.symm, Nat.zero_le _, hT, Nat.le_refl _, by omega, by show n - 0 < 256; omega⟩
  rintro m v4 v5 v6 ⟨lo, hi, st, rfl, rfl, rfl, h1, h2, h3, h4, h5⟩ ih
  have fin : ∀ z : Nat, z = rk s n n →
      (¬ nI z < 0 ∧ ¬ (nI z + (1 : Int32)) < 0 ∧ ¬ (nI n - nI z) < 0 ∧ (nI z).toNatClampNeg + (nI n - nI z).toNatClampNeg ≤ 200 ∧ (nI z + (1 : Int32)).toNatClampNeg + (nI n - nI z).toNatClampNeg ≤ 200) ∧
      vp_in (nI z) 200 ∧
      Q (u2L (va_up B 28 (va_cpy (B 28) (B 28) (nI z).toNatClampNeg (nI z + (1 : Int32)).toNatClampNeg (nI n - nI z).toNatClampNeg)) 28 (nI z).toNatClampNeg (keyL s n)) := by
    rintro z rfl
    have hcl : (nI (rk s n n)).toNatClampNeg = rk s n n := nI_clamp (by omega)
    rw [nI_1, pk_sub hT, hcl, nI_clamp (by omega), nI_clamp (by omega)]
    refine ⟨⟨nI_pos (by omega), nI_pos (by omega), nI_pos (by omega), by omega, by omega⟩, pk_in (rk s n n) 200 (by omega), ?_⟩
    rw [u2L_up]
    refine hQ _ (h.ins hn (fun j hj => ?_) ?_ (fun j hj hj2 => ?_))
    · rw [pk_uLn (by omega), pk_cpy_out (by omega)]
    · rw [pk_uLs]
    · rw [pk_uLn (by omega), pk_cpy_in (by omega) (by omega)]
      congr 1; omega
  refine pk_le 8 st (fun q => ?_) (fun q0 => pk_le hi lo (fun q => ?_) (fun q x ex => ?_))
  · have e8 : st = 8 := by omega
    subst e8
    have h5' : hi - lo < 1 := h5
    exact fin lo (by omega)
  · exact fin lo (by omega)
  · have w1 := wdB_lo h5 q0
    have w2 := wdB_hi h5 q0 q
    clear h5
    rw [nI_add, show (2 : Int32) = nI 2 from rfl, pk_div (by omega) (by omega) (by omega)] at ex
    obtain ⟨r, hr, er⟩ := h.2 ((lo + hi) / 2) (by omega)
    subst ex
    refine ⟨pk_in ((lo + hi) / 2) 200 (by omega), ?_⟩
    rw [nI_clamp (by omega), ← er, h.1 r hr, keyL_lt (by omega) (by omega)]
    refine ⟨fun z x6 e6 => ?_, fun z x5 e5 x6 e6 => ?_⟩
    · have hk : ¬ keyI s r < keyI s n := by clear w1 w2; omega
      have hk2 : rk s n n ≤ rk s n r := Nat.le_of_not_lt (fun y => hk ((rk_lt hr).mp y))
      exact ih _ _ _ ⟨lo, rk s n r, st + 1, rfl, rfl, e6.trans (nI_1 _), h1, hk2, by omega, q0, by rw [er]; exact w1⟩ (by rw [nI_clamp (by omega), nI_clamp (by omega), nI_clamp (by omega)]; omega)
    · have hk2 : rk s n r < rk s n n := (rk_lt hr).mpr (by clear w1 w2; omega)
      rw [nI_1] at e5
      exact ih _ _ _ ⟨rk s n r + 1, hi, st + 1, e5, rfl, e6.trans (nI_1 _), by omega, h2, h3, q0, by rw [er]; exact w2⟩ (by rw [e5, nI_clamp (by omega), nI_clamp (by omega), nI_clamp (by omega)]; omega)
end FS
