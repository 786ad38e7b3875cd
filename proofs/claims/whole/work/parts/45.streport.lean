/-! step: report, and what is pruned -/
def insF (f : Nat → Int32) (a : Nat) (x : Int32) : Nat → Int32 := fun k => if k < a then f k else if k = a then x else f (k - 1)
theorem cnt_ins {f : Nat → Int32} {a : Nat} {x : Int32} (p : Int32 → Bool) : ∀ c, a ≤ c → cntN (fun k => p (insF f a x k)) (c + 1) = cntN (fun k => p (f k)) c + if p x = true then 1 else 0
  | 0, h => by
    have : a = 0 := by omega
    subst this
    simp [cntN, insF]
  | c + 1, h => by
    simp only [cntN]
    by_cases e : a = c + 1
    · subst e
      have h1 : cntN (fun k => p (insF f (c + 1) x k)) c = cntN (fun k => p (f k)) c := cntN_congr (fun i hi => by simp [insF, show i < c + 1 by omega])
      rw [h1]
      simp [insF]
    · have ih := cnt_ins (f := f) (a := a) (x := x) p c (by omega)
      simp only [cntN] at ih
      rw [ih]
      have h1 : insF f a x (c + 1) = f c := by simp [insF, show ¬ c + 1 < a by omega, show c + 1 ≠ a by omega]
      simp only [h1]
      omega
theorem cnt_ge {p : Nat → Bool} {m : Nat} : ∀ c, (∀ k, m ≤ k → k < c → p k = true) → c ≤ cntN p c + m
  | 0, _ => by omega
  | c + 1, h => by
    simp only [cntN]
    by_cases e : m ≤ c
    · have := cnt_ge c (fun k h1 h2 => h k h1 (by omega))
      rw [h c e (by omega)]
      simp
      omega
    · omega
theorem cnt_none {p : Nat → Bool} : ∀ c, (∀ k, k < c → p k = false) → cntN p c = 0
  | 0, _ => rfl
  | c + 1, h => by simp only [cntN]; rw [cnt_none c (fun k hk => h k (by omega)), h c (by omega)]; simp
theorem cnt_lt {p : Nat → Bool} {m : Nat} (hm : ∀ k, k ≤ m → p k = false) : ∀ c, m < c → cntN p c + (m + 1) ≤ c
  | 0, h => by omega
  | c + 1, h => by
    simp only [cntN]
    by_cases e : m < c
    · have := cnt_lt hm c e
      split <;> omega
    · have : m = c := by omega
      subst this
      rw [cnt_none m (fun k hk => hm k (by omega)), hm m (Nat.le_refl m)]
      simp
/-- where the middle of a rising row lies over v -/
theorem mid_iff {f : Nat → Int32} {c m : Nat} {v : Int32} (hs : ∀ a b, a < b → b < c → f a ≤ f b) (hm : m < c) : v < f m ↔ c - cntN (fun k => decide (v < f k)) c ≤ m := by
  constructor
  · intro h
    have := cnt_ge (p := fun k => decide (v < f k)) (m := m) c (fun k h1 h2 => by
      by_cases e : m = k
      · subst e; simpa using h
      · have := hs m k (by omega) h2
        simp only [decide_eq_true_eq]
        exact Int32.lt_of_lt_of_le h this)
    omega
  · intro h
    apply Classical.byContradiction
    intro hn
    have h1 : f m ≤ v := Int32.not_lt.mp hn
    have := cnt_lt (p := fun k => decide (v < f k)) (m := m) (fun k hk => by
      have h2 : f k ≤ v := by
        by_cases e : k = m
        · subst e; exact h1
        · exact Int32.le_trans (hs k m (by omega) hm) h1
      simp only [decide_eq_false_iff_not]
      exact Int32.not_lt.mpr h2) c hm
    omega
section RP
variable {A : SA} {B : SB} {n : Nat} {M : Nat → Nat} {P : Nat → Option Nat} {S : Nat → Nat → Bool} {W : Nat → Nat} {t : Nat} {pt st sp : Nat → Nat}
theorem w_sortInT {c : Nat} (hc : c < 60) {x : Int32} {Q : SA → Prop}
    (h : ∀ (a : Nat) (g : Nat → Int32), a ≤ c → (0 < a → A 21 (a - 1) ≤ x) → (∀ k, a ≤ k → k < c → x < A 21 k) → (∀ k, k ≤ c → g k = insF (A 21) a x k) → Q (va_up A 21 g)) : wp_X4_sortIn x (nI c) A B Q := by
  refine lp2 (wp_X4_sortIn_2 _ Q x B) (fun v3 A' => ∃ (a : Nat) (g : Nat → Int32), a ≤ c ∧ v3 = nI a ∧ A' = va_up A 21 g ∧ (∀ k, k < a → g k = A 21 k) ∧ (∀ k, a < k → k ≤ c → g k = A 21 (k - 1)) ∧ ∀ k, a ≤ k → k < c → x < A 21 k) (fun v3 _ => v3.toNatClampNeg) ?_ _ _
    ⟨c, A 21, Nat.le_refl c, rfl, (va_up_id A 21).symm, fun k _ => rfl, fun k h1 h2 => by omega, fun k h1 h2 => by omega⟩
  rintro m v3 A' ⟨a, g, ha, rfl, rfl, hg1, hg2, hx⟩ ih
  have ea : (nI a).toNatClampNeg = a := nI_clamp (by omega)
  have fin : (0 < a → A 21 (a - 1) ≤ x) → vp_in (nI a) 60 ∧ Q (u2 (va_up A 21 g) 21 (nI a).toNatClampNeg x) := by
    intro hle
    refine ⟨pk_in a 60 (by omega), ?_⟩
    rw [ea, u2_up]
    refine h a _ ha hle hx (fun k hk => ?_)
    unfold upd insF
    by_cases h1 : k = a
    · subst h1; simp
    · by_cases h2 : k < a
      · rw [if_neg h1, if_pos h2]; exact hg1 k h2
      · rw [if_neg h1, if_neg h2, if_neg h1]; exact hg2 k (by omega) hk
  refine pk_le a 0 (fun q => fin (by omega)) (fun q x2 e2 => ?_)
  have e2' : x2 = nI (a - 1) := by rw [e2]; exact pk_sub (a := a) (b := 1) (by omega)
  subst e2'
  have ea1 : (nI (a - 1)).toNatClampNeg = a - 1 := nI_clamp (by omega)
  refine ⟨pk_in (a - 1) 60 (by omega), ?_⟩
  rw [ea1, va_up_self, hg1 (a - 1) (by omega)]
  refine ⟨fun z => fin (fun _ => z), fun z x5 e5 => ?_⟩
  have e5' : x5 = nI (a - 1) := by rw [e5]; exact pk_sub (a := a) (b := 1) (by omega)
  subst e5'
  refine ⟨pk_in (a - 1) 60 (by omega), fun x7 e7 => ⟨pk_in a 60 (by omega), fun v3 e3 => ?_⟩⟩
  rw [ea1, hg1 (a - 1) (by omega)] at e7
  have e3' : v3 = nI (a - 1) := by
    rw [e3, ← Int32.sub_eq_add_neg]
    exact pk_sub (a := a) (b := 1) (by omega)
  rw [ea, u2_up]
  refine ih _ _ ⟨a - 1, _, by omega, e3', rfl, fun k hk => ?_, fun k h1 h2 => ?_, fun k h1 h2 => ?_⟩ ?_
  · simp only [upd, show k ≠ a by omega, if_false]; exact hg1 k (by omega)
  · by_cases hk : k = a
    · subst hk; simp only [upd, if_true]; exact e7
    · simp only [upd, hk, if_false]; exact hg2 k (by omega) h2
  · by_cases hk : k = a - 1
    · subst hk; exact Int32.not_le.mp z
    · exact hx k (by omega) h2
  · rw [e3', ea, ea1]; omega
/-- which trials count for the middle at step s, for trial j -/
def selB (sp : Nat → Nat) (j s i : Nat) : Bool := decide (i ≠ j) && decide (s < sp i)
theorem w_below {j s : Nat} {v m : Int32} (ht : t ≤ 60) (hj : j < t) (hs : s < 20) (e2 : A 2 0 = nI t) (h16 : ∀ i, i < t → sp i ≤ 20 ∧ A 16 i = nI (sp i)) {mm : Nat} (hm1 : 1 ≤ mm) (hm : m = nI mm) (hmm : mm ≤ 60) {Q : Int32 → SA → Prop}
    (h : ∀ g : Nat → Int32, Q (if mm ≤ cntN (selB sp j s) t ∧ cntN (selB sp j s) t - cntN (fun i => selB sp j s i && decide (v < A (56 + i) s)) t ≤ (cntN (selB sp j s) t - 1) / 2 then 1 else 0) (va_up A 21 g)) : wp_X4_isBelowMiddle (nI j) (nI s) v m A B Q := by
  have es : (nI s).toNatClampNeg = s := nI_clamp (by omega)
  unfold wp_X4_isBelowMiddle
  generalize hE : (fun (v5 : Int32) (A1 : SA) => ((v5 < m → Q 0 A1) ∧ (¬ v5 < m → ∀ x : Int32, x = ((v5 - (1 : Int32)) / (2 : Int32)) → vp_in x 60 ∧ (((A1 21 x.toNatClampNeg) ≤ v → Q 0 A1) ∧ (¬ (A1 21 x.toNatClampNeg) ≤ v → Q 1 A1))))) = E
  refine lp3 (wp_X4_isBelowMiddle_6 E Q (nI j) (nI s) v m B) (fun v5 v6 A' => ∃ (i : Nat) (g : Nat → Int32), i ≤ t ∧ v6 = nI i ∧ v5 = nI (cntN (selB sp j s) i) ∧ A' = va_up A 21 g ∧ (∀ a b, a < b → b < cntN (selB sp j s) i → g a ≤ g b) ∧ cntN (fun k => decide (v < g k)) (cntN (selB sp j s) i) = cntN (fun i => selB sp j s i && decide (v < A (56 + i) s)) i) (fun _ v6 _ => 60 - v6.toNatClampNeg) ?_ _ _ _
    ⟨0, A 21, Nat.zero_le t, nI_0.symm, rfl, (va_up_id A 21).symm, fun a b _ h2 => by simp [cntN] at h2, rfl⟩
  rintro m2 v5 v6 A' ⟨i, g, hi, rfl, rfl, rfl, hg1, hg2⟩ ih
  have ei : (nI i).toNatClampNeg = i := nI_clamp (by omega)
  have hci := cntN_le (selB sp j s) i
  refine pk_le t i (fun q => ?_) (fun q => ?_) (by rw [va_up_ne _ _ (by decide)]; exact e2)
  · have hit : i = t := by omega
    subst hit
    subst hm
    have hQ := h g
    rw [← hE]
    dsimp only
    refine pk_lt (cntN (selB sp j s) i) mm (fun q2 => ?_) (fun q2 x18 e18 => ?_)
    · rw [if_neg (by omega)] at hQ; exact hQ
    · have e18' : x18 = nI ((cntN (selB sp j s) i - 1) / 2) := by
        rw [e18, show nI (cntN (selB sp j s) i) - (1 : Int32) = nI (cntN (selB sp j s) i - 1) from pk_sub (a := cntN (selB sp j s) i) (b := 1) (by omega), show (2 : Int32) = nI 2 from rfl, pk_div (by omega) (by omega) (by omega)]
      subst e18'
      refine ⟨pk_in ((cntN (selB sp j s) i - 1) / 2) 60 (by omega), ?_⟩
      rw [nI_clamp (by omega), va_up_self]
      have hmid := mid_iff (v := v) (m := (cntN (selB sp j s) i - 1) / 2) hg1 (by omega)
      rw [hg2] at hmid
      refine ⟨fun z => ?_, fun z => ?_⟩
      · rw [if_neg (fun y => Int32.not_lt.mpr z (hmid.mpr y.2))] at hQ; exact hQ
      · rw [if_pos ⟨q2, hmid.mp (Int32.not_le.mp z)⟩] at hQ; exact hQ
  · have nxt : ∀ (v5 v6 : Int32) (g' : Nat → Int32), v5 = nI (cntN (selB sp j s) (i + 1)) → v6 = nI i + 1 → (∀ a b, a < b → b < cntN (selB sp j s) (i + 1) → g' a ≤ g' b) → cntN (fun k => decide (v < g' k)) (cntN (selB sp j s) (i + 1)) = cntN (fun i => selB sp j s i && decide (v < A (56 + i) s)) (i + 1) → wp_X4_isBelowMiddle_6 E Q (nI j) (nI s) v m B m2 v5 v6 (va_up A 21 g') := by
      intro v5 v6 g' h5 h6 ha hb
      rw [nI_1] at h6
      exact ih _ _ _ ⟨i + 1, g', by omega, h6, h5, rfl, ha, hb⟩ (by rw [h6, ei, nI_clamp (by omega)]; omega)
    have skip : selB sp j s i = false → ∀ v6 : Int32, v6 = nI i + 1 → wp_X4_isBelowMiddle_6 E Q (nI j) (nI s) v m B m2 (nI (cntN (selB sp j s) i)) v6 (va_up A 21 g) := by
      intro hsel v6 e6
      have ec : cntN (selB sp j s) (i + 1) = cntN (selB sp j s) i := by simp [cntN, hsel]
      refine nxt _ _ g (by rw [ec]) e6 (by rw [ec]; exact hg1) ?_
      rw [ec, hg2]
      simp [cntN, hsel]
    refine pk_eq i j (fun q2 v6 e6 => skip (by simp [selB, q2]) v6 e6) (fun q2 => ⟨pk_in i 60 (by omega), ?_⟩)
    rw [ei, va_up_ne _ _ (by decide), (h16 i q).2]
    have hspi := (h16 i q).1
    refine pk_le (sp i) s (fun q3 v6 e6 => skip (by simp [selB]; omega) v6 e6) (fun q3 => ⟨pk_in i 60 (by omega), pk_in s 20 (by omega), ?_⟩)
    have hsel : selB sp j s i = true := by simp [selB, q2]; omega
    have ec : cntN (selB sp j s) (i + 1) = cntN (selB sp j s) i + 1 := by simp [cntN, hsel]
    rw [es, va_up_ne _ _ (by omega)]
    refine w_sortInT (A := va_up A 21 g) (by omega) (fun a g' ha hle hgt hg' v5 e5 v6 e6 => ?_)
    rw [va_up_self] at hle hgt hg'
    have eup : va_up (va_up A 21 g) 21 g' = va_up A 21 g' := by
      funext k
      by_cases hk : k = 21
      · subst hk; simp [va_up]
      · simp [va_up, hk]
    rw [eup]
    have hle2 : ∀ k, k < a → g k ≤ A (56 + i) s := fun k hk => by
      have h1 := hle (by omega)
      by_cases e : k = a - 1
      · subst e; exact h1
      · exact Int32.le_trans (hg1 k (a - 1) (by omega) (by omega)) h1
    refine nxt _ _ g' (by rw [e5, nI_1, ec]) e6 (fun p q h1 h2 => ?_) ?_
    · rw [ec] at h2
      rw [hg' p (by omega), hg' q (by omega)]
      unfold insF
      by_cases p1 : p < a
      · rw [if_pos p1]
        by_cases q1 : q < a
        · rw [if_pos q1]; exact hg1 p q h1 (by omega)
        · rw [if_neg q1]
          by_cases q4 : q = a
          · rw [if_pos q4]; exact hle2 p p1
          · rw [if_neg q4]; exact Int32.le_trans (hle2 p p1) (Int32.le_of_lt (hgt (q - 1) (by omega) (by omega)))
      · rw [if_neg p1, if_neg (show ¬ q < a by omega), if_neg (show ¬ q = a by omega)]
        by_cases p2 : p = a
        · rw [if_pos p2]; exact Int32.le_of_lt (hgt (q - 1) (by omega) (by omega))
        · rw [if_neg p2]; exact hg1 (p - 1) (q - 1) (by omega) (by omega)
    · rw [ec, cntN_congr (q := fun k => decide (v < insF g a (A (56 + i) s) k)) (fun k hk => by rw [hg' k (by omega)]), cnt_ins (fun y => decide (v < y)) _ ha, hg2]
      simp [cntN, hsel]
end RP
