/-! step: use -/
def cU (o : Nat) (a1 : Int32) (po pi : Nat) : Bool := if po = o then decide (¬ 0 ≤ a1) else decide (0 ≤ a1 ∧ nI pi = a1)
def dlU (o : Nat) (a1 : Int32) (po pi w : Nat) : Int32 := if po = o then (if 0 ≤ a1 then 0 else if w = 2 then 1 else 0) else (if 0 ≤ a1 ∧ nI pi = a1 then (if w = 1 then 1 else 0) else if w = 0 then 1 else 0)
section US
variable {A : SA} {B : SB} {rows outer inner : Nat} {pl : Nat → Nat}
theorem m_useL {o : Nat} {a1 : Int32} (g1 : rows ≤ 200) (ho : o < 10) (hb : 2 ≤ outer ∧ outer ≤ 10) (hb2 : 2 ≤ inner ∧ inner ≤ 10) (e25 : A 5 25 = nI rows) (e26 : A 5 26 = nI outer) (e27 : A 5 27 = nI inner) (hpl : ∀ r, r < rows → pl r < 200 ∧ A 45 r = nI (pl r)) {E Q : Int32 → SA → Prop}
    (hE : ∀ g : Nat → Int32, (∀ r w, r < rows → w < 3 → g (30 * r + 3 * o + w) = A 47 (30 * r + 3 * o + w) + dlU o a1 (pl r % outer) (pl r / outer % inner) w) → (∀ r o' w, o' < 10 → w < 3 → o' ≠ o → g (30 * r + 3 * o' + w) = A 47 (30 * r + 3 * o' + w)) → E (nI (cntN (fun r => cU o a1 (pl r % outer) (pl r / outer % inner)) rows)) (va_up A 47 g)) : ∃ n, wp_X6_use_60 E Q (nI o) a1 B n 0 0 A := by
  refine lp3 (wp_X6_use_60 E Q (nI o) a1 B) (fun v3 v4 A' => ∃ (i : Nat) (g : Nat → Int32), i ≤ rows ∧ v4 = nI i ∧ v3 = nI (cntN (fun r => cU o a1 (pl r % outer) (pl r / outer % inner)) i) ∧ A' = va_up A 47 g ∧ (∀ r w, r < i → w < 3 → g (30 * r + 3 * o + w) = A 47 (30 * r + 3 * o + w) + dlU o a1 (pl r % outer) (pl r / outer % inner) w) ∧ (∀ r o' w, o' < 10 → w < 3 → (o' ≠ o ∨ i ≤ r) → g (30 * r + 3 * o' + w) = A 47 (30 * r + 3 * o' + w))) (fun _ v4 _ => 200 - v4.toNatClampNeg) ?_ _ _ _ ⟨0, A 47, Nat.zero_le _, nI_0.symm, rfl, (va_up_id _ _).symm, fun r w hr => by omega, fun _ _ _ _ _ _ => rfl⟩
  rintro m v3 v4 A' ⟨i, g, hi, rfl, rfl, rfl, hg1, hg2⟩ ih
  have ei : (nI i).toNatClampNeg = i := nI_clamp (by omega)
  have k5 : (va_up A 47 g) 5 = A 5 := va_up_ne _ _ (by decide)
  have k45 : (va_up A 47 g) 45 = A 45 := va_up_ne _ _ (by decide)
  have hc := cntN_le (fun r => cU o a1 (pl r % outer) (pl r / outer % inner)) i
  refine pk_le rows i (fun q => ?_) (fun q x ex => ?_) (by rw [k5]; exact e25)
  · have : i = rows := by omega
    subst this
    exact hE g hg1 (fun r o' w a b c => hg2 r o' w a b (Or.inl c))
  · rw [show (30 : Int32) = nI 30 from rfl, show (3 : Int32) = nI 3 from rfl, pk_mul, pk_mul, nI_add] at ex
    have hp := hpl i q
    have hm1 : pl i % outer < outer := Nat.mod_lt _ (by omega)
    have hm2 : pl i / outer % inner < inner := Nat.mod_lt _ (by omega)
    -- one row's step: the word w is counted
    have nxt : ∀ (w : Nat) (c : Nat) (y x3 v4 : Int32), w < 3 → dlU o a1 (pl i % outer) (pl i / outer % inner) w = 1 → (∀ w', w' < 3 → w' ≠ w → dlU o a1 (pl i % outer) (pl i / outer % inner) w' = 0) → (if cU o a1 (pl i % outer) (pl i / outer % inner) = true then 1 else 0) = c → y = (va_up A 47 g) 47 (30 * i + 3 * o + w) + 1 → x3 = nI (cntN (fun r => cU o a1 (pl r % outer) (pl r / outer % inner)) i) + nI c → v4 = nI i + 1 → wp_X6_use_60 E Q (nI o) a1 B m x3 v4 (u2 (va_up A 47 g) 47 (30 * i + 3 * o + w) y) := by
      intro w c y x3 v4 hw h1 h0 hcc hy h3 h4
      rw [nI_1] at h4
      rw [nI_add] at h3
      rw [va_up_self, hg2 i o w ho hw (Or.inr (Nat.le_refl _))] at hy
      rw [u2_up]
      refine ih _ _ _ ⟨i + 1, _, by omega, h4, ?_, rfl, fun r w' hr hw' => ?_, fun r o' w' ho' hw' hc' => ?_⟩ (by rw [h4, ei, nI_clamp (by omega)]; omega)
      · rw [h3]; simp only [cntN]; rw [hcc]
      · by_cases hri : r = i
        · subst hri
          by_cases hww : w' = w
          · subst hww
            simp only [upd, if_true]
            rw [hy, h1]
          · rw [h0 w' hw' hww]
            simp only [upd]
            rw [if_neg (by omega), hg2 r o w' ho hw' (Or.inr (Nat.le_refl _)), Int32.add_zero]
        · simp only [upd]
          rw [if_neg (by omega)]
          exact hg1 r w' (by omega) hw'
      · simp only [upd]
        rw [if_neg (by omega)]
        exact hg2 r o' w' ho' hw' (by omega)
    have ix : ∀ w : Nat, w < 3 → x + nI w = nI (30 * i + 3 * o + w) ∧ vp_in (x + nI w) 6000 ∧ (x + nI w).toNatClampNeg = 30 * i + 3 * o + w := by
      intro w hw
      have e : x + nI w = nI (30 * i + 3 * o + w) := by rw [ex, nI_add]
      exact ⟨e, by rw [e]; exact pk_in (30 * i + 3 * o + w) 6000 (by omega), by rw [e]; exact nI_clamp (by omega)⟩
    have ix0 := ix 0 (by omega)
    have ix1 := ix 1 (by omega)
    have ix2 := ix 2 (by omega)
    refine m_outerOf (pl := pl) (by omega) hb (by rw [k5]; exact e26) (by rw [k45]; exact hp.2) hp.1 (pk_ne (pl i % outer) o (fun q1 => ⟨fun z => ?_, fun z x4 e4 => ?_⟩) (fun q1 => ⟨fun z v4 e4 => ?_, fun z x5 e5 => ?_⟩))
    · refine m_innerOf (pl := pl) (by omega) hb hb2 (by rw [k5]; exact e26) (by rw [k5]; exact e27) (by rw [k45]; exact hp.2) hp.1 ⟨fun y x4 e4 => ?_, fun y x4 e4 => ?_⟩
      · subst e4
        refine ⟨ix0.2.1, fun x5 e5 => ⟨ix0.2.1, fun x6 e6 v4 e7 => ?_⟩⟩
        rw [show (x + (0 : Int32)).toNatClampNeg = 30 * i + 3 * o + 0 from ix0.2.2] at e5 ⊢
        exact nxt 0 0 x5 x6 v4 (by omega) (by unfold dlU; simp [q1, y]) (fun w' _ hw0 => by unfold dlU; simp [q1, y, hw0]) (by unfold cU; simp [q1, y]) e5 e6 e7
      · subst e4
        refine ⟨ix1.2.1, fun x5 e5 => ⟨ix1.2.1, fun x6 e6 v4 e7 => ?_⟩⟩
        rw [show (x + (1 : Int32)).toNatClampNeg = 30 * i + 3 * o + 1 from ix1.2.2] at e5 ⊢
        exact nxt 1 1 x5 x6 v4 (by omega) (by unfold dlU; simp [q1, y, z]) (fun w' _ hw0 => by unfold dlU; simp [q1, y, z, hw0]) (by unfold cU; simp [q1, y, z]) e5 e6 e7
    · subst e4
      refine ⟨ix0.2.1, fun x5 e5 => ⟨ix0.2.1, fun x6 e6 v4 e7 => ?_⟩⟩
      rw [show (x + (0 : Int32)).toNatClampNeg = 30 * i + 3 * o + 0 from ix0.2.2] at e5 ⊢
      exact nxt 0 0 x5 x6 v4 (by omega) (by unfold dlU; simp [q1, z]) (fun w' _ hw0 => by unfold dlU; simp [q1, z, hw0]) (by unfold cU; simp [q1, z]) e5 e6 e7
    · rw [nI_1] at e4
      refine ih _ _ _ ⟨i + 1, g, by omega, e4, ?_, rfl, fun r w' hr hw' => ?_, fun r o' w' ho' hw' hc' => hg2 r o' w' ho' hw' (by omega)⟩ (by rw [e4, ei, nI_clamp (by omega)]; omega)
      · simp only [cntN]
        rw [if_neg (by unfold cU; simp [q1, z]), Nat.add_zero]
      · by_cases hri : r = i
        · subst hri
          rw [hg2 r o w' ho hw' (Or.inr (Nat.le_refl _)), show dlU o a1 (pl r % outer) (pl r / outer % inner) w' = 0 by unfold dlU; simp [q1, z], Int32.add_zero]
        · exact hg1 r w' (by omega) hw'
    · subst e5
      refine ⟨ix2.2.1, fun x5 e5 => ⟨ix2.2.1, fun x6 e6 v4 e7 => ?_⟩⟩
      rw [show (x + (2 : Int32)).toNatClampNeg = 30 * i + 3 * o + 2 from ix2.2.2] at e5 ⊢
      exact nxt 2 1 x5 x6 v4 (by omega) (by unfold dlU; simp [q1, z]) (fun w' _ hw0 => by unfold dlU; simp [q1, z, hw0]) (by unfold cU; simp [q1, z]) e5 e6 e7
theorem w_testL {o : Nat} {E : Int32 → Prop} {Q : Int32 → SA → Prop} (g1 : rows ≤ 200) (ho : o < 10) (hb : 2 ≤ outer ∧ outer ≤ 10) (e40 : A 4 0 = nI rows) (h24 : ∀ r, r < rows → A 24 r = nI (pl r % outer)) (hE : E (nI (cntN (fun r => decide (pl r % outer = o)) rows))) : ∃ n, wp_X0_test_14 E Q (nI o) A B n 0 0 := by
  refine lp2 (wp_X0_test_14 E Q (nI o) A B) (fun v2 v3 => ∃ i : Nat, i ≤ rows ∧ v3 = nI i ∧ v2 = nI (cntN (fun r => decide (pl r % outer = o)) i)) (fun _ v3 => 200 - v3.toNatClampNeg) ?_ _ _ ⟨0, Nat.zero_le _, nI_0.symm, rfl⟩
  rintro m v2 v3 ⟨i, hi, rfl, rfl⟩ ih
  have ei : (nI i).toNatClampNeg = i := nI_clamp (by omega)
  refine pk_le rows i (fun q => ?_) (fun q => ⟨pk_in i 200 (by omega), ?_⟩) e40
  · rw [show i = rows by omega]; exact hE
  · have hm1 : pl i % outer < outer := Nat.mod_lt _ (by omega)
    rw [ei, h24 i q]
    refine pk_ne (pl i % outer) o (fun q1 v3 e3 => ?_) (fun q1 v2 e2 v3 e3 => ?_)
    · rw [nI_1] at e3
      exact ih _ _ ⟨i + 1, by omega, e3, by simp [cntN, q1]⟩ (by rw [e3, ei, nI_clamp (by omega)]; omega)
    · rw [nI_1] at e3 e2
      exact ih _ _ ⟨i + 1, by omega, e3, by rw [e2]; simp [cntN, q1]⟩ (by rw [e3, ei, nI_clamp (by omega)]; omega)
theorem w_chooseL {o c : Nat} {E : Int32 → Prop} {Q : Int32 → SA → Prop} (g1 : rows ≤ 200) (ho : o < 10) (hc : c < 10) (hb : 2 ≤ outer ∧ outer ≤ 10) (hb2 : 2 ≤ inner ∧ inner ≤ 10) (e40 : A 4 0 = nI rows) (h24 : ∀ r, r < rows → A 24 r = nI (pl r % outer) ∧ A 25 r = nI (pl r / outer % inner)) (hE : E (nI (cntN (fun r => decide (¬ pl r % outer = o ∧ pl r / outer % inner = c)) rows))) : ∃ n, wp_X0_choose_17 E Q (nI o) (nI c) A B n 0 0 := by
  refine lp2 (wp_X0_choose_17 E Q (nI o) (nI c) A B) (fun v2 v3 => ∃ i : Nat, i ≤ rows ∧ v3 = nI i ∧ v2 = nI (cntN (fun r => decide (¬ pl r % outer = o ∧ pl r / outer % inner = c)) i)) (fun _ v3 => 200 - v3.toNatClampNeg) ?_ _ _ ⟨0, Nat.zero_le _, nI_0.symm, rfl⟩
  rintro m v2 v3 ⟨i, hi, rfl, rfl⟩ ih
  have ei : (nI i).toNatClampNeg = i := nI_clamp (by omega)
  have hin := fun h => pk_in (x := nI i) i 200 h
  refine pk_le rows i (fun q => ?_) (fun q => ⟨hin (by omega), ?_⟩) e40
  · rw [show i = rows by omega]; exact hE
  · have hm1 : pl i % outer < outer := Nat.mod_lt _ (by omega)
    have hm2 : pl i / outer % inner < inner := Nat.mod_lt _ (by omega)
    rw [ei, (h24 i q).1, (h24 i q).2]
    refine pk_eq (pl i % outer) o (fun q1 v3 e3 => ?_) (fun q1 => ⟨hin (by omega), pk_ne (pl i / outer % inner) c (fun q2 v3 e3 => ?_) (fun q2 v2 e2 v3 e3 => ?_)⟩)
    · rw [nI_1] at e3
      exact ih _ _ ⟨i + 1, by omega, e3, by simp [cntN, q1]⟩ (by rw [e3, ei, nI_clamp (by omega)]; omega)
    · rw [nI_1] at e3
      exact ih _ _ ⟨i + 1, by omega, e3, by simp [cntN, q2]⟩ (by rw [e3, ei, nI_clamp (by omega)]; omega)
    · rw [nI_1] at e3 e2
      exact ih _ _ ⟨i + 1, by omega, e3, by rw [e2]; simp [cntN, q1, q2]⟩ (by rw [e3, ei, nI_clamp (by omega)]; omega)
theorem sumE_upd {f : Nat → Int32} {c x : Nat} : ∀ k, sumE (upd f c (f c + 1)) x k = sumE f x k + if c < k ∧ c ≠ x then 1 else 0
  | 0 => by simp [sumE]
  | k + 1 => by
    simp only [sumE]
    rw [sumE_upd k]
    by_cases hk : k = x
    · subst hk
      rw [if_pos rfl, if_pos rfl, Int32.add_zero, Int32.add_zero]
      by_cases h : c < k ∧ c ≠ k
      · rw [if_pos h, if_pos ⟨by omega, h.2⟩]
      · rw [if_neg h, if_neg (by omega)]
    · rw [if_neg hk, if_neg hk]
      by_cases hc : c = k
      · subst hc
        rw [if_neg (by omega), if_pos ⟨by omega, hk⟩, Int32.add_zero]
        simp only [upd, if_true]
        rw [Int32.add_assoc]
      · simp only [upd]
        rw [show (if k = c then f c + 1 else f k) = f k from if_neg (fun z => hc z.symm)]
        by_cases h : c < k ∧ c ≠ x
        · rw [if_pos h, if_pos ⟨by omega, h.2⟩, Int32.add_assoc, Int32.add_comm 1, ← Int32.add_assoc]
        · rw [if_neg h, if_neg (by omega), Int32.add_zero, Int32.add_zero]
/-- the state of the folds after a use: tested or chosen has grown -/
theorem IFo.use {A2 : SA} (h : IFo rows outer inner pl A) {o : Nat} (ho : o < outer) {a1 : Int32} (h26 : A 26 o = 0) (k4 : A2 4 = A 4) (k5 : A2 5 = A 5) (k24 : A2 24 = A 24) (k25 : A2 25 = A 25) (k45 : A2 45 = A 45) (kr : ∀ o', o' < 10 → o' ≠ o → A2 (176 + o') = A (176 + o'))
    (k26 : A2 26 = if 0 ≤ a1 then A 26 else upd (A 26) o 1) (k46 : ∀ o', o' < 10 → A2 46 o' = if o' = o then (if 0 ≤ a1 then 0 else 1) else A 46 o') (kc : if 0 ≤ a1 then ∃ c, c < inner ∧ a1 = nI c ∧ A2 (176 + o) = upd (A (176 + o)) c (A (176 + o) c + 1) else A2 (176 + o) = A (176 + o))
    (h1 : ∀ r w, r < rows → w < 3 → A2 47 (30 * r + 3 * o + w) = A 47 (30 * r + 3 * o + w) + dlU o a1 (pl r % outer) (pl r / outer % inner) w) (h2 : ∀ r o' w, o' < 10 → w < 3 → o' ≠ o → A2 47 (30 * r + 3 * o' + w) = A 47 (30 * r + 3 * o' + w)) : IFo rows outer inner pl A2 := by
  obtain ⟨g1, g2, g3, g4, g5, g6, g7, g8, g9, g10, g11⟩ := h
  have hb : 2 ≤ outer ∧ outer ≤ 10 ∧ 2 ≤ inner ∧ inner ≤ 10 := by omega
  refine ⟨g1, by rw [k4]; exact g2, by rw [k5]; exact g3, by rw [k4]; exact g4, by rw [k5]; exact g5, by rw [k4]; exact g6, by rw [k5]; exact g7, g8, fun r hr => by rw [k45, k24, k25]; exact g9 r hr, fun o' ho' => ?_, fun r o' hr ho' => ?_⟩
  · rw [k46 o' (by omega), k26]
    by_cases hoo : o' = o
    · subst hoo
      rw [if_pos rfl]
      by_cases z : 0 ≤ a1
      · rw [if_pos z, if_pos z, h26]; exact ⟨rfl, Or.inl rfl⟩
      · rw [if_neg z, if_neg z]; simp [upd]
    · rw [if_neg hoo]
      by_cases z : 0 ≤ a1
      · rw [if_pos z]; exact g10 o' ho'
      · rw [if_neg z]; simp only [upd, hoo, if_false]; exact g10 o' ho'
  · have g := g11 r o' hr ho'
    by_cases hoo : o' = o
    · subst hoo
      have e0 := h1 r 0 hr (by omega)
      have e1 := h1 r 1 hr (by omega)
      have e2 := h1 r 2 hr (by omega)
      rw [Nat.add_zero] at e0
      rw [e0, e1, e2, g.1, g.2.1, g.2.2]
      have hm2 : pl r / outer % inner < inner := Nat.mod_lt _ (by omega)
      by_cases hp : pl r % outer = o'
      · simp only [if_pos hp, dlU]
        by_cases z : 0 ≤ a1
        · simp only [if_pos z] at k26 ⊢
          rw [k26]
          simp
        · simp only [if_neg z] at k26 ⊢
          rw [k26]
          simp [upd, h26]
      · simp only [if_neg hp, dlU]
        by_cases z : 0 ≤ a1
        · rw [if_pos z] at k26 kc
          obtain ⟨c, hc, ec, kc⟩ := kc
          rw [kc, k26, sumE_upd]
          have hpi : nI (pl r / outer % inner) = a1 ↔ pl r / outer % inner = c := by rw [ec, nI_eq (by omega) (by omega)]
          by_cases y : pl r / outer % inner = c
          · have z2 : 0 ≤ a1 ∧ nI (pl r / outer % inner) = a1 := ⟨z, hpi.mpr y⟩
            simp only [if_pos z2]
            rw [y]
            refine ⟨by simp, ?_, by simp⟩
            simp [upd]
          · have z2 : ¬ (0 ≤ a1 ∧ nI (pl r / outer % inner) = a1) := fun q => y (hpi.mp q.2)
            simp only [if_neg z2]
            refine ⟨by simp, ?_, ?_⟩
            · simp only [upd]
              rw [if_neg y]; simp
            · rw [if_pos trivial, if_pos ⟨hc, fun q => y q.symm⟩, Int32.add_assoc]
        · rw [if_neg z] at k26 kc
          rw [kc, k26]
          have z2 : ¬ (0 ≤ a1 ∧ nI (pl r / outer % inner) = a1) := fun q => z q.1
          simp only [if_neg z2]
          refine ⟨by simp, by simp, ?_⟩
          simp only [upd, if_true]
          rw [h26, Int32.zero_add, Int32.add_comm]
    · have e0 := h2 r o' 0 (by omega) (by omega) hoo
      have e1 := h2 r o' 1 (by omega) (by omega) hoo
      have e2 := h2 r o' 2 (by omega) (by omega) hoo
      rw [Nat.add_zero] at e0
      have e26 : A2 26 o' = A 26 o' := by
        rw [k26]; split
        · rfl
        · simp [upd, hoo]
      rw [e0, e1, e2, e26, kr o' (by omega) hoo]
      exact g
end US
