/-! steps: fold, used -/
section FO
variable {A : SA} {B : SB} {rows outer inner : Nat} {pl : Nat → Nat}
theorem w_isRow {a0 : Int32} (e : A 4 0 = nI rows) (ht : rows ≤ 200) {Q : Int32 → Prop} (h1 : ∀ j, j < rows → a0 = nI j → Q 1) (h0 : (¬ ∃ j, j < rows ∧ a0 = nI j) → Q 0) : wp_X5_isRow a0 A B Q := by
  unfold wp_X5_isRow
  rw [e]
  refine w_within (fun a b => ⟨by decide +kernel, ?_⟩) (fun z => ⟨by decide +kernel, h0 (fun y => z ((rgN (by omega)).mpr y))⟩)
  obtain ⟨j, hj, e⟩ := (rgN (by omega)).mp ⟨a, b⟩
  exact h1 j hj e
theorem w_isOuter {a0 : Int32} (e : A 4 1 = nI outer) (ht : outer ≤ 10) {Q : Int32 → Prop} (h1 : ∀ j, j < outer → a0 = nI j → Q 1) (h0 : (¬ ∃ j, j < outer ∧ a0 = nI j) → Q 0) : wp_X5_isOuter a0 A B Q := by
  unfold wp_X5_isOuter
  rw [e]
  refine w_within (fun a b => ⟨by decide +kernel, ?_⟩) (fun z => ⟨by decide +kernel, h0 (fun y => z ((rgN (by omega)).mpr y))⟩)
  obtain ⟨j, hj, e⟩ := (rgN (by omega)).mp ⟨a, b⟩
  exact h1 j hj e
theorem w6_inN {a0 x : Int32} {k : Nat} (e : x = nI k) (hk : k < 2 ^ 31) {Q : Int32 → Prop} (h1 : ∀ j, j < k → a0 = nI j → Q 1) (h0 : (¬ ∃ j, j < k ∧ a0 = nI j) → Q 0) : wp_X6_in a0.toInt64 0 (x - 1).toInt64 A B Q := by
  rw [e]
  refine w_in (fun a b => ?_) (fun z => h0 (fun y => z ((rgN hk).mpr y)))
  obtain ⟨j, hj, e⟩ := (rgN hk).mp ⟨a, b⟩
  exact h1 j hj e
theorem m_outerOf {r : Nat} (hr : r < 200) (ho : 2 ≤ outer ∧ outer ≤ 10) (e26 : A 5 26 = nI outer) (e45 : A 45 r = nI (pl r)) (hp : pl r < 200) {Q : Int32 → Prop} (h : Q (nI (pl r % outer))) : wp_X6_outerOf (nI r) A B Q := by
  refine ⟨pk_in r 200 hr, ?_, ?_⟩
  · rw [e26]; exact nI_ne0 (by omega) (by omega)
  · rw [nI_clamp (by omega), e26, e45, pk_rem (by omega) (by omega) (by omega)]; exact h
theorem m_innerOf {r : Nat} (hr : r < 200) (ho : 2 ≤ outer ∧ outer ≤ 10) (hi : 2 ≤ inner ∧ inner ≤ 10) (e26 : A 5 26 = nI outer) (e27 : A 5 27 = nI inner) (e45 : A 45 r = nI (pl r)) (hp : pl r < 200) {Q : Int32 → Prop} (h : Q (nI (pl r / outer % inner))) : wp_X6_innerOf (nI r) A B Q := by
  have hd : pl r / outer ≤ pl r := Nat.div_le_self _ _
  refine ⟨pk_in r 200 hr, ?_, ?_, ?_⟩
  · rw [e26]; exact nI_ne0 (by omega) (by omega)
  · rw [e27]; exact nI_ne0 (by omega) (by omega)
  · rw [nI_clamp (by omega), e26, e27, e45, pk_div (by omega) (by omega) (by omega), pk_rem (by omega) (by omega) (by omega)]; exact h
theorem st_fold (h : Inv A B) {a0 a1 : Int32} {K : Int32 → Int32 → Prop} (hK : ∀ r, K r r) : wp_X5_fold a0 a1 A B (fun r => wp_X6_fold a0 a1 A B (fun r2 => K r r2)) := by
  obtain ⟨n, M, P, S, W, t, pt, st, sp, -, -, -, rows, outer, inner, pl, hF⟩ := h
  obtain ⟨g1, g2, g3, g4, g5, g6, g7, g8, g9, g10, g11⟩ := hF
  refine w_isRow g2 g1 (fun j hj e => br_f (by decide) ?_) (fun z => br_t rfl (w6_inN g3 (by omega) (fun j hj e => absurd ⟨j, hj, e⟩ z) (fun _ => br_t rfl (hK _))))
  subst e
  have hb : 1 ≤ rows ∧ 2 ≤ outer ∧ outer ≤ 10 ∧ 2 ≤ inner ∧ inner ≤ 10 := by omega
  have hin := pk_in (x := nI j) j 200 (by omega)
  have ej : (nI j).toNatClampNeg = j := nI_clamp (by omega)
  obtain ⟨hp, e45, e24, e25⟩ := g9 j hj
  refine w_within (fun a b => bn_f (by decide) ⟨fun z => ⟨hin, ?_⟩, fun z => ⟨hin, ?_⟩⟩) (fun y => bn_t rfl (w6_inN g3 (by omega) (fun _ _ _ => br_f (by decide) (w_in (fun a b => absurd ⟨a, b⟩ y) (fun _ => bn_t rfl (hK _)))) (fun z => absurd ⟨j, hj, rfl⟩ z)))
  · refine w6_inN g3 (by omega) (fun _ _ _ => br_f (by decide) (w_in (fun _ _ => bn_f (by decide) (bn_f z ?_)) (fun y => absurd ⟨a, b⟩ y))) (fun z => absurd ⟨j, hj, rfl⟩ z)
    refine m_innerOf (pl := pl) (by omega) ⟨hb.2.1, hb.2.2.1⟩ ⟨hb.2.2.2.1, hb.2.2.2.2⟩ g5 g7 e45 hp ?_
    rw [ej, e25]; exact hK _
  · refine w6_inN g3 (by omega) (fun _ _ _ => br_f (by decide) (w_in (fun _ _ => bn_f (by decide) (bn_t z ?_)) (fun y => absurd ⟨a, b⟩ y))) (fun z => absurd ⟨j, hj, rfl⟩ z)
    refine m_outerOf (pl := pl) (by omega) ⟨hb.2.1, hb.2.2.1⟩ g5 e45 hp ?_
    rw [ej, e24]; exact hK _
theorem w_trained {r o : Nat} (hr : r < 200) (ho : o < 10) (hin : inner ≤ 10) (e42 : A 4 2 = nI inner) {x : Nat} (hx : x < 2 ^ 31) (e25 : A 25 r = nI x) {Q : Int32 → Prop} (hQ1 : A 24 r = nI o → Q 0) (hQ : ¬ A 24 r = nI o → Q (A 26 o + sumE (A (176 + o)) x inner)) : wp_X0_trained (nI r) (nI o) A B Q := by
  have er : (nI r).toNatClampNeg = r := nI_clamp (by omega)
  have eo : (nI o).toNatClampNeg = o := nI_clamp (by omega)
  refine ⟨pk_in r 200 hr, fun z => ⟨pk_in o 10 ho, fun y ey => ?_⟩, fun z => hQ1 (by rw [er] at z; exact z)⟩
  rw [er] at z
  rw [eo] at ey
  refine lp2 (wp_X0_trained_22 _ Q (nI r) (nI o) A B) (fun v3 v4 => ∃ i : Nat, i ≤ inner ∧ v4 = nI i ∧ v3 = A 26 o + sumE (A (176 + o)) x i) (fun _ v4 => 10 - v4.toNatClampNeg) ?_ _ _ ⟨0, Nat.zero_le _, nI_0.symm, by rw [ey]; simp [sumE]⟩
  rintro m v3 v4 ⟨i, hi, rfl, rfl⟩ ih
  have ei : (nI i).toNatClampNeg = i := nI_clamp (by omega)
  refine pk_le inner i (fun q => ?_) (fun q => ⟨pk_in r 200 hr, ?_⟩) e42
  · rw [show i = inner by omega]; exact hQ z
  · rw [er, e25]
    refine pk_eq i x (fun q2 v4 e4 => ?_) (fun q2 => ⟨pk_in o 10 ho, pk_in i 10 (by omega), fun x2 e2 v4 e4 => ?_⟩)
    · rw [nI_1] at e4
      refine ih _ _ ⟨i + 1, by omega, e4, ?_⟩ (by rw [e4, ei, nI_clamp (by omega)]; omega)
      simp [sumE, q2]
    · rw [nI_1] at e4
      rw [eo, ei] at e2
      refine ih _ _ ⟨i + 1, by omega, e4, ?_⟩ (by rw [e4, ei, nI_clamp (by omega)]; omega)
      rw [e2]
      simp only [sumE]
      rw [if_neg q2, Int32.add_assoc]
theorem st_used (h : Inv A B) {a0 a1 a2 : Int32} {K : Int32 → Int32 → Prop} (hK : ∀ r, K r r) : wp_X5_used a0 a1 a2 A B (fun r => wp_X6_used a0 a1 a2 A B (fun r2 => K r r2)) := by
  obtain ⟨n, M, P, S, W, t, pt, st, sp, -, -, -, rows, outer, inner, pl, hF⟩ := h
  obtain ⟨g1, g2, g3, g4, g5, g6, g7, g8, g9, g10, g11⟩ := hF
  refine w_isRow g2 g1 (fun j hj e => br_f (by decide) ?_) (fun z => br_t rfl (w6_inN g3 (by omega) (fun j hj e => absurd ⟨j, hj, e⟩ z) (fun _ => br_t rfl (hK _))))
  subst e
  have hb : 1 ≤ rows ∧ 2 ≤ outer ∧ outer ≤ 10 ∧ 2 ≤ inner ∧ inner ≤ 10 := by omega
  have R : ∀ {Q : Int32 → Prop}, wp_X6_in a1.toInt64 0 ((A 5 26) - 1).toInt64 A B (fun r_5 => (r_5 = 0 → Q (-1)) ∧ (¬ r_5 = 0 → wp_X6_in a2.toInt64 0 2 A B (fun r_9 => (¬ r_9 = 0 → ∀ x_13 : Int32, x_13 = (((30 : Int32) * nI j) + ((3 : Int32) * a1)) + a2 → vp_in x_13 6000 ∧ Q (A 47 x_13.toNatClampNeg)) ∧ (r_9 = 0 → Q (-1))))) → wp_X6_used (nI j) a1 a2 A B Q :=
    fun h => w6_inN g3 (by omega) (fun _ _ _ => br_f (by decide) h) (fun z => absurd ⟨j, hj, rfl⟩ z)
  refine w_isOuter g4 (by omega) (fun o ho e => bn_f (by decide) ?_) (fun z => bn_t rfl (R (w6_inN g5 (by omega) (fun j hj e => absurd ⟨j, hj, e⟩ z) (fun _ => br_t rfl (hK _)))))
  subst e
  have R2 : ∀ {Q : Int32 → Prop} (w : Nat), w < 3 → a2 = nI w → Q (A 47 (30 * j + 3 * o + w)) → wp_X6_used (nI j) (nI o) a2 A B Q := by
    intro Q w hw e2 h
    refine R (w6_inN g5 (by omega) (fun _ _ _ => br_f (by decide) (w_in (fun _ _ => bn_f (by decide) (fun x ex => ?_)) (fun y => ?_))) (fun z => absurd ⟨o, ho, rfl⟩ z))
    · rw [e2, show (30 : Int32) = nI 30 from rfl, show (3 : Int32) = nI 3 from rfl, pk_mul, pk_mul, nI_add, nI_add] at ex
      rw [ex, nI_clamp (by omega)]
      exact ⟨pk_in (30 * j + 3 * o + w) 6000 (by omega), h⟩
    · exact absurd (rgI.mpr ⟨by rw [e2, nI_toInt (by omega)]; show (0 : Int) ≤ _; omega, by rw [e2, nI_toInt (by omega)]; show _ ≤ (2 : Int); omega⟩) y
  obtain ⟨hp, e45, e24, e25⟩ := g9 j hj
  have g := g11 j o hj ho
  have hm1 : pl j % outer < outer := Nat.mod_lt _ (by omega)
  have hm2 : pl j / outer % inner < inner := Nat.mod_lt _ (by omega)
  have ej : (nI j).toNatClampNeg = j := nI_clamp (by omega)
  have eo : (nI o).toNatClampNeg = o := nI_clamp (by omega)
  have h24 : A 24 j = nI o ↔ pl j % outer = o := by rw [e24, nI_eq (by omega) (by omega)]
  refine ⟨fun z => ?_, fun z0 => ⟨fun z => ?_, fun z1 => ⟨fun z => ?_, fun z2 => ?_⟩⟩⟩
  · refine w_trained (x := pl j / outer % inner) (by omega) (by omega) hb.2.2.2.2 g6 (by omega) e25 (fun y => R2 0 (by omega) z ?_) (fun y => R2 0 (by omega) z ?_)
    · rw [Nat.add_zero, g.2.2, if_pos (h24.mp y)]; exact hK _
    · rw [Nat.add_zero, g.2.2, if_neg (fun q => y (h24.mpr q))]; exact hK _
  · refine ⟨pk_in j 200 (by omega), fun y => ⟨pk_in o 10 (by omega), pk_in j 200 (by omega), fun x ex => ?_⟩, fun y => ?_⟩
    · rw [ej] at y ex
      rw [e25] at ex
      rw [ex, eo, nI_clamp (by omega)]
      refine ⟨pk_in (pl j / outer % inner) 10 (by omega), R2 1 (by omega) z ?_⟩
      rw [g.2.1, if_neg (fun q => y (h24.mpr q))]; exact hK _
    · rw [ej] at y
      refine R2 1 (by omega) z ?_
      rw [g.2.1, if_pos (h24.mp y)]; exact hK _
  · refine ⟨pk_in j 200 (by omega), fun y => ?_, fun y => ⟨pk_in o 10 (by omega), ?_⟩⟩
    · rw [ej] at y
      refine R2 2 (by omega) z ?_
      rw [g.1, if_neg (fun q => y (h24.mpr q))]; exact hK _
    · rw [ej] at y
      refine R2 2 (by omega) z ?_
      rw [g.1, if_pos (h24.mp y), eo]; exact hK _
  · refine R (w6_inN g5 (by omega) (fun _ _ _ => br_f (by decide) (w_in (fun a b => ?_) (fun _ => bn_t rfl (hK _)))) (fun z => absurd ⟨o, ho, rfl⟩ z))
    have d := rgI.mp ⟨a, b⟩
    rw [show (0 : Int64).toInt = 0 from rfl, show (2 : Int64).toInt = 2 from rfl] at d
    obtain ⟨w, hw, e2, -⟩ := nI_ex (x := a2) (by omega)
    have : w = 0 ∨ w = 1 ∨ w = 2 := by omega
    rcases this with rfl | rfl | rfl
    · exact absurd e2 z0
    · exact absurd e2 z1
    · exact absurd e2 z2
end FO
