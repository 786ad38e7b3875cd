/-! steps: round, cost, plan -/
section PL
variable {A : SA} {B : SB}
theorem st_cost (h : Inv A B) {K : Int64 → Int64 → Prop} (hK : ∀ r, K r r) : wp_X5_cost A B (fun r => wp_X6_cost A B (fun r2 => K r r2)) := by
  obtain ⟨n, M, P, S, W, t, pt, st, sp, -, -, ⟨sd, hR⟩, -⟩ := h
  show K (B 3 1) (B 5 24)
  rw [hR.2.2.2.2.2.2.2.2.2.2.1]
  exact hK _
theorem w_power {f k : Nat} (hf : f < 2 ^ 31) (hk : k < 2 ^ 31) {Q : Int64 → Prop} (h : Q (lN (f ^ k))) : wp_X5_power (nI f) (nI k) A B Q := by
  refine lp2 (wp_X5_power_5 _ Q (nI f) (nI k) A B) (fun v2 v4 => ∃ i : Nat, i ≤ k ∧ v4 = nI i ∧ v2 = lN (f ^ i)) (fun _ v4 => k - v4.toNatClampNeg) ?_ _ _ ⟨0, Nat.zero_le _, nI_0.symm, rfl⟩
  rintro m v2 v4 ⟨i, hi, rfl, rfl⟩ ih
  refine pk_le k i (fun q => ?_) (fun q x ex v4 e4 => ?_)
  · rw [show i = k by omega]; exact h
  · rw [nI_1] at e4
    rw [nI_l hf, lN_mul, ← Nat.pow_succ] at ex
    exact ih _ _ ⟨i + 1, by omega, e4, ex⟩ (by rw [e4, nI_clamp (by omega), nI_clamp (by omega)]; omega)
def PLst (R f L : Nat) : Prop := R < f ^ (L + 1) ∧ ∀ j, j < L → f ^ (j + 1) ≤ R
theorem pl_ex {R f : Nat} (hR : R ≤ 1000000) (hf : 2 ≤ f) : ∃ L, L ≤ 19 ∧ PLst R f L := by
  have h20 : R < f ^ (19 + 1) := Nat.lt_of_lt_of_le (by omega : R < 2 ^ 20) (Nat.pow_le_pow_left hf 20)
  obtain ⟨L, h1, h2⟩ := pk_least (fun k => R < f ^ (k + 1)) ⟨19, h20⟩
  refine ⟨L, ?_, h1, fun j hj => Nat.le_of_not_lt (h2 j hj)⟩
  exact Nat.le_of_not_lt (fun z => h2 19 z h20)
theorem pl_pw {f j : Nat} (hf : f ≤ 5) (hj : j ≤ 20) : f ^ j ≤ 95367431640625 := by
  refine Nat.le_trans (Nat.pow_le_pow_left hf j) (Nat.le_trans (Nat.pow_le_pow_right (by decide) hj) (by decide))
theorem w_last {R f L : Nat} (hR : R ≤ 1000000) (hf : f ≤ 5) (hL : L ≤ 19) (h : PLst R f L) {Q : Int32 → Prop} (hQ : Q (nI L)) : wp_X5_lastBracket (nI R) (nI f) A B Q := by
  refine lp1 (wp_X5_lastBracket_2 _ Q (nI R) (nI f) A B) (fun v2 => ∃ i : Nat, i ≤ L ∧ v2 = nI i) (fun v2 => 20 - v2.toNatClampNeg) ?_ _ ⟨0, Nat.zero_le _, nI_0.symm⟩
  rintro m v2 ⟨i, hi, rfl⟩ ih
  refine pk_le 20 i (fun q => by omega) (fun q => ?_)
  rw [nI_1]
  have hp := pl_pw (f := f) (j := i + 1) hf (by omega)
  refine w_power (by omega) (by omega) (pj_lt R (f ^ (i + 1)) (fun q2 => ?_) (fun q2 v2 e2 => ?_) (nI_l (by omega)) rfl (by omega) (by omega))
  · have : i = L := by
      by_cases z : i < L
      · have := h.2 i z; omega
      · omega
    rw [this]; exact hQ
  · have : i ≠ L := fun z => by rw [z] at q2; have := h.1; omega
    exact ih _ ⟨i + 1, by omega, e2⟩ (by rw [e2, nI_clamp (by omega), nI_clamp (by omega)]; omega)
theorem m_last {R f L : Nat} (hR : R ≤ 1000000) (hf : f ≤ 5) (hL : L ≤ 19) (h : PLst R f L) {E Q : Int32 → Prop} {v3 v4 : Int32} {x : Int64} (hx : x = (nI f).toInt64) (hE : E (nI L)) : ∃ n, wp_X6_plan_55 E Q (nI R) (nI f) v3 v4 A B n 0 x := by
  refine lp2 (wp_X6_plan_55 E Q (nI R) (nI f) v3 v4 A B) (fun v5 v6 => ∃ i : Nat, i ≤ L ∧ v5 = nI i ∧ v6 = lN (f ^ (i + 1))) (fun v5 _ => 20 - v5.toNatClampNeg) ?_ _ _ ⟨0, Nat.zero_le _, nI_0.symm, by rw [hx, nI_l (by omega)]; simp⟩
  rintro m v5 v6 ⟨i, hi, rfl, rfl⟩ ih
  have hp := pl_pw (f := f) (j := i + 1) hf (by omega)
  refine pj_lt R (f ^ (i + 1)) (fun q2 => ?_) (fun q2 x ex v5 e5 => ?_) (nI_l (by omega)) rfl (by omega) (by omega)
  · have : i = L := by
      by_cases z : i < L
      · have := h.2 i z; omega
      · omega
    rw [this]; exact hE
  · have : i ≠ L := fun z => by rw [z] at q2; have := h.1; omega
    rw [nI_1] at e5
    rw [nI_l (by omega), lN_mul, ← Nat.pow_succ] at ex
    exact ih _ _ ⟨i + 1, by omega, e5, ex⟩ (by rw [e5, nI_clamp (by omega), nI_clamp (by omega)]; omega)
theorem m_powL {f j : Nat} (hf : f < 2 ^ 31) (hj : j < 2 ^ 31) {E : Int64 → Prop} {Q : Int32 → Prop} {v1 v4 v5 : Int32} (hE : E (lN (f ^ j))) : ∃ n, wp_X6_plan_98 E Q v1 (nI f) (nI j) v4 v5 A B n 1 0 := by
  refine lp2 (wp_X6_plan_98 E Q v1 (nI f) (nI j) v4 v5 A B) (fun v6 v8 => ∃ i : Nat, i ≤ j ∧ v8 = nI i ∧ v6 = lN (f ^ i)) (fun _ v8 => j - v8.toNatClampNeg) ?_ _ _ ⟨0, Nat.zero_le _, nI_0.symm, rfl⟩
  rintro m v6 v8 ⟨i, hi, rfl, rfl⟩ ih
  refine pk_le j i (fun q => ?_) (fun q x ex v8 e8 => ?_)
  · rw [show i = j by omega]; exact hE
  · rw [nI_1] at e8
    rw [nI_l hf, lN_mul, ← Nat.pow_succ] at ex
    exact ih _ _ ⟨i + 1, by omega, e8, ex⟩ (by rw [e8, nI_clamp (by omega), nI_clamp (by omega)]; omega)
theorem pl_v (a0 a1 a2 a3 : Int32) : ∃ v, (∀ Q : Int32 → Prop, Q v → wp_X5_plan a0 a1 a2 a3 A B Q) ∧ ∀ Q : Int32 → Prop, Q v → wp_X6_plan a0 a1 a2 a3 A B Q := by
  by_cases c0 : (1 : Int64) ≤ a0.toInt64 ∧ a0.toInt64 ≤ 1000000
  case neg => exact ⟨-1, fun Q h => w_within (fun a b => absurd ⟨a, b⟩ c0) (fun _ => br_t rfl h), fun Q h => w_in (fun a b => absurd ⟨a, b⟩ c0) (fun _ => br_t rfl h)⟩
  by_cases c1 : (2 : Int64) ≤ a1.toInt64 ∧ a1.toInt64 ≤ 5
  case neg => exact ⟨-1, fun Q h => w_within (fun _ _ => br_f (by decide) (w_within (fun a b => absurd ⟨a, b⟩ c1) (fun _ => br_t rfl h))) (fun z => absurd c0 z), fun Q h => w_in (fun _ _ => br_f (by decide) (w_in (fun a b => absurd ⟨a, b⟩ c1) (fun _ => br_t rfl h))) (fun z => absurd c0 z)⟩
  have l0 : (0 : Int64).toInt = 0 := rfl
  have l1 : (1 : Int64).toInt = 1 := rfl
  have l2 : (2 : Int64).toInt = 2 := rfl
  have l5 : (5 : Int64).toInt = 5 := rfl
  have lm : (-1 : Int64).toInt = -1 := rfl
  have lM : (1000000 : Int64).toInt = 1000000 := rfl
  have d0 := rgI.mp c0
  have d1 := rgI.mp c1
  rw [l1, lM] at d0
  rw [l2, l5] at d1
  obtain ⟨R, hR, eR, -⟩ := nI_ex (x := a0) (by omega)
  obtain ⟨f, hf, ef, -⟩ := nI_ex (x := a1) (by omega)
  obtain ⟨L, hL, hP⟩ := pl_ex (R := R) (f := f) (by omega) (by omega)
  have hR6 : R ≤ 1000000 := by omega
  have hf5 : f ≤ 5 := by omega
  have C : ∀ {Q Q' : Int32 → Prop}, Q' = Q → wp_X5_within a3.toInt64 0 1 A B (fun r_9 => (¬ r_9 = 0 → wp_X5_lastBracket a0 a1 A B (fun r_13 => wp_X5_within a2.toInt64 (-1) r_13.toInt64 A B (fun r_16 => (¬ r_16 = 0 → (¬ a2 = -1 → wp_X5_power a1 a2 A B (fun r_21 => (¬ a3 = 0 → wp_X5_cut a0.toInt64 r_21 A B (fun r_25 => Q r_25.toInt32)) ∧ (a3 = 0 → wp_X5_cutUp ((r_13 + 1).toInt64 * r_21) (a2 + 1).toInt64 A B (fun r_28 => Q r_28.toInt32)))) ∧ (a2 = -1 → (¬ a3 = 0 → Q (-1)) ∧ (a3 = 0 → Q r_13))) ∧ (r_16 = 0 → Q (-1))))) ∧ (r_9 = 0 → Q (-1))) → wp_X5_plan a0 a1 a2 a3 A B Q :=
    fun _ h => w_within (fun _ _ => br_f (by decide) (w_within (fun _ _ => br_f (by decide) h) (fun z => absurd c1 z))) (fun z => absurd c0 z)
  have D : ∀ {Q : Int32 → Prop}, ((¬ a2 = -1 → ¬ ((0 : Int64) ≤ a3.toInt64 ∧ a3.toInt64 ≤ 1) → Q (-1)) ∧ (a2 = -1 → ¬ ((0 : Int64) ≤ a3.toInt64 ∧ a3.toInt64 ≤ 0) → Q (-1)) ∧ (¬ ((-1 : Int64) ≤ a2.toInt64 ∧ a2.toInt64 ≤ (nI L).toInt64) → Q (-1)) ∧ (a2 = -1 → ((0 : Int64) ≤ a3.toInt64 ∧ a3.toInt64 ≤ 0) → Q (nI L)) ∧ ∀ j, j ≤ L → a2 = nI j → ((0 : Int64) ≤ a3.toInt64 ∧ a3.toInt64 ≤ 1) → (¬ a3 = 0 → Q (nI (R / f ^ j))) ∧ (a3 = 0 → Q (nI (((L + 1) * f ^ j + j) / (j + 1))))) → wp_X6_plan a0 a1 a2 a3 A B Q := by
    intro Q ⟨h1, h2, h3, h4, h5⟩
    refine w_in (fun _ _ => br_f (by decide) (w_in (fun _ _ => br_f (by decide) ⟨fun z => ?_, fun z => ?_⟩) (fun z => absurd c1 z))) (fun z => absurd c0 z)
    · refine w_in (fun a3a a3b => bn_f (by decide) (fun x ex => ?_)) (fun y => bn_t rfl (h1 z y))
      rw [eR, ef] at *
      refine m_last hR6 hf5 hL hP ex (w_in (fun a b => bn_f (by decide) ?_) (fun y => bn_t rfl (h3 y)))
      have dd := rgI.mp ⟨a, b⟩
      rw [lm, Int32.toInt_toInt64, nI_toInt (by omega)] at dd
      have hne : a2.toInt ≠ -1 := fun y => z (Int32.toInt_inj.mp (by rw [y]; rfl))
      obtain ⟨j, hj, ej, -⟩ := nI_ex (x := a2) (by omega)
      have hjL : j ≤ L := by omega
      have hp := pl_pw (f := f) (j := j) hf5 (by omega)
      have hp0 : 0 < f ^ j := Nat.pow_pos (by omega)
      have hmul : (L + 1) * f ^ j ≤ 20 * 95367431640625 := Nat.mul_le_mul (by omega) hp
      obtain ⟨h6, h7⟩ := h5 j hjL ej ⟨a3a, a3b⟩
      subst ej
      refine m_powL (by omega) (by omega) (br_t (nI_pos' (by omega)) ⟨fun y => ⟨?_, ?_⟩, fun y => ⟨?_, ?_⟩⟩)
      · rw [show (0 : Int64) = lN 0 from rfl, pk_lEQ (by omega) (by omega)]; omega
      · rw [nI_l (by omega), pk_lDiv (by omega) (by omega) (by omega), lN_i]; exact h6 y
      · rw [nI_1, nI_l (by omega), show (0 : Int64) = lN 0 from rfl, pk_lEQ (by omega) (by omega)]; omega
      · rw [nI_1, nI_1, nI_l (by omega), nI_l (by omega), nI_l (by omega), lN_mul, lN_add, pk_lDiv (by omega) (by omega) (by omega), lN_i]; exact h7 y
    · refine w_in (fun a3a a3b => bn_f (by decide) (fun x ex => ?_)) (fun y => bn_t rfl (h2 z y))
      rw [eR, ef] at *
      refine m_last hR6 hf5 hL hP ex (w_in (fun a b => bn_f (by decide) ?_) (fun y => bn_t rfl (h3 y)))
      refine ⟨1, ?_⟩
      rw [z]
      exact br_t (by decide) (br_f (by decide) (h4 z ⟨a3a, a3b⟩))
  have hL31 : L < 2 ^ 31 := by omega
  by_cases c3 : (0 : Int64) ≤ a3.toInt64 ∧ a3.toInt64 ≤ 1
  case neg =>
    have c30 : ¬ ((0 : Int64) ≤ a3.toInt64 ∧ a3.toInt64 ≤ 0) := fun z => c3 ⟨z.1, Int64.le_trans z.2 (by decide)⟩
    exact ⟨-1, fun Q h => C rfl (w_within (fun a b => absurd ⟨a, b⟩ c3) (fun _ => bn_t rfl h)), fun Q h => D ⟨fun _ _ => h, fun _ _ => h, fun _ => h, fun _ z => absurd z c30, fun j hj ej z => absurd z c3⟩⟩
  have CL : ∀ {Q : Int32 → Prop}, wp_X5_within a2.toInt64 (-1) (nI L).toInt64 A B (fun r_16 => (¬ r_16 = 0 → (¬ a2 = -1 → wp_X5_power a1 a2 A B (fun r_21 => (¬ a3 = 0 → wp_X5_cut a0.toInt64 r_21 A B (fun r_25 => Q r_25.toInt32)) ∧ (a3 = 0 → wp_X5_cutUp ((nI L + 1).toInt64 * r_21) (a2 + 1).toInt64 A B (fun r_28 => Q r_28.toInt32)))) ∧ (a2 = -1 → (¬ a3 = 0 → Q (-1)) ∧ (a3 = 0 → Q (nI L)))) ∧ (r_16 = 0 → Q (-1))) → wp_X5_plan a0 a1 a2 a3 A B Q :=
    fun h => C rfl (w_within (fun _ _ => bn_f (by decide) (by rw [eR, ef] at h ⊢; exact w_last hR6 hf5 hL hP h)) (fun z => absurd c3 z))
  by_cases c2 : (-1 : Int64) ≤ a2.toInt64 ∧ a2.toInt64 ≤ (nI L).toInt64
  case neg =>
    refine ⟨-1, fun Q h => CL (w_within (fun a b => absurd ⟨a, b⟩ c2) (fun _ => bn_t rfl h)), fun Q h => D ⟨fun _ _ => h, fun _ _ => h, fun _ => h, fun z _ => absurd ?_ c2, fun j hj ej z => absurd ?_ c2⟩⟩
    · rw [z, rgI, lm, Int32.toInt_toInt64, nI_toInt hL31]
      exact ⟨by decide, by show (-1 : Int) ≤ _; omega⟩
    · rw [ej, rgI, lm, Int32.toInt_toInt64, nI_toInt hL31, nI_toInt (by omega)]
      omega
  by_cases c4 : a2 = -1
  · by_cases c5 : a3 = 0
    · refine ⟨nI L, fun Q h => CL (w_within (fun _ _ => bn_f (by decide) (bn_t c4 (bn_t c5 h))) (fun z => absurd c2 z)), fun Q h => D ⟨fun z => absurd c4 z, fun _ z => absurd ?_ z, fun z => absurd c2 z, fun _ _ => h, fun j hj ej => ?_⟩⟩
      · rw [c5]; exact ⟨by decide, by decide⟩
      · rw [c4] at ej
        exact absurd ej (fun z => nI_pos (n := j) (by omega) (by rw [← z]; decide))
    · refine ⟨-1, fun Q h => CL (w_within (fun _ _ => bn_f (by decide) (bn_t c4 (bn_f c5 h))) (fun z => absurd c2 z)), fun Q h => D ⟨fun z => absurd c4 z, fun _ _ => h, fun z => absurd c2 z, fun _ z => absurd ?_ c5, fun j hj ej => ?_⟩⟩
      · have := rgI.mp z
        rw [l0] at this
        exact Int32.toInt_inj.mp (by show a3.toInt = 0; omega)
      · rw [c4] at ej
        exact absurd ej (fun z => nI_pos (n := j) (by omega) (by rw [← z]; decide))
  · have dd := rgI.mp c2
    rw [lm, Int32.toInt_toInt64, nI_toInt (by omega)] at dd
    have hne : a2.toInt ≠ -1 := fun y => c4 (Int32.toInt_inj.mp (by rw [y]; rfl))
    obtain ⟨j, hj, ej, -⟩ := nI_ex (x := a2) (by omega)
    have hjL : j ≤ L := by omega
    have hp := pl_pw (f := f) (j := j) hf5 (by omega)
    have hp0 : 0 < f ^ j := Nat.pow_pos (by omega)
    have hmul : (L + 1) * f ^ j ≤ 20 * 95367431640625 := Nat.mul_le_mul (by omega) hp
    have jj : ∀ j', j' ≤ L → a2 = nI j' → j' = j := fun j' h1 h2 => by rw [ej, nI_eq (by omega) (by omega)] at h2; exact h2.symm
    by_cases c5 : a3 = 0
    · refine ⟨nI (((L + 1) * f ^ j + j) / (j + 1)), fun Q h => CL (w_within (fun _ _ => bn_f (by decide) (bn_f c4 ?_)) (fun z => absurd c2 z)), fun Q h => D ⟨fun _ z => absurd c3 z, fun z => absurd z c4, fun z => absurd c2 z, fun z => absurd z c4, fun j' hj' ej' _ => ⟨fun z => absurd c5 z, fun _ => ?_⟩⟩⟩
      · rw [ef, ej]
        refine w_power (by omega) (by omega) (bn_t c5 ?_)
        rw [nI_1, nI_1, nI_l (by omega), nI_l (by omega), lN_mul]
        unfold wp_X5_cutUp
        rw [lN_add, show (1 : Int64) = lN 1 from rfl, lN_sub (by omega), show (L + 1) * f ^ j + (j + 1) - 1 = (L + 1) * f ^ j + j by omega]
        refine w_cut (by omega) (by omega) (by omega) ?_
        show Q _
        rw [lN_i]; exact h
      · rw [jj j' hj' ej']; exact h
    · refine ⟨nI (R / f ^ j), fun Q h => CL (w_within (fun _ _ => bn_f (by decide) (bn_f c4 ?_)) (fun z => absurd c2 z)), fun Q h => D ⟨fun _ z => absurd c3 z, fun z => absurd z c4, fun z => absurd c2 z, fun z => absurd z c4, fun j' hj' ej' _ => ⟨fun _ => ?_, fun z => absurd z c5⟩⟩⟩
      · rw [ef, ej, eR]
        refine w_power (by omega) (by omega) (bn_f c5 ?_)
        rw [nI_l (by omega)]
        refine w_cut (by omega) (by omega) (by omega) ?_
        rw [lN_i]; exact h
      · rw [jj j' hj' ej']; exact h
theorem st_plan {a0 a1 a2 a3 : Int32} {K : Int32 → Int32 → Prop} (hK : ∀ r, K r r) : wp_X5_plan a0 a1 a2 a3 A B (fun r => wp_X6_plan a0 a1 a2 a3 A B (fun r2 => K r r2)) := by
  obtain ⟨v, h1, h2⟩ := pl_v (A := A) (B := B) a0 a1 a2 a3
  exact h1 _ (h2 _ (hK v))
theorem st_round (h : Inv A B) {a0 : Int32} {K : Int32 → Int32 → Prop} (hK : ∀ r, K r r) : wp_X5_round a0 A B (fun r => wp_X6_round a0 A B (fun r2 => K r r2)) := by
  obtain ⟨n, M, P, S, W, t, pt, st, sp, -, -, ⟨sd, hR⟩, -⟩ := h
  obtain ⟨r1, r2, r3, r4, r5, r6, r7, r8, r9, r10, r11, r12, r13⟩ := id hR
  refine w_within (fun a b => bn_f (by decide) ?_) (fun z => bn_t rfl (w_in (fun a b => absurd ⟨a, b⟩ z) (fun _ => bn_t rfl (hK _))))
  have L : ∀ {Q : Int32 → Prop}, ((¬ A 5 15 = 0 → (¬ a0 = 0 → (¬ a0 = 1 → (¬ a0 = 2 → (A 5 23 = 0 → Q 0) ∧ (¬ A 5 23 = 0 → Q 1)) ∧ (a0 = 2 → Q (A 5 20))) ∧ (a0 = 1 → Q (A 5 22))) ∧ (a0 = 0 → wp_X6_inside A B (fun r_10 => Q r_10))) ∧ (A 5 15 = 0 → Q (-2))) → wp_X6_round a0 A B Q := fun h => w_in (fun _ _ => bn_f (by decide) h) (fun z => absurd ⟨a, b⟩ z)
  refine ⟨fun z => L (bn_t (by rw [← r2]; exact z) (hK _)), fun z => ?_⟩
  have z5 : ¬ A 5 15 = 0 := by rw [← r2]; exact z
  refine ⟨fun y => L (bn_f z5 (bn_t y ?_)), fun y0 => ⟨fun y => L (bn_f z5 (bn_f y0 (bn_t y ?_))), fun y1 => ⟨fun y => L (bn_f z5 (bn_f y0 (bn_f y1 (bn_t y ?_)))), fun y2 => ⟨fun y => L (bn_f z5 (bn_f y0 (bn_f y1 (bn_f y2 (br_t (by rw [← r4]; exact y) (hK _)))))), fun y => L (bn_f z5 (bn_f y0 (bn_f y1 (bn_f y2 (br_f (by rw [← r4]; exact y) (hK _))))))⟩⟩⟩⟩
  · refine w6_inside (p := fun i => decide (sd i ≠ 0)) (fun i hi => ?_) ?_
    · rw [(hR.fl i hi).2.1]
      by_cases z : sd i = 0 <;> simp [z]
    · rw [r6]; exact hK _
  · rw [r8]; exact hK _
  · rw [r9]; exact hK _
end PL
