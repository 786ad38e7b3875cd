/-! steps: score, point, reported, best -/
theorem cntN_upd {p q : Nat → Bool} {j : Nat} (h : ∀ i, i ≠ j → q i = p i) (hp : p j = false) (hq : q j = true) : ∀ k, j < k → cntN q k = cntN p k + 1
  | 0, hk => by omega
  | k + 1, hk => by
    simp only [cntN]
    by_cases e : j = k
    · subst e
      rw [hp, hq, cntN_congr (fun i hi => h i (by omega))]
      simp
    · rw [cntN_upd h hp hq k (by omega), h k (fun z => e z.symm)]
      omega
section SC2
variable {A : SA} {B : SB} {n : Nat} {M : Nat → Nat} {P : Nat → Option Nat} {S : Nat → Nat → Bool} {W : Nat → Nat} {t : Nat} {pt st sp : Nat → Nat}
theorem w_isTrial {a0 : Int32} (e : A 2 0 = nI t) (ht : t ≤ 60) {Q : Int32 → Prop} (h1 : ∀ j, j < t → a0 = nI j → Q 1) (h0 : (¬ ∃ j, j < t ∧ a0 = nI j) → Q 0) : wp_X5_isTrial a0 A B Q := by
  unfold wp_X5_isTrial
  rw [e]
  refine w_within (fun a b => ⟨by decide +kernel, ?_⟩) (fun z => ⟨by decide +kernel, h0 (fun y => z ((rgN (by omega)).mpr y))⟩)
  obtain ⟨j, hj, e⟩ := (rgN (by omega)).mp ⟨a, b⟩
  exact h1 j hj e
theorem w6_noTrial {a0 : Int32} (e : A 5 6 = nI t) (ht : t ≤ 60) {Q : Int32 → Prop} (h1 : ∀ j, j < t → a0 = nI j → Q 0) (h0 : (¬ ∃ j, j < t ∧ a0 = nI j) → Q 1) : wp_X6_noTrial a0 A B Q := by
  unfold wp_X6_noTrial
  rw [e]
  refine w_in (fun a b => bn_f (by decide) ?_) (fun z => bn_t rfl (h0 (fun y => z ((rgN (by omega)).mpr y))))
  obtain ⟨j, hj, e⟩ := (rgN (by omega)).mp ⟨a, b⟩
  exact h1 j hj e
theorem w_isMark {v w : Int32} {Q : Int32 → Prop} (h1 : (¬ w = 0 → ((-1000000 : Int64) ≤ v.toInt64 ∧ v.toInt64 ≤ 1000000)) → Q 1) (h0 : ¬ (¬ w = 0 → ((-1000000 : Int64) ≤ v.toInt64 ∧ v.toInt64 ≤ 1000000)) → Q 0) : wp_X5_isMark v w A B Q :=
  ⟨fun z => h1 (fun y => absurd z y), fun z => w_within (fun a b => br_f (by decide) (h1 (fun _ => ⟨a, b⟩))) (fun y => br_t rfl (h0 (fun x => y (x z))))⟩
theorem w6_isScore {v : Int32} {Q : Int32 → Prop} (h1 : ((-1000000 : Int64) ≤ v.toInt64 ∧ v.toInt64 ≤ 1000000) → Q 1) (h0 : ¬ ((-1000000 : Int64) ≤ v.toInt64 ∧ v.toInt64 ≤ 1000000) → Q 0) : wp_X6_isScore v A B Q :=
  w_in (fun a b => ⟨by decide +kernel, h1 ⟨a, b⟩⟩) (fun z => ⟨by decide +kernel, h0 z⟩)
theorem st_point (h : Inv A B) {a0 : Int32} {K : Int64 → Int64 → Prop} (hK : ∀ r, K r r) : wp_X5_point a0 A B (fun r => wp_X6_point a0 A B (fun r2 => K r r2)) := by
  obtain ⟨n, M, P, S, W, t, pt, st, sp, -, hT, -⟩ := h
  have ht := hT.1
  refine w_isTrial hT.2.1 ht (fun j hj e => br_f (by decide) ?_) (fun z => br_t rfl ?_)
  · subst e
    refine ⟨pk_in j 60 (by omega), w6_noTrial hT.2.2.1 ht (fun j' hj' e' => br_t rfl ⟨pk_in j 60 (by omega), ?_⟩) (fun z => absurd ⟨j, hj, rfl⟩ z)⟩
    have g := hT.2.2.2.2.1 j hj
    rw [nI_clamp (by omega), g.2.1, g.2.2]
    exact hK _
  · exact w6_noTrial hT.2.2.1 ht (fun j hj e => absurd ⟨j, hj, e⟩ z) (fun _ => br_f (by decide) (hK _))
theorem st_reported (h : Inv A B) {a0 a1 : Int32} {K : Int32 → Int32 → Prop} (hK : ∀ r, K r r) : wp_X5_reported a0 a1 A B (fun r => wp_X6_reported a0 a1 A B (fun r2 => K r r2)) := by
  obtain ⟨n, M, P, S, W, t, pt, st, sp, -, hT, -⟩ := h
  have ht := hT.1
  obtain ⟨g1, g2, g3, g4, g5, g6, g7, g8, g9, g10, g11⟩ := hT
  refine w_isTrial g2 ht (fun j hj e => br_f (by decide) ?_) (fun z => br_t rfl ?_)
  · subst e
    have ej : (nI j).toNatClampNeg = j := nI_clamp (by omega)
    have gj := g9 j hj
    refine ⟨pk_in j 60 (by omega), ?_⟩
    rw [ej, gj.2.1]
    refine w_within (fun a b => bn_f (by decide) ⟨pk_in j 60 (by omega), ?_⟩) (fun z => bn_t rfl ?_)
    · obtain ⟨s, hs, rfl⟩ := (rgN (by omega)).mp ⟨a, b⟩
      have es : (nI s).toNatClampNeg = s := nI_clamp (by omega)
      refine ⟨pk_in s 20 (by omega), w6_noTrial g3 ht (fun j' hj' e' => bn_t rfl ⟨pk_in j 60 (by omega), ?_⟩) (fun z => absurd ⟨j, hj, rfl⟩ z)⟩
      rw [ej, gj.2.2]
      refine w_in (fun _ _ => bn_f (by decide) (fun x e => ?_)) (fun z => absurd ⟨a, b⟩ z)
      rw [show (20 : Int32) = nI 20 from rfl, pk_mul, nI_add] at e
      subst e
      refine ⟨pk_in (20 * j + s) 1200 (by omega), ?_⟩
      rw [es, nI_clamp (show 20 * j + s < 2 ^ 31 by omega), g10 j s hj hs]
      exact hK _
    · refine w6_noTrial g3 ht (fun j' hj' e' => bn_t rfl ⟨pk_in j 60 (by omega), ?_⟩) (fun z => absurd ⟨j, hj, rfl⟩ z)
      rw [ej, gj.2.2]
      exact w_in (fun a b => absurd ⟨a, b⟩ z) (fun _ => bn_t rfl (hK _))
  · exact w6_noTrial g3 ht (fun j hj e => absurd ⟨j, hj, e⟩ z) (fun _ => bn_f (by decide) (hK _))
/-! the best -/
def bst (st : Nat → Nat) (sc : Nat → Int32) : Nat → Int32
  | 0 => -2
  | i + 1 => if st i = 1 then (if bst st sc i < 0 then nI i else if sc i ≤ sc (bst st sc i).toNatClampNeg then bst st sc i else nI i) else bst st sc i
theorem bst_in (st : Nat → Nat) (sc : Nat → Int32) : ∀ i, bst st sc i < 0 ∨ ∃ j, j < i ∧ bst st sc i = nI j
  | 0 => Or.inl (by show (-2 : Int32) < 0; decide)
  | i + 1 => by
    unfold bst
    rcases bst_in st sc i with h | ⟨j, hj, e⟩
    · by_cases h1 : st i = 1
      · rw [if_pos h1, if_pos h]; exact Or.inr ⟨i, by omega, rfl⟩
      · rw [if_neg h1]; exact Or.inl h
    · by_cases h1 : st i = 1
      · rw [if_pos h1]
        by_cases h2 : bst st sc i < 0
        · rw [if_pos h2]; exact Or.inr ⟨i, by omega, rfl⟩
        · rw [if_neg h2]
          split
          · exact Or.inr ⟨j, by omega, e⟩
          · exact Or.inr ⟨i, by omega, rfl⟩
      · rw [if_neg h1]; exact Or.inr ⟨j, by omega, e⟩
theorem st_best (h : Inv A B) {K : Int32 → Int32 → Prop} (hK : ∀ r, K r r) : wp_X5_best A B (fun r => wp_X6_best A B (fun r2 => K r r2)) := by
  obtain ⟨n, M, P, S, W, t, pt, st, sp, -, hT, -⟩ := h
  obtain ⟨g1, g2, g3, g4, g5, g6, g7, g8, g9, g10, g11⟩ := hT
  have e1 : (1 : Int32) = nI 1 := rfl
  have m : ∀ (E : Int32 → Prop) (Q : Int32 → Prop), E (bst st (A 15) t) → ∃ n, wp_X6_best_5 E Q A B n (-2) 0 := by
    intro E Q hE
    refine lp2 (wp_X6_best_5 E Q A B) (fun v1 v2 => ∃ i : Nat, i ≤ t ∧ v2 = nI i ∧ v1 = bst st (A 15) i) (fun _ v2 => 60 - v2.toNatClampNeg) ?_ _ _ ⟨0, Nat.zero_le t, nI_0.symm, rfl⟩
    rintro m v1 v2 ⟨i, hi, rfl, rfl⟩ ih
    have ei : (nI i).toNatClampNeg = i := nI_clamp (by omega)
    refine pk_le t i (fun q => ?_) (fun q => ?_) g3
    · rw [show i = t by omega]; exact hE
    · refine ⟨pk_in i 60 (by omega), ?_⟩
      rw [ei, (g6 i q).2.2]
      have hst := (g6 i q).1
      have nxt : ∀ (v1 v2 : Int32), v1 = bst st (A 15) (i + 1) → v2 = nI i + 1 → wp_X6_best_5 E Q A B m v1 v2 := by
        intro v1 v2 h1 h2
        rw [nI_1] at h2
        refine ih _ _ ⟨i + 1, by omega, h2, h1⟩ ?_
        rw [h2, ei, nI_clamp (by omega)]; omega
      refine pk_ne (st i) 1 (fun q2 v2 e2 => nxt _ _ (by simp [bst, q2]) e2) (fun q2 => ?_)
      by_cases hb : bst st (A 15) i < 0
      · exact br_t hb (fun v2 e2 => nxt _ _ (by simp [bst, q2, hb]) e2)
      · refine br_f hb ?_
        rcases bst_in st (A 15) i with z | ⟨j, hj, ej⟩
        · exact absurd z hb
        · have ejc : (nI j).toNatClampNeg = j := nI_clamp (by omega)
          have eb : (bst st (A 15) i).toNatClampNeg = j := by rw [ej, ejc]
          refine ⟨pk_in i 60 (by omega), pk_in j 60 (by omega) ej, ?_⟩
          rw [eb, ← (g7 i q).1, ← (g7 j (by omega)).1]
          refine ⟨fun z v2 e2 => nxt _ _ ?_ e2, fun z v2 e2 => nxt _ _ ?_ e2⟩
          · show _ = if st i = 1 then _ else _
            rw [if_pos q2, if_neg hb, eb, if_pos z]
          · show _ = if st i = 1 then _ else _
            rw [if_pos q2, if_neg hb, eb, if_neg z]
  show wp_X4_firstGreatest A B _
  refine lp2 (wp_X4_firstGreatest_5 _ _ A B) (fun v1 v2 => ∃ i : Nat, i ≤ t ∧ v2 = nI i ∧ v1 = bst st (A 15) i) (fun _ v2 => 60 - v2.toNatClampNeg) ?_ _ _ ⟨0, Nat.zero_le t, nI_0.symm, rfl⟩
  rintro m2 v1 v2 ⟨i, hi, rfl, rfl⟩ ih
  have ei : (nI i).toNatClampNeg = i := nI_clamp (by omega)
  refine pk_le t i (fun q => ?_) (fun q => ?_) g2
  · rw [show i = t by omega]
    exact m _ _ (hK _)
  · refine ⟨pk_in i 60 (by omega), ?_⟩
    rw [ei, (g6 i q).2.1]
    have hst := (g6 i q).1
    refine pk_ne (st i) 1 (fun q2 v2 e2 => ?_) (fun q2 => ?_)
    · rw [nI_1] at e2
      refine ih _ _ ⟨i + 1, by omega, e2, by simp [bst, q2]⟩ ?_
      rw [e2, ei, nI_clamp (by omega)]; omega
    by_cases hb : bst st (A 15) i < 0
    · refine br_t hb (fun v2 e2 => ?_)
      rw [nI_1] at e2
      refine ih _ _ ⟨i + 1, by omega, e2, by simp [bst, q2, hb]⟩ ?_
      rw [e2, ei, nI_clamp (by omega)]; omega
    · refine br_f hb ?_
      rcases bst_in st (A 15) i with z | ⟨j, hj, ej⟩
      · exact absurd z hb
      · have ejc : (nI j).toNatClampNeg = j := nI_clamp (by omega)
        have eb : (bst st (A 15) i).toNatClampNeg = j := by rw [ej, ejc]
        refine ⟨pk_in i 60 (by omega), pk_in j 60 (by omega) ej, ?_⟩
        rw [eb]
        refine ⟨fun z v2 e2 => ?_, fun z v2 e2 => ?_⟩
        · rw [nI_1] at e2
          refine ih _ _ ⟨i + 1, by omega, e2, ?_⟩ (by rw [e2, ei, nI_clamp (by omega)]; omega)
          show _ = if st i = 1 then _ else _
          rw [if_pos q2, if_neg hb, eb, if_pos z]
        · rw [nI_1] at e2
          refine ih _ _ ⟨i + 1, by omega, e2, ?_⟩ (by rw [e2, ei, nI_clamp (by omega)]; omega)
          show _ = if st i = 1 then _ else _
          rw [if_pos q2, if_neg hb, eb, if_neg z]
/-! score -/
theorem w6_count {st' : Nat → Nat} (ht : t ≤ 60) (e56 : A 5 6 = nI t) (hst : ∀ i, i < t → st' i ≤ 3 ∧ A 35 i = nI (st' i)) {E : Int32 → Prop} {Q : Int32 → SA → Prop} (hE : E (nI (cntN (fun i => decide (st' i = 1)) t))) : ∃ n, wp_X6_score_69 E Q A B n 0 0 := by
  have e1 : (1 : Int32) = nI 1 := rfl
  refine lp2 (wp_X6_score_69 E Q A B) (fun v4 v5 => ∃ i : Nat, i ≤ t ∧ v5 = nI i ∧ v4 = nI (cntN (fun i => decide (st' i = 1)) i)) (fun _ v5 => 60 - v5.toNatClampNeg) ?_ _ _ ⟨0, Nat.zero_le t, nI_0.symm, rfl⟩
  rintro m v4 v5 ⟨i, hi, rfl, rfl⟩ ih
  have ei : (nI i).toNatClampNeg = i := nI_clamp (by omega)
  refine pk_le t i (fun q => ?_) (fun q => ?_) e56
  · rw [show i = t by omega]; exact hE
  · refine ⟨pk_in i 60 (by omega), ?_⟩
    have hs := hst i q
    rw [ei, hs.2]
    refine pk_ne (st' i) 1 (fun q2 x e v5 e5 => ?_) (fun q2 x e v5 e5 => ?_)
    · rw [nI_1] at e5
      refine ih _ _ ⟨i + 1, by omega, e5, ?_⟩ (by rw [e5, ei, nI_clamp (by omega)]; omega)
      rw [e, show (0 : Int32) = nI 0 from rfl, nI_add]
      simp [cntN, q2]
    · rw [nI_1] at e5
      refine ih _ _ ⟨i + 1, by omega, e5, ?_⟩ (by rw [e5, ei, nI_clamp (by omega)]; omega)
      rw [e, nI_1]
      simp [cntN, q2]
theorem m_score {j : Nat} {a1 a2 : Int32} (ht : t ≤ 60) (hj : j < t) (e56 : A 5 6 = nI t) (hm : ¬ a2 = 0 → ((-1000000 : Int64) ≤ a1.toInt64 ∧ a1.toInt64 ≤ 1000000)) {Q : Int32 → SA → Prop}
    (h3 : ¬ A 35 j = 0 → Q (-3) A) (h0 : A 35 j = 0 → a2 = 0 → ∃ n, wp_X6_score_69 (fun v => Q v (u2 (u2 A 35 j 2) 36 j 0)) Q (u2 (u2 A 35 j 2) 36 j 0) B n 0 0) (h1 : A 35 j = 0 → ¬ a2 = 0 → ∃ n, wp_X6_score_69 (fun v => Q v (u2 (u2 A 35 j 1) 36 j a1)) Q (u2 (u2 A 35 j 1) 36 j a1) B n 0 0) : wp_X6_score (nI j) a1 a2 A B Q := by
  have ej : (nI j).toNatClampNeg = j := nI_clamp (by omega)
  have hin := pk_in (x := nI j) j 60 (by omega)
  refine w6_noTrial e56 ht (fun _ _ _ => bn_t rfl ⟨fun z => ⟨hin, ?_⟩, fun z => w6_isScore (fun _ => bn_f (by decide) ⟨hin, ?_⟩) (fun y => absurd (hm z) y)⟩) (fun z => absurd ⟨j, hj, rfl⟩ z)
  · rw [ej]
    exact ⟨fun y => br_t z ⟨hin, br_t z ⟨hin, h0 y z⟩⟩, h3⟩
  · rw [ej]
    exact ⟨fun y => br_f z ⟨hin, br_f z ⟨hin, h1 y z⟩⟩, h3⟩
theorem m_score0 {a0 a1 a2 : Int32} (ht : t ≤ 60) (e56 : A 5 6 = nI t) {Q : Int32 → SA → Prop} (hc : ¬ ((∃ j, j < t ∧ a0 = nI j) ∧ (¬ a2 = 0 → ((-1000000 : Int64) ≤ a1.toInt64 ∧ a1.toInt64 ≤ 1000000)))) (h : Q (-1) A) : wp_X6_score a0 a1 a2 A B Q :=
  w6_noTrial e56 ht (fun j hj e => bn_t rfl ⟨fun z => absurd ⟨⟨j, hj, e⟩, fun y => absurd z y⟩ hc, fun z => w6_isScore (fun y => absurd ⟨⟨j, hj, e⟩, fun _ => y⟩ hc) (fun _ => bn_t rfl h)⟩) (fun _ => bn_f (by decide) h)
theorem st_score (h : Inv A B) {a0 a1 a2 : Int32} {K : Int32 → Int32 → SA → Prop} (hK : ∀ r A2, Inv A2 B → K r r A2) : wp_X5_score a0 a1 a2 A B (fun r A1 => wp_X6_score a0 a1 a2 A1 B (fun r2 A2 => K r r2 A2)) := by
  obtain ⟨n, M, P, S, W, t, pt, st, sp, hi⟩ := h
  obtain ⟨h1, hT, ⟨sd, hR⟩, rows, outer, inner, pl, hF⟩ := id hi
  obtain ⟨g1, g2, g3, g4, g5, g6, g7, g8, g9, g10, g11⟩ := hT
  have e0 : (0 : Int32) = nI 0 := rfl
  refine w_isTrial g2 g1 (fun j hj e => br_f (by decide) ?_) (fun z => br_t rfl ?_)
  · refine w_isMark (fun hm => bn_f (by decide) ?_) (fun hm => bn_t rfl ?_)
    · subst e
      have ej : (nI j).toNatClampNeg = j := nI_clamp (by omega)
      have hin := pk_in (x := nI j) j 60 (by omega)
      refine ⟨hin, ?_⟩
      rw [ej, (g6 j hj).2.1]
      have hst := (g6 j hj).1
      refine pk_ne (st j) 0 (fun q => ?_) (fun q => ?_)
      · refine m_score g1 hj g3 hm (fun _ => hK _ _ hi.inv) (fun z => ?_) (fun z => ?_)
        · rw [(g6 j hj).2.2, e0, nI_eq (by omega) (by omega)] at z; exact absurd z q
        · rw [(g6 j hj).2.2, e0, nI_eq (by omega) (by omega)] at z; exact absurd z q
      · -- the new state of the trials, of either side
        have fin : ∀ (s : Nat) (v : Int32) (A1 : SA), (s = 1 ∧ v = a1 ∧ ¬ a2 = 0 ∨ s = 2 ∧ v = 0) → A1 14 = upd (A 14) j (nI s) → (∀ i, A1 15 i = if i = j then v else A 15 i) → A1 2 0 = A 2 0 → A1 2 1 = nI (cntN (fun i => decide ((if i = j then s else st i) = 1)) t) → (∀ k, k ≠ 2 → k ≠ 14 → k ≠ 15 → A1 k = A k) →
            ∃ m, wp_X6_score_69 (fun v4 => K (nI (cntN (fun i => decide ((if i = j then s else st i) = 1)) t)) v4 (u2 (u2 A1 35 j (nI s)) 36 j v)) (fun r2 A2 => K (nI (cntN (fun i => decide ((if i = j then s else st i) = 1)) t)) r2 A2) (u2 (u2 A1 35 j (nI s)) 36 j v) B m 0 0 := by
          intro s v A1 hsv k14 k15 k20 k21 kr
          obtain ⟨A2, eA2⟩ : ∃ A2 : SA, A2 = u2 (u2 A1 35 j (nI s)) 36 j v := ⟨_, rfl⟩
          rw [← eA2]
          have m35 : A2 35 = upd (A 35) j (nI s) := by rw [eA2, u2_kn (by decide), u2_kk, kr 35 (by decide) (by decide) (by decide)]
          have m36 : A2 36 = upd (A 36) j v := by rw [eA2, u2_kk, u2_kn (by decide), kr 36 (by decide) (by decide) (by decide)]
          have mr : ∀ k, k ≠ 35 → k ≠ 36 → A2 k = A1 k := fun k a b => by rw [eA2, u2_kn b, u2_kn a]
          have mk : ∀ k, k ≠ 35 → k ≠ 36 → k ≠ 2 → k ≠ 14 → k ≠ 15 → A2 k = A k := fun k a b c d e => by rw [mr k a b, kr k c d e]
          have hs3 : s ≤ 3 := by omega
          refine w6_count (st' := fun i => if i = j then s else st i) g1 (by rw [mk 5 (by decide) (by decide) (by decide) (by decide) (by decide)]; exact g3) (fun i hi => ?_) ?_
          · rw [m35]
            by_cases h : i = j
            · subst h; simp [upd, hs3]
            · simp only [upd, h, if_false]; exact ⟨(g6 i hi).1, (g6 i hi).2.2⟩
          refine hK _ _ ⟨n, M, P, S, W, t, pt, fun i => if i = j then s else st i, sp, ?_, ?_, ⟨sd, ?_⟩, rows, outer, inner, pl, ?_⟩
          · exact h1.fr (mk 1 (by decide) (by decide) (by decide) (by decide) (by decide)) (mk 8 (by decide) (by decide) (by decide) (by decide) (by decide)) (mk 9 (by decide) (by decide) (by decide) (by decide) (by decide)) (mk 10 (by decide) (by decide) (by decide) (by decide) (by decide)) (by rw [mk 5 (by decide) (by decide) (by decide) (by decide) (by decide)]) (mk 29 (by decide) (by decide) (by decide) (by decide) (by decide)) (mk 30 (by decide) (by decide) (by decide) (by decide) (by decide)) (mk 31 (by decide) (by decide) (by decide) (by decide) (by decide)) rfl rfl rfl (fun _ _ => rfl)
          · refine ⟨g1, by rw [mr 2 (by decide) (by decide), k20]; exact g2, by rw [mk 5 (by decide) (by decide) (by decide) (by decide) (by decide)]; exact g3, by rw [mr 2 (by decide) (by decide)]; exact k21, g5, fun i hi => ?_, fun i hi => ?_, fun i ha hb => ?_, fun i hi => ?_, fun i s' hi hs' => ?_, fun i hi => ?_⟩
            · rw [mr 14 (by decide) (by decide), k14, m35]
              by_cases h : i = j
              · subst h; simp [upd, hs3]
              · simp only [upd, h, if_false]; exact g6 i hi
            · rw [mr 15 (by decide) (by decide), k15, m36]
              by_cases h : i = j
              · subst h
                simp only [upd, if_true]
                refine ⟨trivial, ?_⟩
                rcases hsv with ⟨rfl, rfl, hw⟩ | ⟨rfl, rfl⟩
                · have := rgI.mp (hm hw)
                  exact ⟨Int32.le_iff_toInt_le.mpr this.1, Int32.le_iff_toInt_le.mpr this.2, fun z => absurd z (by decide)⟩
                · exact ⟨by decide, by decide, fun _ => rfl⟩
              · simp only [upd, h, if_false]; exact g7 i hi
            · rw [mr 15 (by decide) (by decide), k15, mk 16 (by decide) (by decide) (by decide) (by decide) (by decide)]
              rw [if_neg (by omega)]
              exact g8 i ha hb
            · rw [mk 16 (by decide) (by decide) (by decide) (by decide) (by decide), mk 37 (by decide) (by decide) (by decide) (by decide) (by decide)]; exact g9 i hi
            · rw [mk (56 + i) (by omega) (by omega) (by omega) (by omega) (by omega), mk 38 (by decide) (by decide) (by decide) (by decide) (by decide)]; exact g10 i s' hi hs'
            · rw [mk (116 + i) (by omega) (by omega) (by omega) (by omega) (by omega)]; exact g11 i hi
          · exact hR.fr (mk 3 (by decide) (by decide) (by decide) (by decide) (by decide)) (mk 22 (by decide) (by decide) (by decide) (by decide) (by decide)) (mk 23 (by decide) (by decide) (by decide) (by decide) (by decide)) (mk 41 (by decide) (by decide) (by decide) (by decide) (by decide)) (mk 42 (by decide) (by decide) (by decide) (by decide) (by decide)) (mk 43 (by decide) (by decide) (by decide) (by decide) (by decide)) (mk 44 (by decide) (by decide) (by decide) (by decide) (by decide)) (by rw [mk 5 (by decide) (by decide) (by decide) (by decide) (by decide)]) (by rw [mk 5 (by decide) (by decide) (by decide) (by decide) (by decide)]) (by rw [mk 5 (by decide) (by decide) (by decide) (by decide) (by decide)]) (by rw [mk 5 (by decide) (by decide) (by decide) (by decide) (by decide)]) (by rw [mk 5 (by decide) (by decide) (by decide) (by decide) (by decide)]) rfl rfl
          · exact hF.fr (mk 4 (by decide) (by decide) (by decide) (by decide) (by decide)) (by rw [mk 5 (by decide) (by decide) (by decide) (by decide) (by decide)]) (by rw [mk 5 (by decide) (by decide) (by decide) (by decide) (by decide)]) (by rw [mk 5 (by decide) (by decide) (by decide) (by decide) (by decide)]) (mk 24 (by decide) (by decide) (by decide) (by decide) (by decide)) (mk 25 (by decide) (by decide) (by decide) (by decide) (by decide)) (mk 26 (by decide) (by decide) (by decide) (by decide) (by decide)) (mk 45 (by decide) (by decide) (by decide) (by decide) (by decide)) (mk 46 (by decide) (by decide) (by decide) (by decide) (by decide)) (mk 47 (by decide) (by decide) (by decide) (by decide) (by decide)) (fun o _ => mk (176 + o) (by omega) (by omega) (by omega) (by omega) (by omega))
        have h350 : ∀ A1 : SA, A1 35 = A 35 → A1 35 j = 0 := fun A1 e => by rw [e, (g6 j hj).2.2, q]; rfl
        have c56 : ∀ A1 : SA, (∀ k, k ≠ 2 → k ≠ 14 → k ≠ 15 → A1 k = A k) → A1 5 6 = nI t := fun A1 kr => by rw [kr 5 (by decide) (by decide) (by decide)]; exact g3
        by_cases hw : a2 = 0
        · have hcnt : cntN (fun i => decide ((if i = j then 2 else st i) = 1)) t = cntN (fun i => decide (st i = 1)) t := cntN_congr (fun i hi => by
            by_cases h : i = j
            · subst h; simp [q]
            · simp [h])
          have kr : ∀ k, k ≠ 2 → k ≠ 14 → k ≠ 15 → (u2 A 14 j 2) k = A k := fun k a b c => u2_kn b
          refine br_t hw ⟨hin, br_t hw ?_⟩
          rw [ej]
          refine m_score g1 hj (c56 _ kr) hm (fun z => absurd (h350 _ (u2_kn (by decide))) z) (fun _ _ => ?_) (fun _ z => absurd hw z)
          have := fin 2 0 (u2 A 14 j 2) (Or.inr ⟨rfl, rfl⟩) u2_kk (fun i => by
            rw [u2_kn (by decide)]
            by_cases h : i = j
            · subst h; simp [(g7 i hj).2.2.2 q]
            · simp [h]) (by rw [u2_kn (by decide)]) (by rw [u2_kn (by decide), hcnt]; exact g4) kr
          rw [hcnt] at this
          rw [g4]
          exact this
        · have hcnt : cntN (fun i => decide ((if i = j then 1 else st i) = 1)) t = cntN (fun i => decide (st i = 1)) t + 1 := cntN_upd (j := j) (fun i hi => by simp [hi]) (by simp [q]) (by simp) t hj
          refine br_f hw ⟨hin, br_f hw ⟨hin, fun x9 e9 => ?_⟩⟩
          rw [ej]
          rw [g4, nI_1, ← hcnt] at e9
          subst e9
          have kr : ∀ k, k ≠ 2 → k ≠ 14 → k ≠ 15 → (u2 (u2 (u2 A 14 j 1) 15 j a1) 2 1 (nI (cntN (fun i => decide ((if i = j then 1 else st i) = 1)) t))) k = A k := fun k a b c => by rw [u2_kn a, u2_kn c, u2_kn b]
          refine m_score g1 hj (c56 _ kr) hm (fun z => absurd (h350 _ (kr 35 (by decide) (by decide) (by decide))) z) (fun _ z => absurd z hw) (fun _ _ => ?_)
          exact fin 1 a1 _ (Or.inl ⟨rfl, rfl, hw⟩) (by rw [u2_kn (by decide), u2_kn (by decide), u2_kk]; rfl) (fun i => by
            rw [u2_kn (by decide), u2_kk]
            by_cases h : i = j
            · subst h; simp [upd]
            · simp [upd, h]; rw [u2_kn (by decide)]) (by rw [u2_ne (by decide), u2_kn (by decide), u2_kn (by decide)]) u2_self kr
    · exact m_score0 g1 g3 (fun z => hm z.2) (hK _ _ hi.inv)
  · exact m_score0 g1 g3 (fun y => z y.1) (hK _ _ hi.inv)
end SC2
