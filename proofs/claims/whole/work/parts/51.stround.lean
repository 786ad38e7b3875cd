/-! steps: told, bracket, result -/
def RoCh (A A' : SA) (B B' : SB) : Prop := (∀ k, k ≠ 3 → k ≠ 22 → k ≠ 23 → k ≠ 41 → k ≠ 42 → k ≠ 43 → k ≠ 44 → k ≠ 5 → k ≠ 39 → A' k = A k) ∧ (∀ j, j ≠ 15 → j ≠ 20 → j ≠ 21 → j ≠ 22 → j ≠ 23 → A' 5 j = A 5 j) ∧ ∀ k, k ≠ 3 → k ≠ 5 → B' k = B k
section RO
variable {A : SA} {B : SB} {n : Nat} {M : Nat → Nat} {P : Nat → Option Nat} {S : Nat → Nat → Bool} {W : Nat → Nat} {t : Nat} {pt st sp : Nat → Nat}
theorem RoCh.at {A' : SA} {B' : SB} (h : RoCh A A' B B') {k : Nat} (hk : k ≠ 3 ∧ k ≠ 22 ∧ k ≠ 23 ∧ k ≠ 41 ∧ k ≠ 42 ∧ k ≠ 43 ∧ k ≠ 44 ∧ k ≠ 5 ∧ k ≠ 39) : A' k = A k := h.1 k hk.1 hk.2.1 hk.2.2.1 hk.2.2.2.1 hk.2.2.2.2.1 hk.2.2.2.2.2.1 hk.2.2.2.2.2.2.1 hk.2.2.2.2.2.2.2.1 hk.2.2.2.2.2.2.2.2
theorem InvW.ro {A' : SA} {B' : SB} (hi : InvW n M P S W t pt st sp A B) (h : RoCh A A' B B') {sd : Nat → Nat} (hR : IRo sd A' B') : Inv A' B' := by
  obtain ⟨h1, hT, -, rows, outer, inner, pl, hF⟩ := hi
  refine ⟨n, M, P, S, W, t, pt, st, sp, ?_, ?_, ⟨sd, hR⟩, rows, outer, inner, pl, ?_⟩
  · exact h1.fr (h.at (by decide)) (h.at (by decide)) (h.at (by decide)) (h.at (by decide)) (h.2.1 0 (by decide) (by decide) (by decide) (by decide) (by decide)) (h.at (by decide)) (h.at (by decide)) (h.at (by decide)) (h.2.2 1 (by decide) (by decide)) (h.2.2 11 (by decide) (by decide)) (h.2.2 32 (by decide) (by decide)) (fun i _ => h.2.2 (48 + i) (by omega) (by omega))
  · exact hT.fr (h.at (by decide)) (h.2.1 6 (by decide) (by decide) (by decide) (by decide) (by decide)) (h.at (by decide)) (h.at (by decide)) (h.at (by decide)) (h.at (by decide)) (h.at (by decide)) (h.at (by decide)) (h.at (by decide)) (fun i _ => h.at (by omega)) (fun i _ => h.at (by omega)) (h.2.2 13 (by decide) (by decide)) (h.2.2 34 (by decide) (by decide))
  · exact hF.fr (h.at (by decide)) (h.2.1 25 (by decide) (by decide) (by decide) (by decide) (by decide)) (h.2.1 26 (by decide) (by decide) (by decide) (by decide) (by decide)) (h.2.1 27 (by decide) (by decide) (by decide) (by decide) (by decide)) (h.at (by decide)) (h.at (by decide)) (h.at (by decide)) (h.at (by decide)) (h.at (by decide)) (h.at (by decide)) (fun o _ => h.at (by omega))
theorem st_told (h : Inv A B) {a0 a1 : Int32} {K : Int32 → Int32 → Prop} (hK : ∀ r, K r r) : wp_X5_told a0 a1 A B (fun r => wp_X6_told a0 a1 A B (fun r2 => K r r2)) := by
  obtain ⟨n, M, P, S, W, t, pt, st, sp, -, hT, ⟨sd, hR⟩, -⟩ := h
  obtain ⟨g1, g2, g3, g4, g5, g6, g7, g8, g9, g10, g11⟩ := hT
  refine w_isTrial g2 g1 (fun j hj e => bn_f (by decide) ?_) (fun z => bn_t rfl (w6_noTrial g3 g1 (fun j hj e => absurd ⟨j, hj, e⟩ z) (fun _ => br_f (by decide) (hK _))))
  subst e
  have ej : (nI j).toNatClampNeg = j := nI_clamp (by omega)
  have hin := pk_in (x := nI j) j 60 (by omega)
  have hr := hR.1 j (by omega)
  have e0 : (0 : Int32) = nI 0 := rfl
  have mm : ∀ Q : Int32 → Prop, ((a1 = 0 → Q (A 35 j)) ∧ (a1 = 1 → Q (A 36 j)) ∧ (a1 = 2 → Q (A 37 j)) ∧ (a1 = 3 → Q (A 22 j)) ∧ (a1 = 4 → Q (if sd j = 0 then 0 else 1)) ∧ (¬ a1 = 0 → ¬ a1 = 1 → ¬ a1 = 2 → ¬ a1 = 3 → ¬ a1 = 4 → Q (-1))) → wp_X6_told (nI j) a1 A B Q := by
    intro Q hQ
    refine w6_noTrial g3 g1 (fun _ _ _ => br_t rfl ⟨fun z => ⟨hin, by rw [ej]; exact hQ.1 z⟩, fun z0 => ⟨fun z => ⟨hin, by rw [ej]; exact hQ.2.1 z⟩, fun z1 => ⟨fun z => ⟨hin, by rw [ej]; exact hQ.2.2.1 z⟩, fun z2 => ⟨fun z => ⟨hin, ?_⟩, fun z3 => ⟨fun z => ⟨hin, ?_⟩, fun z4 => hQ.2.2.2.2.2 z0 z1 z2 z3 z4⟩⟩⟩⟩⟩) (fun z => absurd ⟨j, hj, rfl⟩ z)
    · have hq := hQ.2.2.2.1 z
      rw [hr.2.2.2.2.2] at hq
      rw [ej, hr.2.2.1, hr.2.2.2.1]
      by_cases h0 : sd j = 0
      · rw [if_neg (by omega)] at hq
        rw [if_pos h0]
        exact br_t rfl hq
      · rw [if_neg h0]
        by_cases h2 : sd j = 2
        · rw [if_pos h2] at hq
          rw [if_pos h2]
          exact br_f (by decide) ⟨hin, br_f (by decide) ⟨hin, hq⟩⟩
        · rw [if_neg h2] at hq
          rw [if_neg h2]
          exact br_f (by decide) ⟨hin, br_t rfl hq⟩
    · have hq := hQ.2.2.2.2.1 z
      rw [ej, hr.2.2.1]
      by_cases h0 : sd j = 0
      · rw [if_pos h0] at hq ⊢; exact br_t rfl hq
      · rw [if_neg h0] at hq ⊢; exact br_f (by decide) hq
  have d01 : ¬ (0 : Int32) = 1 := by decide
  refine ⟨fun z => ⟨hin, ?_⟩, fun z0 => ⟨fun z => ⟨hin, ?_⟩, fun z1 => ⟨fun z => ⟨hin, ?_⟩, fun z2 => ⟨fun z => ⟨hin, ?_⟩, fun z3 => ⟨fun z => ⟨hin, ?_⟩, fun z4 => ?_⟩⟩⟩⟩⟩
  · subst z
    refine mm _ ⟨fun _ => ?_, fun z => absurd z (by decide), fun z => absurd z (by decide), fun z => absurd z (by decide), fun z => absurd z (by decide), fun z => absurd rfl z⟩
    rw [ej, (g6 j hj).2.1, (g6 j hj).2.2]; exact hK _
  · subst z
    refine mm _ ⟨fun z => absurd z (by decide), fun _ => ?_, fun z => absurd z (by decide), fun z => absurd z (by decide), fun z => absurd z (by decide), fun _ z => absurd rfl z⟩
    rw [ej, (g7 j hj).1]; exact hK _
  · subst z
    refine mm _ ⟨fun z => absurd z (by decide), fun z => absurd z (by decide), fun _ => ?_, fun z => absurd z (by decide), fun z => absurd z (by decide), fun _ _ z => absurd rfl z⟩
    rw [ej, (g9 j hj).2.1, (g9 j hj).2.2]; exact hK _
  · subst z
    refine mm _ ⟨fun z => absurd z (by decide), fun z => absurd z (by decide), fun z => absurd z (by decide), fun _ => ?_, fun z => absurd z (by decide), fun _ _ _ z => absurd rfl z⟩
    rw [ej]; exact hK _
  · subst z
    rw [ej, hr.2.1]
    have h3 := hr.1
    refine pk_eq (sd j) 0 (fun q => br_t rfl ?_) (fun q => br_f (by decide) ?_)
    · refine mm _ ⟨fun z => absurd z (by decide), fun z => absurd z (by decide), fun z => absurd z (by decide), fun z => absurd z (by decide), fun _ => ?_, fun _ _ _ _ z => absurd rfl z⟩
      rw [if_pos q]; exact hK _
    · refine mm _ ⟨fun z => absurd z (by decide), fun z => absurd z (by decide), fun z => absurd z (by decide), fun z => absurd z (by decide), fun _ => ?_, fun _ _ _ _ z => absurd rfl z⟩
      rw [if_neg q]; exact hK _
  · exact mm _ ⟨fun z => absurd z z0, fun z => absurd z z1, fun z => absurd z z2, fun z => absurd z z3, fun z => absurd z z4, fun _ _ _ _ _ => hK _⟩
/-! bracket -/
theorem cnt_iv {f m : Nat} : ∀ k, cntN (fun i => decide (f ≤ i ∧ i < f + m)) k = if k ≤ f then 0 else min (k - f) m
  | 0 => by simp [cntN]
  | k + 1 => by
    simp only [cntN, decide_eq_true_eq]
    rw [cnt_iv k]
    repeat' split
    all_goals omega
def ivN (f m i : Nat) : Nat := if f ≤ i ∧ i < f + m then 1 else 0
theorem w_start {f m : Nat} (hf : f + m ≤ 60) {a2 a3 : Int32} {Q : SA → SB → Prop}
    (h : ∀ g22 g23 : Nat → Int32, (∀ i, i < 60 → g22 i = 0 ∧ g23 i = nI (ivN f m i)) → Q (u2 (u2 (va_up (va_up (u2 (u2 (u2 (u2 (u2 A 3 0 1) 3 4 0) 3 7 0) 3 8 a2) 3 9 a3) 22 g22) 23 g23) 3 5 (nI m)) 3 6 (nI m)) (u2L B 3 1 0)) : wp_X1_start (nI f) (nI m) a2 a3 A B Q := by
  generalize hA0 : u2 (u2 (u2 (u2 (u2 A 3 0 (1 : Int32)) 3 4 (0 : Int32)) 3 7 (0 : Int32)) 3 8 a2) 3 9 a3 = A0
  rw [hA0] at h
  unfold wp_X1_start
  rw [hA0]
  refine lp2 (wp_X1_start_34 _ Q (nI f) (nI m) _) (fun v5 A' => ∃ (i : Nat) (g22 g23 : Nat → Int32), i ≤ 60 ∧ v5 = nI i ∧ A' = va_up (va_up A0 22 g22) 23 g23 ∧ ∀ j, j < i → g22 j = 0 ∧ g23 j = nI (ivN f m j)) (fun v5 _ => 60 - v5.toNatClampNeg) ?_ _ _ ⟨0, A0 22, A0 23, Nat.zero_le _, nI_0.symm, by rw [va_up_id, va_up_id], fun j hj => by omega⟩
  rintro m2 v5 A' ⟨i, g22, g23, hi, rfl, rfl, hg⟩ ih
  have ei : (nI i).toNatClampNeg = i := nI_clamp (by omega)
  refine pk_le 60 i (fun q => ?_) (fun q => ?_)
  · exact h g22 g23 (fun j hj => hg j (by omega))
  · have hin := pk_in (x := nI i) i 60 q
    have nxt : ∀ (s : Nat) (v5 : Int32), ivN f m i = s → v5 = nI i + 1 → wp_X1_start_34 (fun A_12 => Q (u2 (u2 A_12 3 5 (nI m)) 3 6 (nI m)) (u2L B 3 1 0)) Q (nI f) (nI m) (u2L B 3 1 0) m2 v5 (u2 (u2 (va_up (va_up A0 22 g22) 23 g23) 22 i 0) 23 i (nI s)) := by
      intro s v5 hs e5
      rw [nI_1] at e5
      have eA : u2 (u2 (va_up (va_up A0 22 g22) 23 g23) 22 i 0) 23 i (nI s) = va_up (va_up A0 22 (upd g22 i 0)) 23 (upd g23 i (nI s)) := by
        funext x
        by_cases h23 : x = 23
        · subst h23; simp [u2, va_up]
        · by_cases h22 : x = 22
          · subst h22; simp [u2, va_up]
          · simp [u2, va_up, h22, h23]
      rw [eA]
      refine ih _ _ ⟨i + 1, _, _, by omega, e5, rfl, fun j hj => ?_⟩ (by rw [e5, ei, nI_clamp (by omega)]; omega)
      by_cases hji : j = i
      · subst hji; simp [upd, hs]
      · simp only [upd, hji, if_false]; exact hg j (by omega)
    refine ⟨hin, pk_lt i f (fun q2 => ⟨hin, fun v5 e5 => ?_⟩) (fun q2 => ?_)⟩
    · rw [ei]; exact nxt 0 v5 (by simp [ivN]; omega) e5
    · refine pk_le m (i - f) (fun q3 => ⟨hin, fun v5 e5 => ?_⟩) (fun q3 => ⟨hin, fun v5 e5 => ?_⟩) rfl (pk_sub q2)
      · rw [ei]; exact nxt 0 v5 (by simp [ivN]; omega) e5
      · rw [ei]; exact nxt 1 v5 (by simp [ivN]; omega) e5
theorem w6_bracketL {f m : Nat} (hf : f + m ≤ 60) {E : SA → Prop} {Q : Int32 → SA → SB → Prop}
    (h : ∀ g41 g42 g43 g44 : Nat → Int32, (∀ i, i < 60 → g41 i = nI (ivN f m i) ∧ g42 i = 0 ∧ g43 i = 0 ∧ g44 i = 0) → E (va_up (va_up (va_up (va_up A 41 g41) 42 g42) 43 g43) 44 g44)) : ∃ k, wp_X6_bracket_91 E Q (nI f) (nI m) B k 0 A := by
  refine lp2 (wp_X6_bracket_91 E Q (nI f) (nI m) B) (fun v5 A' => ∃ (i : Nat) (g41 g42 g43 g44 : Nat → Int32), i ≤ 60 ∧ v5 = nI i ∧ A' = va_up (va_up (va_up (va_up A 41 g41) 42 g42) 43 g43) 44 g44 ∧ ∀ j, j < i → g41 j = nI (ivN f m j) ∧ g42 j = 0 ∧ g43 j = 0 ∧ g44 j = 0) (fun v5 _ => 60 - v5.toNatClampNeg) ?_ _ _ ⟨0, A 41, A 42, A 43, A 44, Nat.zero_le _, nI_0.symm, by rw [va_up_id, va_up_id, va_up_id, va_up_id], fun j hj => by omega⟩
  rintro m2 v5 A' ⟨i, g41, g42, g43, g44, hi, rfl, rfl, hg⟩ ih
  have ei : (nI i).toNatClampNeg = i := nI_clamp (by omega)
  refine pk_le 60 i (fun q => ?_) (fun q => ?_)
  · exact h g41 g42 g43 g44 (fun j hj => hg j (by omega))
  · have hin := pk_in (x := nI i) i 60 q
    have nxt : ∀ (s : Nat), ivN f m i = s → wp_X6_clear (nI i) (u2 (va_up (va_up (va_up (va_up A 41 g41) 42 g42) 43 g43) 44 g44) 41 i (nI s)) B (fun A_21 => ∀ v5 : Int32, v5 = nI i + 1 → wp_X6_bracket_91 E Q (nI f) (nI m) B m2 v5 A_21) := by
      intro s hs
      refine ⟨hin, hin, hin, fun v5 e5 => ?_⟩
      rw [nI_1] at e5
      rw [ei, nar0]
      have eA : u2 (u2 (u2 (u2 (va_up (va_up (va_up (va_up A 41 g41) 42 g42) 43 g43) 44 g44) 41 i (nI s)) 42 i 0) 43 i 0) 44 i 0 = va_up (va_up (va_up (va_up A 41 (upd g41 i (nI s))) 42 (upd g42 i 0)) 43 (upd g43 i 0)) 44 (upd g44 i 0) := by
        funext x
        by_cases h44 : x = 44
        · subst h44; simp [u2, va_up]
        · by_cases h43 : x = 43
          · subst h43; simp [u2, va_up]
          · by_cases h42 : x = 42
            · subst h42; simp [u2, va_up]
            · by_cases h41 : x = 41
              · subst h41; simp [u2, va_up]
              · simp [u2, va_up, h44, h43, h42, h41]
      rw [eA]
      refine ih _ _ ⟨i + 1, _, _, _, _, by omega, e5, rfl, fun j hj => ?_⟩ (by rw [e5, ei, nI_clamp (by omega)]; omega)
      by_cases hji : j = i
      · subst hji; simp [upd, hs]
      · simp only [upd, hji, if_false]; exact hg j (by omega)
    refine pk_lt i f (fun q2 => ⟨hin, ?_⟩) (fun q2 => pk_le (f + m) i (fun q3 => ⟨hin, ?_⟩) (fun q3 => ⟨hin, ?_⟩) (by rw [nI_add]))
    · rw [ei, nar0]; exact nxt 0 (by simp [ivN]; omega)
    · rw [ei, nar0]; exact nxt 0 (by simp [ivN]; omega)
    · rw [ei, nar1]; exact nxt 1 (by simp [ivN]; omega)
theorem st_bracket (h : Inv A B) {a0 a1 a2 a3 : Int32} {K : Int32 → Int32 → SA → SB → Prop} (hK : ∀ r A2 B2, Inv A2 B2 → K r r A2 B2) : wp_X5_bracket a0 a1 a2 a3 A B (fun r A1 B1 => wp_X6_bracket a0 a1 a2 a3 A1 B1 (fun r2 A2 B2 => K r r2 A2 B2)) := by
  obtain ⟨n, M, P, S, W, t, pt, st, sp, hi⟩ := h
  obtain ⟨g1, g2, g3, -⟩ := hi.2.1
  have kk := hK (-1) A B hi.inv
  -- a refusal of the reference
  have m0 : ¬ (((1 : Int64) ≤ a1.toInt64 ∧ a1.toInt64 ≤ 60) ∧ ((0 : Int64) ≤ a0.toInt64 ∧ a0.toInt64 ≤ (nI t - a1).toInt64) ∧ ((1 : Int64) ≤ a2.toInt64 ∧ a2.toInt64 ≤ 1000000) ∧ ((2 : Int64) ≤ a3.toInt64 ∧ a3.toInt64 ≤ 5)) → wp_X6_bracket a0 a1 a2 a3 A B (fun r2 A2 B2 => K (-1) r2 A2 B2) := by
    intro hc
    unfold wp_X6_bracket
    rw [g3]
    exact w_in (fun a b => br_f (by decide) (w_in (fun c d => br_f (by decide) (w_in (fun e f => br_f (by decide) (w_in (fun g h => absurd ⟨⟨a, b⟩, ⟨c, d⟩, ⟨e, f⟩, g, h⟩ hc) (fun _ => bn_t rfl kk))) (fun _ => br_t rfl kk))) (fun _ => br_t rfl kk))) (fun _ => br_t rfl kk)
  unfold wp_X5_bracket
  rw [g2]
  refine w_within (fun x1 x2 => br_f (by decide) ?_) (fun z => br_t rfl (m0 (fun y => z y.1)))
  refine w_within (fun y1 y2 => bn_f (by decide) ?_) (fun z => bn_t rfl (m0 (fun y => z y.2.1)))
  refine w_within (fun z1 z2 => br_f (by decide) ?_) (fun z => br_t rfl (m0 (fun y => z y.2.2.1)))
  refine w_within (fun w1 w2 => bn_f (by decide) ?_) (fun z => bn_t rfl (m0 (fun y => z y.2.2.2)))
  have c1 := rgI.mp ⟨x1, x2⟩
  have c0 := rgI.mp ⟨y1, y2⟩
  have c2 := rgI.mp ⟨z1, z2⟩
  have c3 := rgI.mp ⟨w1, w2⟩
  have l0 : (0 : Int64).toInt = 0 := rfl
  have l1 : (1 : Int64).toInt = 1 := rfl
  have l2 : (2 : Int64).toInt = 2 := rfl
  have l5 : (5 : Int64).toInt = 5 := rfl
  have l60 : (60 : Int64).toInt = 60 := rfl
  have lM : (1000000 : Int64).toInt = 1000000 := rfl
  rw [l1, l60] at c1
  rw [l0, Int32.toInt_toInt64] at c0
  rw [l1, lM] at c2
  rw [l2, l5] at c3
  obtain ⟨m, hm, em, -⟩ := nI_ex (x := a1) (by omega)
  obtain ⟨f, hf, ef, -⟩ := nI_ex (x := a0) (by omega)
  obtain ⟨b, hb, eb, -⟩ := nI_ex (x := a2) (by omega)
  obtain ⟨fc, hfc, efc, -⟩ := nI_ex (x := a3) (by omega)
  have hfm : f + m ≤ t := by
    have e1 : (nI t - a1).toInt = (t : Int) - m := by rw [em]; exact pk_sub_toInt (by omega) (by omega)
    omega
  rw [em, ef]
  refine w_start (f := f) (m := m) (by omega) (fun g22 g23 hg => ?_)
  obtain ⟨A1, eA1⟩ : ∃ A1 : SA, A1 = u2 (u2 (va_up (va_up (u2 (u2 (u2 (u2 (u2 A 3 0 1) 3 4 0) 3 7 0) 3 8 a2) 3 9 a3) 22 g22) 23 g23) 3 5 (nI m)) 3 6 (nI m) := ⟨_, rfl⟩
  obtain ⟨B1, eB1⟩ : ∃ B1 : SB, B1 = u2L B 3 1 0 := ⟨_, rfl⟩
  rw [← eA1, ← eB1]
  have kr : ∀ k, k ≠ 3 → k ≠ 22 → k ≠ 23 → A1 k = A k := fun k a b c => by rw [eA1, u2_kn a, u2_kn a, va_up_ne _ _ c, va_up_ne _ _ b, u2_kn a, u2_kn a, u2_kn a, u2_kn a, u2_kn a]
  have k22 : A1 22 = g22 := by rw [eA1, u2_kn (by decide), u2_kn (by decide), va_up_ne _ _ (by decide), va_up_self]
  have k23 : A1 23 = g23 := by rw [eA1, u2_kn (by decide), u2_kn (by decide), va_up_self]
  have k3 : A1 3 0 = 1 ∧ A1 3 4 = 0 ∧ A1 3 5 = nI m ∧ A1 3 6 = nI m ∧ A1 3 7 = 0 ∧ A1 3 8 = a2 ∧ A1 3 9 = a3 := by
    rw [eA1]
    simp [u2, va_up, upd]
  unfold wp_X6_bracket
  rw [kr 5 (by decide) (by decide) (by decide), g3]
  rw [em, ef] at y2
  rw [ef] at y1
  rw [em] at x1 x2
  refine w_in (fun _ _ => br_f (by decide) (w_in (fun _ _ => br_f (by decide) (w_in (fun _ _ => br_f (by decide) (w_in (fun _ _ => bn_f (by decide) ?_) (fun y => absurd ⟨w1, w2⟩ y))) (fun y => absurd ⟨z1, z2⟩ y))) (fun y => absurd ⟨y1, y2⟩ y))) (fun y => absurd ⟨x1, x2⟩ y)
  refine w6_bracketL (f := f) (m := m) (by omega) (fun g41 g42 g43 g44 hg4 => ?_)
  refine hK _ _ _ (hi.ro (sd := ivN f m) ⟨fun k a b c d e f' g' h' i' => ?_, fun j a b c d e => ?_, fun k a b => ?_⟩ ?_)
  · rw [va_up_ne _ _ g', va_up_ne _ _ f', va_up_ne _ _ e, va_up_ne _ _ d, u2_kn h', u2_kn h', u2_kn h', u2_kn h', u2_kn h', kr k a b c]
  · rw [va_up_ne _ _ (by decide), va_up_ne _ _ (by decide), va_up_ne _ _ (by decide), va_up_ne _ _ (by decide), u2_ne e, u2_ne d, u2_ne c, u2_ne b, u2_ne a, kr 5 (by decide) (by decide) (by decide)]
  · rw [u2L_kn b, eB1, u2L_kn a]
  · have hA2 : ∀ k, k ≠ 41 → k ≠ 42 → k ≠ 43 → k ≠ 44 → k ≠ 5 → (va_up (va_up (va_up (va_up (u2 (u2 (u2 (u2 (u2 A1 5 15 1) 5 20 a2) 5 21 a3) 5 22 0) 5 23 0) 41 g41) 42 g42) 43 g43) 44 g44) k = A1 k := fun k a b c d e => by rw [va_up_ne _ _ d, va_up_ne _ _ c, va_up_ne _ _ b, va_up_ne _ _ a, u2_kn e, u2_kn e, u2_kn e, u2_kn e, u2_kn e]
    have h5 : ∀ j, (va_up (va_up (va_up (va_up (u2 (u2 (u2 (u2 (u2 A1 5 15 1) 5 20 a2) 5 21 a3) 5 22 0) 5 23 0) 41 g41) 42 g42) 43 g43) 44 g44) 5 j = (u2 (u2 (u2 (u2 (u2 A1 5 15 1) 5 20 a2) 5 21 a3) 5 22 0) 5 23 0) 5 j := fun j => by rw [va_up_ne _ _ (by decide), va_up_ne _ _ (by decide), va_up_ne _ _ (by decide), va_up_ne _ _ (by decide)]
    have n15 : (u2 (u2 (u2 (u2 (u2 A1 5 15 1) 5 20 a2) 5 21 a3) 5 22 0) 5 23 0) 5 15 = 1 := by simp [u2, va_up, upd]
    have n20 : (u2 (u2 (u2 (u2 (u2 A1 5 15 1) 5 20 a2) 5 21 a3) 5 22 0) 5 23 0) 5 20 = a2 := by simp [u2, va_up, upd]
    have n21 : (u2 (u2 (u2 (u2 (u2 A1 5 15 1) 5 20 a2) 5 21 a3) 5 22 0) 5 23 0) 5 21 = a3 := by simp [u2, va_up, upd]
    have n22 : (u2 (u2 (u2 (u2 (u2 A1 5 15 1) 5 20 a2) 5 21 a3) 5 22 0) 5 23 0) 5 22 = 0 := by simp [u2, va_up, upd]
    have n23 : (u2 (u2 (u2 (u2 (u2 A1 5 15 1) 5 20 a2) 5 21 a3) 5 22 0) 5 23 0) 5 23 = 0 := by simp [u2, va_up, upd]
    have c60 : ∀ p : Nat → Bool, (∀ i, p i = decide (f ≤ i ∧ i < f + m)) → cntN p 60 = m := fun p hp => by
      rw [cntN_congr (fun i _ => hp i), cnt_iv, if_neg (by omega)]; omega
    unfold IRo
    rw [hA2 3 (by decide) (by decide) (by decide) (by decide) (by decide), hA2 22 (by decide) (by decide) (by decide) (by decide) (by decide), hA2 23 (by decide) (by decide) (by decide) (by decide) (by decide), h5, h5, h5, h5, h5, n15, n20, n21, n22, n23, k22, k23, k3.1, k3.2.1, k3.2.2.1, k3.2.2.2.1, k3.2.2.2.2.1, k3.2.2.2.2.2.1, k3.2.2.2.2.2.2]
    refine ⟨fun i hi => ?_, rfl, Or.inr rfl, rfl, Or.inl rfl, ?_, ?_, rfl, rfl, rfl, ?_, fun _ => ⟨⟨fc, by omega, by omega, efc⟩, b, by omega, eb⟩, fun z => absurd z (by decide)⟩
    · have h1 := hg i hi
      have h2 := hg4 i hi
      have hiv : ivN f m i = 0 ∨ ivN f m i = 1 := by unfold ivN; split <;> simp
      refine ⟨by omega, h1.2, ?_, ?_, ?_, ?_⟩
      · rw [va_up_ne _ _ (by decide), va_up_ne _ _ (by decide), va_up_ne _ _ (by decide), va_up_self, h2.1]
        rcases hiv with z | z <;> rw [z] <;> rfl
      · rw [va_up_ne _ _ (by decide), va_up_ne _ _ (by decide), va_up_self, h2.2.1, if_neg (by omega)]
      · rw [va_up_ne _ _ (by decide), va_up_self, h2.2.2.1, if_neg (by omega)]
      · rw [if_neg (by omega)]; exact h1.1
    · rw [c60 _ (fun i => by unfold ivN; by_cases z : f ≤ i ∧ i < f + m <;> simp [z])]
    · rw [c60 _ (fun i => by unfold ivN; by_cases z : f ≤ i ∧ i < f + m <;> simp [z])]
    · rw [u2L_kn (by decide), u2L_self, eB1, u2L_self]
end RO
