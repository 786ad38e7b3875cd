/-! step: halve -/
def elg (sd : Nat → Nat) (tk : Nat → Bool) (i : Nat) : Nat := if sd i = 2 ∧ tk i = false then 1 else 0
def tkn (sd : Nat → Nat) (mk : Nat → Int32) : Nat → Nat → Bool
  | 0 => fun _ => false
  | r + 1 => fun i => tkn sd mk r i || decide (i < 60 ∧ bst (elg sd (tkn sd mk r)) mk 60 = nI i)
theorem bst_st (st : Nat → Nat) (sc : Nat → Int32) : ∀ i, bst st sc i < 0 ∨ ∃ j, j < i ∧ bst st sc i = nI j ∧ st j = 1
  | 0 => Or.inl (by show (-2 : Int32) < 0; decide)
  | i + 1 => by
    unfold bst
    rcases bst_st st sc i with h | ⟨j, hj, e, hs⟩
    · by_cases h1 : st i = 1
      · rw [if_pos h1, if_pos h]; exact Or.inr ⟨i, by omega, rfl, h1⟩
      · rw [if_neg h1]; exact Or.inl h
    · by_cases h1 : st i = 1
      · rw [if_pos h1]
        by_cases h2 : bst st sc i < 0
        · rw [if_pos h2]; exact Or.inr ⟨i, by omega, rfl, h1⟩
        · rw [if_neg h2]
          split
          · exact Or.inr ⟨j, by omega, e, hs⟩
          · exact Or.inr ⟨i, by omega, rfl, h1⟩
      · rw [if_neg h1]; exact Or.inr ⟨j, by omega, e, hs⟩
theorem tkn_none {sd : Nat → Nat} {mk : Nat → Int32} {r : Nat} (h : bst (elg sd (tkn sd mk r)) mk 60 < 0) : ∀ k, tkn sd mk (r + k) = tkn sd mk r
  | 0 => rfl
  | k + 1 => by
    have ih := tkn_none h k
    funext i
    show (tkn sd mk (r + k) i || decide (i < 60 ∧ bst (elg sd (tkn sd mk (r + k))) mk 60 = nI i)) = _
    rw [ih]
    have : ¬ (i < 60 ∧ bst (elg sd (tkn sd mk r)) mk 60 = nI i) := fun z => by
      rw [z.2] at h
      exact nI_pos (by omega) h
    rw [decide_eq_false this, Bool.or_false]
theorem tkn_some {sd : Nat → Nat} {mk : Nat → Int32} {r j : Nat} (hj : j < 60) (h : bst (elg sd (tkn sd mk r)) mk 60 = nI j) : tkn sd mk r j = false ∧ sd j = 2 ∧ (∀ i, i < 60 → tkn sd mk (r + 1) i = if i = j then true else tkn sd mk r i) ∧ cntN (tkn sd mk (r + 1)) 60 = cntN (tkn sd mk r) 60 + 1 := by
  have h1 : elg sd (tkn sd mk r) j = 1 := by
    rcases bst_st (elg sd (tkn sd mk r)) mk 60 with z | ⟨j', hj', e, hs⟩
    · rw [h] at z; exact absurd z (nI_pos (by omega))
    · rw [h, nI_eq (by omega) (by omega)] at e
      rw [e]; exact hs
  have h2 : sd j = 2 ∧ tkn sd mk r j = false := by
    unfold elg at h1
    by_cases z : sd j = 2 ∧ tkn sd mk r j = false
    · exact z
    · rw [if_neg z] at h1; exact absurd h1 (by decide)
  have h3 : ∀ i, i < 60 → tkn sd mk (r + 1) i = if i = j then true else tkn sd mk r i := by
    intro i hi
    show (tkn sd mk r i || decide (i < 60 ∧ bst (elg sd (tkn sd mk r)) mk 60 = nI i)) = _
    rw [h]
    by_cases hij : i = j
    · subst hij; simp [hi]
    · rw [if_neg hij, decide_eq_false (fun z => hij ((nI_eq (by omega) (by omega)).mp z.2).symm), Bool.or_false]
  refine ⟨h2.2, h2.1, h3, ?_⟩
  rw [cntN_congr (q := fun i => if i = j then true else tkn sd mk r i) h3]
  exact cntN_upd (j := j) (fun i hi => by simp [hi]) h2.2 (by simp) 60 hj
section HV
variable {A : SA} {B : SB} {n : Nat} {M : Nat → Nat} {P : Nat → Option Nat} {S : Nat → Nat → Bool} {W : Nat → Nat} {t : Nat} {pt st sp : Nat → Nat} {sd : Nat → Nat} {tk : Nat → Bool}
theorem w_keep (h3 : ∀ i, i < 60 → sd i ≤ 3) (hg : ∀ i, i < 60 → A 23 i = if tk i = true then 4 else nI (sd i)) {Q : Int32 → SA → Prop} (h1 : ∀ j, j < 60 → bst (elg sd tk) (A 22) 60 = nI j → Q 1 (u2 A 23 j 4)) (h0 : bst (elg sd tk) (A 22) 60 < 0 → Q 0 A) : wp_X1_keepGreatest A B Q := by
  refine lp2 (wp_X1_keepGreatest_5 _ Q A B) (fun v1 v2 => ∃ i : Nat, i ≤ 60 ∧ v2 = nI i ∧ v1 = bst (elg sd tk) (A 22) i) (fun _ v2 => 60 - v2.toNatClampNeg) ?_ _ _ ⟨0, Nat.zero_le _, nI_0.symm, rfl⟩
  rintro m v1 v2 ⟨i, hi, rfl, rfl⟩ ih
  have ei : (nI i).toNatClampNeg = i := nI_clamp (by omega)
  refine pk_le 60 i (fun q => ?_) (fun q => ?_)
  · rw [show i = 60 by omega]
    rcases bst_in (elg sd tk) (A 22) 60 with z | ⟨j, hj, e⟩
    · exact br_f (Int32.not_le.mpr z) (h0 z)
    · rw [e]
      refine br_t (nI_pos' (by omega)) ⟨pk_in j 60 hj, ?_⟩
      rw [nI_clamp (by omega)]
      exact h1 j hj e
  · refine ⟨pk_in i 60 q, ?_⟩
    have nxt : ∀ (v1 v2 : Int32), v1 = bst (elg sd tk) (A 22) (i + 1) → v2 = nI i + 1 → wp_X1_keepGreatest_5 (fun v1_13 => (0 ≤ v1_13 → vp_in v1_13 60 ∧ Q 1 (u2 A 23 v1_13.toNatClampNeg 4)) ∧ (¬ 0 ≤ v1_13 → Q 0 A)) Q A B m v1 v2 := by
      intro v1 v2 e1 e2
      rw [nI_1] at e2
      exact ih _ _ ⟨i + 1, by omega, e2, e1⟩ (by rw [e2, ei, nI_clamp (by omega)]; omega)
    have hs := h3 i q
    have hel : A 23 i = 2 ↔ elg sd tk i = 1 := by
      rw [hg i q]
      unfold elg
      cases tk i
      · simp only [Bool.false_eq_true, if_false, and_true]
        rw [show (2 : Int32) = nI 2 from rfl, nI_eq (by omega) (by omega)]
        by_cases z : sd i = 2 <;> simp [z]
      · simp
    rw [ei]
    refine ⟨fun z v2 e2 => nxt _ _ ?_ e2, fun z => ?_⟩
    · show _ = if elg sd tk i = 1 then _ else _
      rw [if_neg (fun y => z (hel.mpr y))]
    · have q2 := hel.mp z
      by_cases hb : bst (elg sd tk) (A 22) i < 0
      · exact br_t hb (fun v2 e2 => nxt _ _ (by simp [bst, q2, hb]) e2)
      · refine br_f hb ?_
        rcases bst_in (elg sd tk) (A 22) i with z | ⟨j, hj, ej⟩
        · exact absurd z hb
        · have ejc : (nI j).toNatClampNeg = j := nI_clamp (by omega)
          have eb : (bst (elg sd tk) (A 22) i).toNatClampNeg = j := by rw [ej, ejc]
          refine ⟨pk_in i 60 (by omega), pk_in j 60 (by omega) ej, ?_⟩
          rw [eb]
          refine ⟨fun z v2 e2 => nxt _ _ ?_ e2, fun z v2 e2 => nxt _ _ ?_ e2⟩
          · show _ = if elg sd tk i = 1 then _ else _
            rw [if_pos q2, if_neg hb, eb, if_pos z]
          · show _ = if elg sd tk i = 1 then _ else _
            rw [if_pos q2, if_neg hb, eb, if_neg z]
theorem w_endL {K : Nat} (hK : K ≤ 60) (h3 : ∀ i, i < 60 → sd i ≤ 3) (hA : ∀ i, i < 60 → A 23 i = nI (sd i)) {E Q : Int32 → SA → Prop} (hE : ∀ g : Nat → Int32, (∀ i, i < 60 → g i = if tkn sd (A 22) K i = true then 4 else nI (sd i)) → E (nI (cntN (tkn sd (A 22) K) 60)) (va_up A 23 g)) : ∃ n, wp_X1_end_20 E Q (lN K) B n 0 A := by
  refine lp2 (wp_X1_end_20 E Q (lN K) B) (fun v3 A' => ∃ (r : Nat) (g : Nat → Int32), r ≤ K ∧ v3 = nI r ∧ A' = va_up A 23 g ∧ (∀ i, i < 60 → g i = if tkn sd (A 22) r i = true then 4 else nI (sd i)) ∧ cntN (tkn sd (A 22) r) 60 = r) (fun v3 _ => 60 - v3.toNatClampNeg) ?_ _ _ ⟨0, A 23, Nat.zero_le _, nI_0.symm, (va_up_id _ _).symm, fun i hi => by rw [hA i hi]; simp [tkn], by show cntN (fun _ => false) 60 = 0; decide +kernel⟩
  rintro m v3 A' ⟨r, g, hr, rfl, rfl, hg, hc⟩ ih
  refine pj_le K r (fun q => ?_) (fun q => ?_) rfl (nI_l (by omega)) (by omega) (by omega)
  · have : r = K := by omega
    subst this
    have := hE g hg
    rw [hc] at this
    exact this
  · have e22 : (va_up A 23 g) 22 = A 22 := va_up_ne _ _ (by decide)
    refine w_keep (sd := sd) (tk := tkn sd (A 22) r) h3 (fun i hi => by rw [va_up_self]; exact hg i hi) (fun j hj hb => br_f (by decide) (fun v3 e3 => ?_)) (fun hb => br_t rfl ?_)
    · rw [e22] at hb
      obtain ⟨t1, t2, t3, t4⟩ := tkn_some hj hb
      rw [nI_1] at e3
      rw [u2_up]
      refine ih _ _ ⟨r + 1, _, by omega, e3, rfl, fun i hi => ?_, by rw [t4, hc]⟩ (by rw [e3, nI_clamp (by omega), nI_clamp (by omega)]; omega)
      rw [t3 i hi]
      by_cases hij : i = j
      · subst hij; simp [upd]
      · simp only [upd, hij, if_false]; exact hg i hi
    · rw [e22] at hb
      have e : tkn sd (A 22) K = tkn sd (A 22) r := by
        have := tkn_none hb (K - r)
        rw [show r + (K - r) = K by omega] at this
        exact this
      have := hE g (fun i hi => by rw [e]; exact hg i hi)
      rw [e, hc] at this
      exact this
theorem w_openRound {tk : Nat → Bool} (h3 : ∀ i, i < 60 → sd i ≤ 3) (hA : ∀ i, i < 60 → A 23 i = if tk i = true then 4 else nI (sd i)) {Q : SA → Prop} (hQ : ∀ g22 g23 : Nat → Int32, (∀ i, i < 60 → g22 i = 0 ∧ g23 i = nI (if tk i = true then 1 else 0)) → Q (va_up (va_up A 22 g22) 23 g23)) : wp_X1_openRound A B Q := by
  refine lp2 (wp_X1_openRound_2 _ Q B) (fun v1 A' => ∃ (i : Nat) (g22 g23 : Nat → Int32), i ≤ 60 ∧ v1 = nI i ∧ A' = va_up (va_up A 22 g22) 23 g23 ∧ (∀ j, j < i → g22 j = 0 ∧ g23 j = nI (if tk j = true then 1 else 0)) ∧ ∀ j, i ≤ j → g23 j = A 23 j) (fun v1 _ => 60 - v1.toNatClampNeg) ?_ _ _ ⟨0, A 22, A 23, Nat.zero_le _, nI_0.symm, by rw [va_up_id, va_up_id], fun j hj => by omega, fun j _ => rfl⟩
  rintro m v1 A' ⟨i, g22, g23, hi, rfl, rfl, hg, hg2⟩ ih
  have ei : (nI i).toNatClampNeg = i := nI_clamp (by omega)
  refine pk_le 60 i (fun q => ?_) (fun q => ?_)
  · exact hQ g22 g23 (fun j hj => hg j (by omega))
  · have hin := pk_in (x := nI i) i 60 q
    have nxt : ∀ (s : Nat) (v1 : Int32), (if tk i = true then 1 else 0) = s → v1 = nI i + 1 → wp_X1_openRound_2 (fun A_11 => Q A_11) Q B m v1 (u2 (u2 (va_up (va_up A 22 g22) 23 g23) 23 i (nI s)) 22 i 0) := by
      intro s v1 hs e1
      rw [nI_1] at e1
      have eA : u2 (u2 (va_up (va_up A 22 g22) 23 g23) 23 i (nI s)) 22 i 0 = va_up (va_up A 22 (upd g22 i 0)) 23 (upd g23 i (nI s)) := by
        funext x
        by_cases h23 : x = 23
        · subst h23; simp [u2, va_up]
        · by_cases h22 : x = 22
          · subst h22; simp [u2, va_up]
          · simp [u2, va_up, h22, h23]
      rw [eA]
      refine ih _ _ ⟨i + 1, _, _, by omega, e1, rfl, fun j hj => ?_, fun j hj => ?_⟩ (by rw [e1, ei, nI_clamp (by omega)]; omega)
      · by_cases hji : j = i
        · subst hji; simp [upd, hs]
        · simp only [upd, hji, if_false]; exact hg j (by omega)
      · simp only [upd, show ¬ j = i by omega, if_false]; exact hg2 j (by omega)
    refine ⟨hin, ?_⟩
    rw [ei, va_up_self, hg2 i (Nat.le_refl _), hA i q]
    have hs := h3 i q
    by_cases ht : tk i = true
    · rw [if_pos ht]
      exact bn_t rfl ⟨hin, hin, fun v1 e1 => nxt 1 v1 (by simp [ht]) e1⟩
    · rw [if_neg ht]
      refine bn_f ?_ ⟨hin, hin, fun v1 e1 => nxt 0 v1 (by simp [ht]) e1⟩
      rw [show (4 : Int32) = nI 4 from rfl, nI_eq (by omega) (by omega)]
      omega
theorem m_keepL {mk : Nat → Int32} (hfl : RoFl sd A) (h39 : ∀ i, i < 60 → A 39 i = if tk i = true then 1 else 0) (h44 : ∀ i, i < 60 → sd i = 2 → A 44 i = mk i) {E : Int32 → Prop} {Q : Int32 → SA → Prop} {w1 w2 : Int32} (hE : E (bst (elg sd tk) mk 60)) : ∃ n, wp_X6_halve_79 E Q w1 w2 A B n (-2) 0 := by
  refine lp2 (wp_X6_halve_79 E Q w1 w2 A B) (fun v3 v4 => ∃ i : Nat, i ≤ 60 ∧ v4 = nI i ∧ v3 = bst (elg sd tk) mk i) (fun _ v4 => 60 - v4.toNatClampNeg) ?_ _ _ ⟨0, Nat.zero_le _, nI_0.symm, rfl⟩
  rintro m v1 v2 ⟨i, hi, rfl, rfl⟩ ih
  have ei : (nI i).toNatClampNeg = i := nI_clamp (by omega)
  refine pk_le 60 i (fun q => ?_) (fun q => ?_)
  · rw [show i = 60 by omega]; exact hE
  · have hin := pk_in (x := nI i) i 60 q
    refine ⟨hin, ?_⟩
    have nxt : ∀ (v1 v2 : Int32), v1 = bst (elg sd tk) mk (i + 1) → v2 = nI i + 1 → wp_X6_halve_79 E Q w1 w2 A B m v1 v2 := by
      intro v1 v2 e1 e2
      rw [nI_1] at e2
      exact ih _ _ ⟨i + 1, by omega, e2, e1⟩ (by rw [e2, ei, nI_clamp (by omega)]; omega)
    have hf := hfl i q
    rw [ei, hf.2.1, hf.2.2.1, h39 i q]
    have no : elg sd tk i ≠ 1 → ∀ v2 : Int32, v2 = nI i + 1 → wp_X6_halve_79 E Q w1 w2 A B m (bst (elg sd tk) mk i) v2 := by
      intro z v2 e2
      refine nxt _ _ ?_ e2
      show _ = if elg sd tk i = 1 then _ else _
      rw [if_neg z]
    by_cases h0 : sd i = 0
    · rw [if_pos h0]
      exact br_t rfl (no (by unfold elg; simp [h0]))
    · rw [if_neg h0]
      refine br_f (by decide) ⟨hin, ?_⟩
      by_cases h2 : sd i = 2
      · rw [if_pos h2]
        refine br_f (by decide) ⟨hin, ?_⟩
        by_cases ht : tk i = true
        · rw [if_pos ht]
          exact bn_f (by decide) (no (by unfold elg; simp [ht]))
        · rw [if_neg ht]
          refine bn_t rfl ?_
          have q2 : elg sd tk i = 1 := by unfold elg; rw [if_pos ⟨h2, by simpa using ht⟩]
          by_cases hb : bst (elg sd tk) mk i < 0
          · exact br_t hb (fun v2 e2 => nxt _ _ (by simp [bst, q2, hb]) e2)
          · refine br_f hb ?_
            rcases bst_st (elg sd tk) mk i with z | ⟨j, hj, ej, es⟩
            · exact absurd z hb
            · have ejc : (nI j).toNatClampNeg = j := nI_clamp (by omega)
              have eb : (bst (elg sd tk) mk i).toNatClampNeg = j := by rw [ej, ejc]
              have sj : sd j = 2 := by
                unfold elg at es
                by_cases z : sd j = 2 ∧ tk j = false
                · exact z.1
                · rw [if_neg z] at es; exact absurd es (by decide)
              refine ⟨pk_in i 60 (by omega), pk_in j 60 (by omega) ej, ?_⟩
              rw [eb, h44 i q h2, h44 j (by omega) sj]
              refine ⟨fun z v2 e2 => nxt _ _ ?_ e2, fun z v2 e2 => nxt _ _ ?_ e2⟩
              · show _ = if elg sd tk i = 1 then _ else _
                rw [if_pos q2, if_neg hb, eb, if_pos z]
              · show _ = if elg sd tk i = 1 then _ else _
                rw [if_pos q2, if_neg hb, eb, if_neg z]
      · rw [if_neg h2]
        exact br_t rfl (no (by unfold elg; simp [h2]))
theorem m_tkL {K : Nat} (hK : K ≤ 60) {mk : Nat → Int32} (hfl : RoFl sd A) (h39 : ∀ i, i < 60 → A 39 i = 0) (h44 : ∀ i, i < 60 → sd i = 2 → A 44 i = mk i) {E : SA → Prop} {Q : Int32 → SA → Prop} (hE : ∀ g : Nat → Int32, (∀ i, i < 60 → g i = if tkn sd mk K i = true then 1 else 0) → E (va_up A 39 g)) : ∃ n, wp_X6_halve_68 E Q (nI K) B n 0 A := by
  refine lp2 (wp_X6_halve_68 E Q (nI K) B) (fun v2 A' => ∃ (r : Nat) (g : Nat → Int32), r ≤ K ∧ v2 = nI r ∧ A' = va_up A 39 g ∧ ∀ i, i < 60 → g i = if tkn sd mk r i = true then 1 else 0) (fun v2 _ => 60 - v2.toNatClampNeg) ?_ _ _ ⟨0, A 39, Nat.zero_le _, nI_0.symm, (va_up_id _ _).symm, fun i hi => by rw [h39 i hi]; simp [tkn]⟩
  rintro m v2 A' ⟨r, g, hr, rfl, rfl, hg⟩ ih
  refine pk_le K r (fun q => ?_) (fun q => ?_)
  · have : r = K := by omega
    subst this
    exact hE g hg
  · refine m_keepL (sd := sd) (tk := tkn sd mk r) (mk := mk) (fun i hi => ?_) (fun i hi => by rw [va_up_self]; exact hg i hi) (fun i hi h2 => by rw [va_up_ne _ _ (by decide)]; exact h44 i hi h2) ?_
    · rw [va_up_ne _ _ (by decide), va_up_ne _ _ (by decide), va_up_ne _ _ (by decide)]
      exact hfl i hi
    rcases bst_in (elg sd (tkn sd mk r)) mk 60 with z | ⟨j, hj, e⟩
    · refine br_t z (fun v2 e2 => ?_)
      rw [nI_1] at e2
      have e := tkn_none z 1
      exact ih _ _ ⟨r + 1, g, by omega, e2, rfl, fun i hi => by rw [e]; exact hg i hi⟩ (by rw [e2, nI_clamp (by omega), nI_clamp (by omega)]; omega)
    · rw [e]
      refine br_f (nI_pos (by omega)) ⟨pk_in j 60 hj, fun v2 e2 => ?_⟩
      obtain ⟨t1, t2, t3, t4⟩ := tkn_some hj e
      rw [nI_1] at e2
      rw [u2_up, nI_clamp (by omega), nar1]
      refine ih _ _ ⟨r + 1, _, by omega, e2, rfl, fun i hi => ?_⟩ (by rw [e2, nI_clamp (by omega), nI_clamp (by omega)]; omega)
      rw [t3 i hi]
      by_cases hij : i = j
      · subst hij; simp [upd]
      · simp only [upd, hij, if_false]; exact hg i hi
theorem m_clrL {E : SA → Prop} {Q : Int32 → SA → Prop} {w1 : Int32} (hE : ∀ g : Nat → Int32, (∀ i, i < 60 → g i = 0) → E (va_up A 39 g)) : ∃ n, wp_X6_halve_47 E Q w1 B n 0 A := by
  refine lp2 (wp_X6_halve_47 E Q w1 B) (fun v2 A' => ∃ (i : Nat) (g : Nat → Int32), i ≤ 60 ∧ v2 = nI i ∧ A' = va_up A 39 g ∧ ∀ j, j < i → g j = 0) (fun v2 _ => 60 - v2.toNatClampNeg) ?_ _ _ ⟨0, A 39, Nat.zero_le _, nI_0.symm, (va_up_id _ _).symm, fun i hi => by omega⟩
  rintro m v2 A' ⟨i, g, hi, rfl, rfl, hg⟩ ih
  refine pk_le 60 i (fun q => ?_) (fun q => ⟨pk_in i 60 q, fun v2 e2 => ?_⟩)
  · exact hE g (fun j hj => hg j (by omega))
  · rw [nI_1] at e2
    rw [u2_up, nI_clamp (by omega), nar0]
    refine ih _ _ ⟨i + 1, _, by omega, e2, rfl, fun j hj => ?_⟩ (by rw [e2, nI_clamp (by omega), nI_clamp (by omega)]; omega)
    by_cases hji : j = i
    · subst hji; simp [upd]
    · simp only [upd, hji, if_false]; exact hg j (by omega)
theorem m_setL (h39 : ∀ i, i < 60 → A 39 i = if tk i = true then 1 else 0) {E : SA → Prop} {Q : Int32 → SA → Prop} (hE : ∀ g41 g42 g43 g44 : Nat → Int32, (∀ i, i < 60 → g41 i = (if tk i = true then 1 else 0) ∧ g42 i = 0 ∧ g43 i = 0 ∧ g44 i = 0) → E (va_up (va_up (va_up (va_up A 41 g41) 42 g42) 43 g43) 44 g44)) : ∃ n, wp_X6_halve_168 E Q B n 0 A := by
  refine lp2 (wp_X6_halve_168 E Q B) (fun v5 A' => ∃ (i : Nat) (g41 g42 g43 g44 : Nat → Int32), i ≤ 60 ∧ v5 = nI i ∧ A' = va_up (va_up (va_up (va_up A 41 g41) 42 g42) 43 g43) 44 g44 ∧ ∀ j, j < i → g41 j = (if tk j = true then 1 else 0) ∧ g42 j = 0 ∧ g43 j = 0 ∧ g44 j = 0) (fun v5 _ => 60 - v5.toNatClampNeg) ?_ _ _ ⟨0, A 41, A 42, A 43, A 44, Nat.zero_le _, nI_0.symm, by rw [va_up_id, va_up_id, va_up_id, va_up_id], fun j hj => by omega⟩
  rintro m2 v5 A' ⟨i, g41, g42, g43, g44, hi, rfl, rfl, hg⟩ ih
  have ei : (nI i).toNatClampNeg = i := nI_clamp (by omega)
  refine pk_le 60 i (fun q => ?_) (fun q => ?_)
  · exact hE g41 g42 g43 g44 (fun j hj => hg j (by omega))
  · have hin := pk_in (x := nI i) i 60 q
    refine ⟨hin, fun x e => ⟨hin, hin, hin, hin, fun v5 e5 => ?_⟩⟩
    rw [nI_1] at e5
    rw [ei, va_up_ne _ _ (by decide), va_up_ne _ _ (by decide), va_up_ne _ _ (by decide), va_up_ne _ _ (by decide), h39 i q] at e
    have ex : vp_nar .boolean x = x := by
      rw [e]; split
      · exact nar1
      · exact nar0
    rw [ei, nar0, ex]
    have eA : u2 (u2 (u2 (u2 (va_up (va_up (va_up (va_up A 41 g41) 42 g42) 43 g43) 44 g44) 41 i x) 42 i 0) 43 i 0) 44 i 0 = va_up (va_up (va_up (va_up A 41 (upd g41 i x)) 42 (upd g42 i 0)) 43 (upd g43 i 0)) 44 (upd g44 i 0) := by
      funext x
      by_cases h44 : x = 44
      · subst h44; simp [u2, va_up]
      · by_cases h43 : x = 43
        · subst h43; simp [u2, va_up]
        · by_cases h42 : x = 42
          · subst h42; simp [u2, va_up]
          · by_cases h41 : x = 41
            · subst h41; simp [u2, va_up]
            · simp [u2, va_up, h44, h43, h42, h41]
    rw [eA]
    refine ih _ _ ⟨i + 1, _, _, _, _, by omega, e5, rfl, fun j hj => ?_⟩ (by rw [e5, ei, nI_clamp (by omega)]; omega)
    by_cases hji : j = i
    · subst hji; simp [upd, e]
    · simp only [upd, hji, if_false]; exact hg j (by omega)
def hvF (A53 : SA) (B : SB) (Q : Int32 → SA → Prop) : Prop :=
  ∀ x_54 : Int64, x_54 = ((A53 5 20).toInt64 * (A53 5 21).toInt64) →
    ((x_54 ≤ (1000000000 : Int64) → ∀ x_56 : Int32, x_56 = x_54.toInt32 → ∀ x_57 : Int32, x_57 = ((A53 5 22) + (1 : Int32)) →
      wp_X6_inside (u2 (u2 A53 5 20 x_56) 5 22 x_57) B (fun (r_58 : Int32) =>
        (((2 : Int32) ≤ r_58 → wp_X6_inside (u2 (u2 (u2 A53 5 20 x_56) 5 22 x_57) 5 23 (0 : Int32)) B (fun (r_62 : Int32) => Q r_62 (u2 (u2 (u2 A53 5 20 x_56) 5 22 x_57) 5 23 (0 : Int32))))
         ∧ (¬ (2 : Int32) ≤ r_58 → wp_X6_inside (u2 (u2 (u2 A53 5 20 x_56) 5 22 x_57) 5 23 (1 : Int32)) B (fun (r_65 : Int32) => Q r_65 (u2 (u2 (u2 A53 5 20 x_56) 5 22 x_57) 5 23 (1 : Int32)))))))
    ∧ (¬ x_54 ≤ (1000000000 : Int64) → ∀ x_68 : Int32, x_68 = ((A53 5 22) + (1 : Int32)) →
      wp_X6_inside (u2 (u2 A53 5 20 (1000000000 : Int32)) 5 22 x_68) B (fun (r_69 : Int32) =>
        (((2 : Int32) ≤ r_69 → wp_X6_inside (u2 (u2 (u2 A53 5 20 (1000000000 : Int32)) 5 22 x_68) 5 23 (0 : Int32)) B (fun (r_73 : Int32) => Q r_73 (u2 (u2 (u2 A53 5 20 (1000000000 : Int32)) 5 22 x_68) 5 23 (0 : Int32))))
         ∧ (¬ (2 : Int32) ≤ r_69 → wp_X6_inside (u2 (u2 (u2 A53 5 20 (1000000000 : Int32)) 5 22 x_68) 5 23 (1 : Int32)) B (fun (r_76 : Int32) => Q r_76 (u2 (u2 (u2 A53 5 20 (1000000000 : Int32)) 5 22 x_68) 5 23 (1 : Int32))))))))
def hvT (w1 : Int32) (A : SA) (B : SB) (Q : Int32 → SA → Prop) : Prop :=
  ∃ n_16 : Nat, wp_X6_halve_47 (fun (A_17 : SA) => ∃ n_42 : Nat, wp_X6_halve_68 (fun (A_43 : SA) => ∃ n_52 : Nat, wp_X6_halve_168 (fun (A_53 : SA) => hvF A_53 B Q) Q B n_52 (0 : Int32) A_43) Q w1 B n_42 (0 : Int32) A_17) Q w1 B n_16 (0 : Int32) A
theorem hvF_ok {b f : Nat} (hb : b ≤ 1000000000) (hf : f ≤ 5) (e20 : A 5 20 = nI b) (e21 : A 5 21 = nI f) {p : Nat → Bool} (hp : ∀ i, i < 60 → A 41 i = if p i = true then 1 else 0) {Q : Int32 → SA → Prop}
    (hQ : Q (nI (cntN p 60)) (u2 (u2 (u2 A 5 20 (nI (min (b * f) 1000000000))) 5 22 (A 5 22 + 1)) 5 23 (if 2 ≤ cntN p 60 then 0 else 1))) : hvF A B Q := by
  intro x ex
  have hbf : b * f ≤ 5000000000 := Nat.le_trans (Nat.mul_le_mul hb hf) (by decide)
  rw [e20, e21, nI_l (by omega), nI_l (by omega), lN_mul] at ex
  have hc := cntN_le p 60
  have ins : ∀ (x y z : Int32) (A' : SA), A' = u2 (u2 A 5 20 x) 5 22 y ∨ A' = u2 (u2 (u2 A 5 20 x) 5 22 y) 5 23 z → ∀ i, i < 60 → A' 41 i = if p i = true then 1 else 0 := by
    intro x y z A' h i hi
    rcases h with rfl | rfl
    · rw [u2_kn (by decide), u2_kn (by decide)]; exact hp i hi
    · rw [u2_kn (by decide), u2_kn (by decide), u2_kn (by decide)]; exact hp i hi
  refine pj_le (b * f) 1000000000 (fun q x5 e5 x6 e6 => ?_) (fun q x6 e6 => ?_) ex rfl (by omega) (by decide)
  · rw [ex, lN_i] at e5
    rw [Nat.min_eq_left q, ← e5, ← e6] at hQ
    refine w6_inside (p := p) (ins x5 x6 0 _ (Or.inl rfl)) (pk_le 2 (cntN p 60) (fun q2 => ?_) (fun q2 => ?_))
    · rw [if_pos q2] at hQ
      exact w6_inside (p := p) (ins x5 x6 0 _ (Or.inr rfl)) hQ
    · rw [if_neg (by omega)] at hQ
      exact w6_inside (p := p) (ins x5 x6 1 _ (Or.inr rfl)) hQ
  · rw [Nat.min_eq_right (by omega), ← e6] at hQ
    refine w6_inside (p := p) (ins _ x6 0 _ (Or.inl rfl)) (pk_le 2 (cntN p 60) (fun q2 => ?_) (fun q2 => ?_))
    · rw [if_pos q2] at hQ
      exact w6_inside (p := p) (ins _ x6 0 _ (Or.inr rfl)) hQ
    · rw [if_neg (by omega)] at hQ
      exact w6_inside (p := p) (ins _ x6 1 _ (Or.inr rfl)) hQ
theorem hvT_ok {K b f : Nat} (hK : K ≤ 60) (hb : b ≤ 1000000000) (hf : f ≤ 5) (e20 : A 5 20 = nI b) (e21 : A 5 21 = nI f) {mk : Nat → Int32} (hfl : RoFl sd A) (h44 : ∀ i, i < 60 → sd i = 2 → A 44 i = mk i) {Q : Int32 → SA → Prop}
    (hQ : ∀ A3 : SA, (∀ k, k ≠ 39 → k ≠ 41 → k ≠ 42 → k ≠ 43 → k ≠ 44 → k ≠ 5 → A3 k = A k) → (∀ i, i < 60 → A3 41 i = (if tkn sd mk K i = true then 1 else 0) ∧ A3 42 i = 0 ∧ A3 43 i = 0 ∧ A3 44 i = 0) → (∀ j, j ≠ 20 → j ≠ 22 → j ≠ 23 → A3 5 j = A 5 j) → A3 5 20 = nI (min (b * f) 1000000000) → A3 5 22 = A 5 22 + 1 → A3 5 23 = (if 2 ≤ cntN (tkn sd mk K) 60 then 0 else 1) → Q (nI (cntN (tkn sd mk K) 60)) A3) : hvT (nI K) A B Q := by
  refine m_clrL (fun g0 h0 => ?_)
  refine m_tkL (sd := sd) (mk := mk) hK (fun i hi => ?_) (fun i hi => by rw [va_up_self]; exact h0 i hi) (fun i hi h2 => by rw [va_up_ne _ _ (by decide)]; exact h44 i hi h2) (fun g1 h1 => ?_)
  · rw [va_up_ne _ _ (by decide), va_up_ne _ _ (by decide), va_up_ne _ _ (by decide)]
    exact hfl i hi
  refine m_setL (tk := tkn sd mk K) (fun i hi => by rw [va_up_self]; exact h1 i hi) (fun g41 g42 g43 g44 hg => ?_)
  obtain ⟨A3, eA3⟩ : ∃ A3 : SA, A3 = va_up (va_up (va_up (va_up (va_up (va_up A 39 g0) 39 g1) 41 g41) 42 g42) 43 g43) 44 g44 := ⟨_, rfl⟩
  rw [← eA3]
  have kr : ∀ k, k ≠ 39 → k ≠ 41 → k ≠ 42 → k ≠ 43 → k ≠ 44 → A3 k = A k := fun k a b c d e => by rw [eA3, va_up_ne _ _ e, va_up_ne _ _ d, va_up_ne _ _ c, va_up_ne _ _ b, va_up_ne _ _ a, va_up_ne _ _ a]
  have k41 : A3 41 = g41 := by rw [eA3, va_up_ne _ _ (by decide), va_up_ne _ _ (by decide), va_up_ne _ _ (by decide), va_up_self]
  have k42 : A3 42 = g42 := by rw [eA3, va_up_ne _ _ (by decide), va_up_ne _ _ (by decide), va_up_self]
  have k43 : A3 43 = g43 := by rw [eA3, va_up_ne _ _ (by decide), va_up_self]
  have k44 : A3 44 = g44 := by rw [eA3, va_up_self]
  have k5 : A3 5 = A 5 := kr 5 (by decide) (by decide) (by decide) (by decide) (by decide)
  refine hvF_ok (p := tkn sd mk K) hb hf (by rw [k5]; exact e20) (by rw [k5]; exact e21) (fun i hi => by rw [k41]; exact (hg i hi).1) ?_
  refine hQ _ (fun k a b c d e f => ?_) (fun i hi => ?_) (fun j a b c => ?_) ?_ ?_ ?_
  · rw [u2_kn f, u2_kn f, u2_kn f, kr k a b c d e]
  · rw [u2_kn (by decide), u2_kn (by decide), u2_kn (by decide), u2_kn (by decide), u2_kn (by decide), u2_kn (by decide), u2_kn (by decide), u2_kn (by decide), u2_kn (by decide), u2_kn (by decide), u2_kn (by decide), u2_kn (by decide), k41, k42, k43, k44]
    exact hg i hi
  · rw [u2_ne c, u2_ne b, u2_ne a, k5]
  · rw [u2_ne (by decide), u2_ne (by decide), u2_self]
  · rw [u2_ne (by decide), u2_self, k5]
  · rw [u2_self]
end HV
