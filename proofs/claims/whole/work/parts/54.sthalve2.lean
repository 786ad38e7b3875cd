/-! step: halve, both sides -/
section HV2
variable {A : SA} {B : SB} {n : Nat} {M : Nat → Nat} {P : Nat → Option Nat} {S : Nat → Nat → Bool} {W : Nat → Nat} {t : Nat} {pt st sp : Nat → Nat} {sd : Nat → Nat} {tk : Nat → Bool}
theorem cntN_0 {p : Nat → Bool} (h : ∀ i, p i = false) : ∀ k, cntN p k = 0
  | 0 => rfl
  | k + 1 => by simp [cntN, cntN_0 h k, h k]
theorem m_halve0 (hfl : RoFl sd A) (hc : ¬ (¬ A 5 15 = 0 ∧ A 5 23 = 0 ∧ cntN (fun i => decide (sd i = 1)) 60 = 0)) {Q : Int32 → SA → Prop} (h : Q (-3) A) : wp_X6_halve A B Q := by
  refine ⟨fun _ => h, fun z1 => ⟨fun _ => h, fun z2 => ?_⟩⟩
  have h1 : ¬ cntN (fun i => decide (sd i = 1)) 60 = 0 := fun z => hc ⟨z1, z2, z⟩
  have h2 := cntN_le (fun i => decide (sd i = 1)) 60
  exact w6_open hfl (br_f (nI_nle (by omega) (by omega)) h)
theorem m_halve {f : Nat} (hf : 2 ≤ f ∧ f ≤ 5) (hfl : RoFl sd A) (e15 : ¬ A 5 15 = 0) (e23 : A 5 23 = 0) (hc : cntN (fun i => decide (sd i = 1)) 60 = 0) (e21 : A 5 21 = nI f) {Q : Int32 → SA → Prop} (h : hvT (nI (max 1 (cntN (fun i => decide (sd i ≠ 0)) 60 / f))) A B Q) : wp_X6_halve A B Q := by
  refine br_f e15 (bn_t e23 (w6_open hfl (br_t (by rw [hc]; decide) ?_)))
  have hl := cntN_le (fun i => decide (sd i ≠ 0)) 60
  have hd : cntN (fun i => decide (sd i ≠ 0)) 60 / f ≤ 60 := Nat.le_trans (Nat.div_le_self _ _) hl
  refine w6_inside (p := fun i => decide (sd i ≠ 0)) (fun i hi => ?_) ⟨?_, fun x e => ?_⟩
  · rw [(hfl i hi).2.1]
    by_cases z : sd i = 0 <;> simp [z]
  · rw [e21]; exact nI_ne0 (by omega) (by omega)
  · rw [e21, pk_div (by omega) (by omega) (by omega)] at e
    refine pk_le 1 _ (fun q => ?_) (fun q => ?_) rfl e
    · rw [Nat.max_eq_right q] at h
      rw [e]
      exact h
    · rw [Nat.max_eq_left (by omega)] at h
      exact h
theorem st_halve (h : Inv A B) {K : Int32 → Int32 → SA → Prop} (hK : ∀ r A2, Inv A2 B → K r r A2) : wp_X5_halve A B (fun r A1 => wp_X6_halve A1 B (fun r2 A2 => K r r2 A2)) := by
  obtain ⟨n, M, P, S, W, t, pt, st, sp, hi⟩ := h
  obtain ⟨sd, hR⟩ := hi.2.2.1
  obtain ⟨r1, r2, r3, r4, r5, r6, r7, r8, r9, r10, r11, r12, r13⟩ := id hR
  have kk := hK (-3) A hi.inv
  have hcl := cntN_le (fun i => decide (sd i = 1)) 60
  have hcl2 := cntN_le (fun i => decide (sd i ≠ 0)) 60
  refine ⟨fun z => br_t rfl (m_halve0 hR.fl (fun y => y.1 (by rw [← r2]; exact z)) kk), fun z1 => ⟨fun z => br_t rfl (m_halve0 hR.fl (fun y => z (by rw [r4]; exact y.2.1)) kk), fun z2 => ?_⟩⟩
  refine ⟨fun z => br_t rfl (m_halve0 hR.fl (fun y => z (by rw [r7, y.2.2]; rfl)) kk), fun z => br_f (by decide) ?_⟩
  have hc : cntN (fun i => decide (sd i = 1)) 60 = 0 := by
    rw [r7, show (0 : Int32) = nI 0 from rfl, nI_eq (by omega) (by omega)] at z; exact z
  have h30 : A 3 0 = 1 := by
    rcases r3 with y | y
    · exact absurd y z1
    · exact y
  obtain ⟨⟨f, hf2, hf5, ef⟩, b, hb, eb⟩ := r12 h30
  have hd : cntN (fun i => decide (sd i ≠ 0)) 60 / f ≤ 60 := Nat.le_trans (Nat.div_le_self _ _) hcl2
  unfold wp_X1_end
  rw [r6, ef, nI_l (by omega), nI_l (by omega)]
  refine w_cut (by omega) (by omega) (by omega) (fun x e => ?_)
  have ex : x = lN (max 1 (cntN (fun i => decide (sd i ≠ 0)) 60 / f)) := by
    rw [e, show (1 : Int64) = lN 1 from rfl]
    by_cases y : cntN (fun i => decide (sd i ≠ 0)) 60 / f < 1
    · rw [if_pos ((pk_lLT (by omega) (by omega)).mpr y), Nat.max_eq_left (by omega)]
    · rw [if_neg (fun y2 => y ((pk_lLT (by omega) (by omega)).mp y2)), Nat.max_eq_right (by omega)]
  obtain ⟨k, ek⟩ : ∃ k, k = max 1 (cntN (fun i => decide (sd i ≠ 0)) 60 / f) := ⟨_, rfl⟩
  have hk : k ≤ 60 := by omega
  rw [← ek] at ex
  subst ex
  refine w_endL hk (fun i hi => (r1 i hi).1) (fun i hi => (r1 i hi).2.1) (fun g hg => ?_)
  obtain ⟨c, ec⟩ : ∃ c, c = cntN (tkn sd (A 22) k) 60 := ⟨_, rfl⟩
  have hc60 : c ≤ 60 := by rw [ec]; exact cntN_le _ _
  rw [← ec]
  refine w_openRound (sd := sd) (tk := tkn sd (A 22) k) (fun i hi => (r1 i hi).1) (fun i hi => by rw [va_up_self]; exact hg i hi) (fun g22 g23 hg2 x7 e7 x8 e8 => ?_)
  obtain ⟨A5, eA5⟩ : ∃ A5 : SA, A5 = va_up (va_up (va_up A 23 g) 22 g22) 23 g23 := ⟨_, rfl⟩
  rw [← eA5] at e7 e8 ⊢
  have kr : ∀ k, k ≠ 22 → k ≠ 23 → A5 k = A k := fun k a b => by rw [eA5, va_up_ne _ _ b, va_up_ne _ _ a, va_up_ne _ _ b]
  have k22 : A5 22 = g22 := by rw [eA5, va_up_ne _ _ (by decide), va_up_self]
  have k23 : A5 23 = g23 := by rw [eA5, va_up_self]
  have k3 : A5 3 = A 3 := kr 3 (by decide) (by decide)
  have hbf : b * f ≤ 5000000000 := Nat.le_trans (Nat.mul_le_mul hb hf5) (by decide)
  rw [k3] at e7
  rw [k3, eb, ef, nI_l (by omega), nI_l (by omega), lN_mul] at e8
  have e8' : x8 = nI (min (b * f) 1000000000) := by
    rw [e8, show (1000000000 : Int64) = lN 1000000000 from rfl]
    by_cases y : 1000000000 < b * f
    · rw [if_pos ((pk_lLT (by omega) (by omega)).mpr y), Nat.min_eq_right (by omega), lN_i]
    · rw [if_neg (fun y2 => y ((pk_lLT (by omega) (by omega)).mp y2)), Nat.min_eq_left (by omega), lN_i]
  -- the reference, from the class's new state
  have fin : ∀ ov : Int32, ov = (if 2 ≤ c then 0 else 1) → wp_X6_halve (u2 (u2 (u2 (u2 (u2 A5 3 5 (nI c)) 3 6 (nI c)) 3 7 x7) 3 8 x8) 3 4 ov) B (fun r2 A2 => K (nI c) r2 A2) := by
    intro ov hov
    obtain ⟨A6, eA6⟩ : ∃ A6 : SA, A6 = u2 (u2 (u2 (u2 (u2 A5 3 5 (nI c)) 3 6 (nI c)) 3 7 x7) 3 8 x8) 3 4 ov := ⟨_, rfl⟩
    rw [← eA6]
    have mr : ∀ k, k ≠ 3 → k ≠ 22 → k ≠ 23 → A6 k = A k := fun k a b c => by rw [eA6, u2_kn a, u2_kn a, u2_kn a, u2_kn a, u2_kn a, kr k b c]
    have m5 : A6 5 = A 5 := mr 5 (by decide) (by decide) (by decide)
    have fl6 : RoFl sd A6 := fun i hi => by rw [mr 41 (by decide) (by decide) (by decide), mr 42 (by decide) (by decide) (by decide), mr 43 (by decide) (by decide) (by decide)]; exact hR.fl i hi
    refine m_halve (f := f) ⟨hf2, hf5⟩ fl6 (by rw [m5, ← r2]; exact z1) (by rw [m5, ← r4]; exact z2) hc (by rw [m5, ← r10]; exact ef) ?_
    rw [← ek]
    refine hvT_ok (sd := sd) (mk := A 22) (b := b) (f := f) hk hb hf5 (by rw [m5, ← r9]; exact eb) (by rw [m5, ← r10]; exact ef) fl6 (fun i hi h2 => ?_) (fun A3 q1 q2 q3 q4 q5 q6 => ?_)
    · rw [mr 44 (by decide) (by decide) (by decide), (r1 i hi).2.2.2.2.2, if_pos h2]
    rw [← ec] at q6 ⊢
    have p3 : A3 3 = A6 3 := q1 3 (by decide) (by decide) (by decide) (by decide) (by decide) (by decide)
    have p30 : A6 3 0 = A 3 0 := by rw [eA6, u2_ne (by decide), u2_ne (by decide), u2_ne (by decide), u2_ne (by decide), u2_ne (by decide), k3]
    have p39 : A6 3 9 = A 3 9 := by rw [eA6, u2_ne (by decide), u2_ne (by decide), u2_ne (by decide), u2_ne (by decide), u2_ne (by decide), k3]
    have p34 : A6 3 4 = ov := by rw [eA6, u2_self]
    have p35 : A6 3 5 = nI c := by rw [eA6, u2_ne (by decide), u2_ne (by decide), u2_ne (by decide), u2_ne (by decide), u2_self]
    have p36 : A6 3 6 = nI c := by rw [eA6, u2_ne (by decide), u2_ne (by decide), u2_ne (by decide), u2_self]
    have p37 : A6 3 7 = x7 := by rw [eA6, u2_ne (by decide), u2_ne (by decide), u2_self]
    have p38 : A6 3 8 = x8 := by rw [eA6, u2_ne (by decide), u2_self]
    have p22 : A3 22 = g22 := by rw [q1 22 (by decide) (by decide) (by decide) (by decide) (by decide) (by decide), eA6, u2_kn (by decide), u2_kn (by decide), u2_kn (by decide), u2_kn (by decide), u2_kn (by decide), k22]
    have p23 : A3 23 = g23 := by rw [q1 23 (by decide) (by decide) (by decide) (by decide) (by decide) (by decide), eA6, u2_kn (by decide), u2_kn (by decide), u2_kn (by decide), u2_kn (by decide), u2_kn (by decide), k23]
    refine hK _ _ (hi.ro (sd := fun i => if tkn sd (A 22) k i = true then 1 else 0) ⟨fun k a b c d e f g h' i' => ?_, fun x a b c d e => ?_, fun k a b => rfl⟩ ?_)
    · rw [q1 k i' d e f g h', mr k a b c]
    · rw [q3 x b d e, m5]
    · have cc : ∀ (p : Nat → Bool), (∀ i, p i = tkn sd (A 22) k i) → nI c = nI (cntN p 60) := fun p hp => by rw [ec, cntN_congr (fun i _ => hp i)]
      refine ⟨fun i hi6 => ?_, ?_, ?_, ?_, ?_, ?_, ?_, ?_, ?_, ?_, r11, ?_, ?_⟩
      · have h1 := q2 i hi6
        have h2 := hg2 i hi6
        rw [p22, p23]
        rw [h1.1, h1.2.1, h1.2.2.1, h1.2.2.2, h2.1, h2.2]
        by_cases z : tkn sd (A 22) k i = true
        · simp [z]
        · simp [z]
      · rw [p3, p30, q3 15 (by decide) (by decide) (by decide), m5]; exact r2
      · rw [p3, p30]; exact r3
      · rw [p3, p34, q6]; exact hov
      · rw [p3, p34, hov]; split
        · exact Or.inl rfl
        · exact Or.inr rfl
      · rw [p3, p35]
        exact cc _ (fun i => by by_cases z : tkn sd (A 22) k i = true <;> simp [z])
      · rw [p3, p36]
        exact cc _ (fun i => by by_cases z : tkn sd (A 22) k i = true <;> simp [z])
      · rw [p3, p37, q5, m5, e7, r8]
      · rw [p3, p38, q4, e8']
      · rw [p3, p39, q3 21 (by decide) (by decide) (by decide), m5]; exact r10
      · rw [p3, p30, p38, p39]
        intro _
        exact ⟨⟨f, hf2, hf5, ef⟩, _, Nat.min_le_right _ _, e8'⟩
      · rw [p3, p30, h30]; exact fun z => absurd z (by decide)
  refine pk_lt 1 c (fun q => ?_) (fun q => ?_)
  · exact fin 0 (by rw [if_pos (by omega)])
  · exact fin 1 (by rw [if_neg (by omega)])
end HV2
