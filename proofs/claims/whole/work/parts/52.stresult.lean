/-! step: result -/
def RoFl (sd : Nat → Nat) (A : SA) : Prop := ∀ i, i < 60 → sd i ≤ 3 ∧ A 41 i = (if sd i = 0 then 0 else 1) ∧ A 42 i = (if sd i = 2 then 1 else 0) ∧ A 43 i = (if sd i = 3 then 1 else 0)
section RS
variable {A : SA} {B : SB} {n : Nat} {M : Nat → Nat} {P : Nat → Option Nat} {S : Nat → Nat → Bool} {W : Nat → Nat} {t : Nat} {pt st sp : Nat → Nat}
theorem IRo.fl {sd : Nat → Nat} (h : IRo sd A B) : RoFl sd A := fun i hi => ⟨(h.1 i hi).1, (h.1 i hi).2.2.1, (h.1 i hi).2.2.2.1, (h.1 i hi).2.2.2.2.1⟩
theorem w6_open {sd : Nat → Nat} (h : RoFl sd A) {Q : Int32 → Prop} (hQ : Q (nI (cntN (fun i => decide (sd i = 1)) 60))) : wp_X6_open A B Q := by
  refine lp2 (wp_X6_open_4 (fun v => Q v) Q A B) (fun v1 v2 => ∃ i : Nat, i ≤ 60 ∧ v2 = nI i ∧ v1 = nI (cntN (fun i => decide (sd i = 1)) i)) (fun _ v2 => 60 - v2.toNatClampNeg) ?_ _ _ ⟨0, Nat.zero_le _, nI_0.symm, rfl⟩
  rintro m v1 v2 ⟨i, hi, rfl, rfl⟩ ih
  have ei : (nI i).toNatClampNeg = i := nI_clamp (by omega)
  refine pk_le 60 i (fun q => ?_) (fun q => ?_)
  · rw [show i = 60 by omega]; exact hQ
  · have hin := pk_in (x := nI i) i 60 q
    have hf := h i q
    have nxt : ∀ (b : Nat) (x v2 : Int32), (if decide (sd i = 1) = true then 1 else 0) = b → x = nI (cntN (fun i => decide (sd i = 1)) i) + nI b → v2 = nI i + 1 → wp_X6_open_4 (fun v => Q v) Q A B m x v2 := by
      intro b x v2 hb hx h2
      rw [nI_1] at h2
      refine ih _ _ ⟨i + 1, by omega, h2, ?_⟩ (by rw [h2, ei, nI_clamp (by omega)]; omega)
      rw [hx, nI_add]
      simp only [cntN]
      rw [hb]
    refine ⟨hin, ?_⟩
    rw [ei, hf.2.1, hf.2.2.1, hf.2.2.2]
    by_cases h0 : sd i = 0
    · rw [if_pos h0]
      exact br_t rfl (fun x e v2 e2 => nxt 0 x v2 (by simp [h0]) e e2)
    · rw [if_neg h0]
      refine br_f (by decide) ⟨hin, ?_⟩
      by_cases h2 : sd i = 2
      · rw [if_pos h2]
        exact bn_f (by decide) (fun x e v2 e2 => nxt 0 x v2 (by simp [h2]) e e2)
      · rw [if_neg h2]
        refine bn_t rfl ⟨hin, ?_⟩
        by_cases h3 : sd i = 3
        · rw [if_pos h3]
          exact bn_f (by decide) (fun x e v2 e2 => nxt 0 x v2 (by simp [h3]) e e2)
        · rw [if_neg h3]
          exact bn_t rfl (fun x e v2 e2 => nxt 1 x v2 (by rw [if_pos]; simp; omega) e e2)
theorem w6_inside {p : Nat → Bool} (h : ∀ i, i < 60 → A 41 i = if p i = true then 1 else 0) {Q : Int32 → Prop} (hQ : Q (nI (cntN p 60))) : wp_X6_inside A B Q := by
  refine lp2 (wp_X6_inside_4 (fun v => Q v) Q A B) (fun v1 v2 => ∃ i : Nat, i ≤ 60 ∧ v2 = nI i ∧ v1 = nI (cntN p i)) (fun _ v2 => 60 - v2.toNatClampNeg) ?_ _ _ ⟨0, Nat.zero_le _, nI_0.symm, rfl⟩
  rintro m v1 v2 ⟨i, hi, rfl, rfl⟩ ih
  have ei : (nI i).toNatClampNeg = i := nI_clamp (by omega)
  refine pk_le 60 i (fun q => ?_) (fun q => ?_)
  · rw [show i = 60 by omega]; exact hQ
  · refine ⟨pk_in i 60 q, ?_⟩
    have nxt : ∀ (b : Nat) (x v2 : Int32), (if p i = true then 1 else 0) = b → x = nI (cntN p i) + nI b → v2 = nI i + 1 → wp_X6_inside_4 (fun v => Q v) Q A B m x v2 := by
      intro b x v2 hb hx h2
      rw [nI_1] at h2
      refine ih _ _ ⟨i + 1, by omega, h2, ?_⟩ (by rw [h2, ei, nI_clamp (by omega)]; omega)
      rw [hx, nI_add]
      simp only [cntN]
      rw [hb]
    rw [ei, h i q]
    by_cases hp : p i = true
    · rw [if_pos hp]
      exact br_f (by decide) (fun x e v2 e2 => nxt 1 x v2 (by simp [hp]) e e2)
    · rw [if_neg hp]
      exact br_t rfl (fun x e v2 e2 => nxt 0 x v2 (by simp [hp]) e e2)
theorem m_result0 {a0 a1 a2 : Int32} (ht : t ≤ 60) (e56 : A 5 6 = nI t) {Q : Int32 → SA → SB → Prop} (hc : ¬ ((∃ j, j < t ∧ a0 = nI j) ∧ (¬ a2 = 0 → ((-1000000 : Int64) ≤ a1.toInt64 ∧ a1.toInt64 ≤ 1000000)))) (h : Q (-1) A B) : wp_X6_result a0 a1 a2 A B Q :=
  w6_noTrial e56 ht (fun j hj e => bn_t rfl ⟨fun z => absurd ⟨⟨j, hj, e⟩, fun y => absurd z y⟩ hc, fun z => w6_isScore (fun y => absurd ⟨⟨j, hj, e⟩, fun _ => y⟩ hc) (fun _ => bn_t rfl h)⟩) (fun _ => bn_f (by decide) h)
theorem m_resultN {j : Nat} {a1 a2 : Int32} {sd : Nat → Nat} (ht : t ≤ 60) (hj : j < t) (e56 : A 5 6 = nI t) (hm : ¬ a2 = 0 → ((-1000000 : Int64) ≤ a1.toInt64 ∧ a1.toInt64 ≤ 1000000)) (hfl : RoFl sd A) (hsd : sd j ≠ 1) {Q : Int32 → SA → SB → Prop} (h : Q (-3) A B) : wp_X6_result (nI j) a1 a2 A B Q := by
  have ej : (nI j).toNatClampNeg = j := nI_clamp (by omega)
  have hin := pk_in (x := nI j) j 60 (by omega)
  have hf := hfl j (by omega)
  refine w6_noTrial e56 ht (fun _ _ _ => bn_t rfl ⟨fun z => ⟨fun _ => h, fun _ => ⟨hin, ?_⟩⟩, fun z => w6_isScore (fun _ => bn_f (by decide) ⟨fun _ => h, fun _ => ⟨hin, ?_⟩⟩) (fun y => absurd (hm z) y)⟩) (fun z => absurd ⟨j, hj, rfl⟩ z)
  all_goals
    rw [ej, hf.2.1, hf.2.2.1, hf.2.2.2]
    by_cases h0 : sd j = 0
    · rw [if_pos h0]; exact br_t rfl h
    · rw [if_neg h0]
      refine br_f (by decide) ⟨hin, ?_⟩
      by_cases h2 : sd j = 2
      · rw [if_pos h2]; exact bn_f (by decide) h
      · rw [if_neg h2]
        refine bn_t rfl ⟨hin, ?_⟩
        rw [if_pos (show sd j = 3 by omega)]
        exact br_f (by decide) h
theorem m_result {j : Nat} {a1 a2 : Int32} {sd : Nat → Nat} (ht : t ≤ 60) (hj : j < t) (e56 : A 5 6 = nI t) (hm : ¬ a2 = 0 → ((-1000000 : Int64) ≤ a1.toInt64 ∧ a1.toInt64 ≤ 1000000)) (hfl : RoFl sd A) (hsd : sd j = 1) (h15 : A 5 15 = 1) {Q : Int32 → SA → SB → Prop}
    (h0 : a2 = 0 → wp_X6_open (u2 (u2 (u2 A 42 j (vp_nar .boolean a2)) 43 j 1) 44 j 0) (u2L B 5 24 ((B 5 24) + (A 5 20).toInt64)) (fun r => Q r (u2 (u2 (u2 A 42 j (vp_nar .boolean a2)) 43 j 1) 44 j 0) (u2L B 5 24 ((B 5 24) + (A 5 20).toInt64))))
    (h1 : ¬ a2 = 0 → wp_X6_open (u2 (u2 (u2 A 42 j (vp_nar .boolean a2)) 43 j 0) 44 j a1) (u2L B 5 24 ((B 5 24) + (A 5 20).toInt64)) (fun r => Q r (u2 (u2 (u2 A 42 j (vp_nar .boolean a2)) 43 j 0) 44 j a1) (u2L B 5 24 ((B 5 24) + (A 5 20).toInt64)))) : wp_X6_result (nI j) a1 a2 A B Q := by
  have ej : (nI j).toNatClampNeg = j := nI_clamp (by omega)
  have hin := pk_in (x := nI j) j 60 (by omega)
  have hf := hfl j (by omega)
  have e41 : A 41 j = 1 := by rw [hf.2.1, if_neg (by omega)]
  have e42 : A 42 j = 0 := by rw [hf.2.2.1, if_neg (by omega)]
  have e43 : A 43 j = 0 := by rw [hf.2.2.2, if_neg (by omega)]
  refine w6_noTrial e56 ht (fun _ _ _ => bn_t rfl ⟨fun z => ?_, fun z => w6_isScore (fun _ => bn_f (by decide) ?_) (fun y => absurd (hm z) y)⟩) (fun z => absurd ⟨j, hj, rfl⟩ z)
  · rw [h15, ej, e41, e42, e43]
    refine br_f (by decide) ⟨hin, br_f (by decide) ⟨hin, bn_t rfl ⟨hin, br_t rfl ⟨hin, bn_t z ⟨hin, br_t z ⟨hin, fun x e => ?_⟩⟩⟩⟩⟩⟩
    rw [e, nar1]
    exact h0 z
  · rw [h15, ej, e41, e42, e43]
    refine br_f (by decide) ⟨hin, br_f (by decide) ⟨hin, bn_t rfl ⟨hin, br_t rfl ⟨hin, bn_f z ⟨hin, br_f z ⟨hin, fun x e => ?_⟩⟩⟩⟩⟩⟩
    rw [e, nar0]
    exact h1 z
theorem st_result (h : Inv A B) {a0 a1 a2 : Int32} (hbool : a2 = 0 ∨ a2 = 1) {K : Int32 → Int32 → SA → SB → Prop} (hK : ∀ r A2 B2, Inv A2 B2 → K r r A2 B2) : wp_X5_result a0 a1 a2 A B (fun r A1 B1 => wp_X6_result a0 a1 a2 A1 B1 (fun r2 A2 B2 => K r r2 A2 B2)) := by
  obtain ⟨n, M, P, S, W, t, pt, st, sp, hi⟩ := h
  obtain ⟨sd, hR⟩ := hi.2.2.1
  obtain ⟨g1, g2, g3, -⟩ := hi.2.1
  refine w_isTrial g2 g1 (fun j hj e => br_f (by decide) ?_) (fun z => br_t rfl (m_result0 g1 g3 (fun y => z y.1) (hK _ _ _ hi.inv)))
  refine w_isMark (fun hm => bn_f (by decide) ?_) (fun hm => bn_t rfl (m_result0 g1 g3 (fun y => hm y.2) (hK _ _ _ hi.inv)))
  subst e
  have ej : (nI j).toNatClampNeg = j := nI_clamp (by omega)
  have hin := pk_in (x := nI j) j 60 (by omega)
  have hr := hR.1 j (by omega)
  refine ⟨hin, ?_⟩
  rw [ej, hr.2.1]
  have h3 := hr.1
  refine pk_ne (sd j) 1 (fun q => br_t rfl (m_resultN g1 hj g3 hm hR.fl q (hK _ _ _ hi.inv))) (fun q => br_f (by decide) ?_)
  have h30 : A 3 0 = 1 := by
    rcases hR.2.2.1 with z | z
    · have := hR.2.2.2.2.2.2.2.2.2.2.2.2 z j (by omega)
      omega
    · exact z
  have h515 : A 5 15 = 1 := by rw [← hR.2.1]; exact h30
  -- both sides, with the mark s and the result v
  have fin : ∀ (s : Nat) (v w42 w43 : Int32) (A1 : SA) (B1 : SB), (s = 2 ∧ w42 = 1 ∧ w43 = 0 ∨ s = 3 ∧ v = 0 ∧ w42 = 0 ∧ w43 = 1) → A1 = u2 (u2 (u2 A 23 j (nI s)) 22 j v) 3 6 (nI (cntN (fun i => decide ((if i = j then s else sd i) = 1)) 60)) → B1 = u2L B 3 1 (B 3 1 + (A 3 8).toInt64) →
      wp_X6_open (u2 (u2 (u2 A1 42 j w42) 43 j w43) 44 j v) (u2L B1 5 24 ((B1 5 24) + (A1 5 20).toInt64)) (fun r => K (nI (cntN (fun i => decide ((if i = j then s else sd i) = 1)) 60)) r (u2 (u2 (u2 A1 42 j w42) 43 j w43) 44 j v) (u2L B1 5 24 ((B1 5 24) + (A1 5 20).toInt64))) := by
    intro s v w42 w43 A1 B1 hsv eA1 eB1
    have kr : ∀ k, k ≠ 3 → k ≠ 22 → k ≠ 23 → A1 k = A k := fun k a b c => by rw [eA1, u2_kn a, u2_kn b, u2_kn c]
    obtain ⟨A2, eA2⟩ : ∃ A2 : SA, A2 = u2 (u2 (u2 A1 42 j w42) 43 j w43) 44 j v := ⟨_, rfl⟩
    rw [← eA2]
    have m42 : A2 42 = upd (A 42) j w42 := by rw [eA2, u2_kn (by decide), u2_kn (by decide), u2_kk, kr 42 (by decide) (by decide) (by decide)]
    have m43 : A2 43 = upd (A 43) j w43 := by rw [eA2, u2_kn (by decide), u2_kk, u2_kn (by decide), kr 43 (by decide) (by decide) (by decide)]
    have m44 : A2 44 = upd (A 44) j v := by rw [eA2, u2_kk, u2_kn (by decide), u2_kn (by decide), kr 44 (by decide) (by decide) (by decide)]
    have mr : ∀ k, k ≠ 42 → k ≠ 43 → k ≠ 44 → A2 k = A1 k := fun k a b c => by rw [eA2, u2_kn c, u2_kn b, u2_kn a]
    have m41 : A2 41 = A 41 := by rw [mr 41 (by decide) (by decide) (by decide), kr 41 (by decide) (by decide) (by decide)]
    have m5 : A2 5 = A 5 := by rw [mr 5 (by decide) (by decide) (by decide), kr 5 (by decide) (by decide) (by decide)]
    have m22 : A2 22 = upd (A 22) j v := by rw [mr 22 (by decide) (by decide) (by decide), eA1, u2_kn (by decide), u2_kk, u2_kn (by decide)]
    have m23 : A2 23 = upd (A 23) j (nI s) := by rw [mr 23 (by decide) (by decide) (by decide), eA1, u2_kn (by decide), u2_kn (by decide), u2_kk]
    have m36 : A2 3 6 = nI (cntN (fun i => decide ((if i = j then s else sd i) = 1)) 60) := by rw [mr 3 (by decide) (by decide) (by decide), eA1, u2_self]
    have m3 : ∀ x, x ≠ 6 → A2 3 x = A 3 x := fun x hx => by rw [mr 3 (by decide) (by decide) (by decide), eA1, u2_ne hx, u2_kn (by decide), u2_kn (by decide)]
    have flag : ∀ i, i < 60 → (if i = j then s else sd i) ≤ 3 ∧ A2 41 i = (if (if i = j then s else sd i) = 0 then 0 else 1) ∧ A2 42 i = (if (if i = j then s else sd i) = 2 then 1 else 0) ∧ A2 43 i = (if (if i = j then s else sd i) = 3 then 1 else 0) := by
      intro i hi6
      have hfi := hR.fl i hi6
      rw [m41, m42, m43]
      by_cases hij : i = j
      · subst hij
        simp only [upd, if_true]
        rw [hfi.2.1, q]
        rcases hsv with ⟨rfl, rfl, rfl⟩ | ⟨rfl, rfl, rfl, rfl⟩ <;> decide
      · simp only [upd, hij, if_false]
        exact hfi
    refine w6_open (sd := fun i => if i = j then s else sd i) flag ?_
    refine hK _ _ _ (hi.ro (sd := fun i => if i = j then s else sd i) ⟨fun k a b c d e f g h' i' => ?_, fun x _ _ _ _ _ => by rw [m5], fun k a b => ?_⟩ ?_)
    · rw [mr k e f g, kr k a b c]
    · rw [u2L_kn b, eB1, u2L_kn a]
    · refine ⟨fun i hi6 => ?_, ?_, ?_, ?_, ?_, ?_, m36, ?_, ?_, ?_, ?_, ?_, ?_⟩
      · have hfi := flag i hi6
        refine ⟨hfi.1, ?_, hfi.2.1, hfi.2.2.1, hfi.2.2.2, ?_⟩
        · rw [m23]
          by_cases hij : i = j
          · subst hij; simp [upd]
          · simp only [upd, hij, if_false]; exact (hR.1 i hi6).2.1
        · rw [m22, m44]
          by_cases hij : i = j
          · subst hij
            simp only [upd, if_true]
            rcases hsv with ⟨rfl, -, -⟩ | ⟨rfl, hv0, -, -⟩
            · rfl
            · rw [hv0]; rfl
          · simp only [upd, hij, if_false]; exact (hR.1 i hi6).2.2.2.2.2
      · rw [m3 0 (by decide), m5]; exact hR.2.1
      · rw [m3 0 (by decide)]; exact hR.2.2.1
      · rw [m3 4 (by decide), m5]; exact hR.2.2.2.1
      · rw [m3 4 (by decide)]; exact hR.2.2.2.2.1
      · rw [m3 5 (by decide), hR.2.2.2.2.2.1]
        congr 1
        refine cntN_congr (fun i _ => ?_)
        by_cases hij : i = j
        · subst hij
          rcases hsv with ⟨rfl, -, -⟩ | ⟨rfl, -, -, -⟩ <;> simp [q]
        · simp [hij]
      · rw [m3 7 (by decide), m5]; exact hR.2.2.2.2.2.2.2.1
      · rw [m3 8 (by decide), m5]; exact hR.2.2.2.2.2.2.2.2.1
      · rw [m3 9 (by decide), m5]; exact hR.2.2.2.2.2.2.2.2.2.1
      · rw [u2L_self, u2L_kn (by decide), eB1, u2L_self, u2L_kn (by decide), kr 5 (by decide) (by decide) (by decide), hR.2.2.2.2.2.2.2.2.2.2.1, hR.2.2.2.2.2.2.2.2.1]
      · rw [m3 0 (by decide), m3 9 (by decide), m3 8 (by decide)]; exact hR.2.2.2.2.2.2.2.2.2.2.2.1
      · rw [m3 0 (by decide), h30]; exact fun z => absurd z (by decide)
  have hcnt : ∀ s, s = 2 ∨ s = 3 → (A 3 6) - (1 : Int32) = nI (cntN (fun i => decide ((if i = j then s else sd i) = 1)) 60) := by
    intro s hs
    have h1 := cntN_upd (p := fun i => decide ((if i = j then s else sd i) = 1)) (q := fun i => decide (sd i = 1)) (j := j) (fun i hij => by simp [hij]) (by simp; omega) (by simp [q]) 60 (by omega)
    rw [hR.2.2.2.2.2.2.1, h1, nI_pred]
  have krC : ∀ (s : Nat) (v x : Int32) (k : Nat), k ≠ 3 → k ≠ 22 → k ≠ 23 → (u2 (u2 (u2 A 23 j (nI s)) 22 j v) 3 6 x) k = A k := fun s v x k a b c => by rw [u2_kn a, u2_kn b, u2_kn c]
  have flC : ∀ (s : Nat) (v x : Int32), RoFl sd (u2 (u2 (u2 A 23 j (nI s)) 22 j v) 3 6 x) := fun s v x i hi6 => by
    rw [krC s v x 41 (by decide) (by decide) (by decide), krC s v x 42 (by decide) (by decide) (by decide), krC s v x 43 (by decide) (by decide) (by decide)]
    exact hR.fl i hi6
  by_cases hw : a2 = 0
  · refine br_t hw ⟨hin, br_t hw ⟨hin, fun x5 e5 x6 e6 => ?_⟩⟩
    rw [hcnt 3 (Or.inr rfl)] at e6
    subst e6
    subst e5
    rw [ej]
    refine m_result (sd := sd) g1 hj (by rw [u2_kn (by decide), u2_kn (by decide), u2_kn (by decide)]; exact g3) hm (flC 3 0 _) q (by rw [u2_kn (by decide), u2_kn (by decide), u2_kn (by decide)]; exact h515) (fun _ => ?_) (fun z => absurd hw z)
    rw [hw, nar0]
    exact fin 3 0 0 1 _ _ (Or.inr ⟨rfl, rfl, rfl, rfl⟩) rfl rfl
  · have hw1 : a2 = 1 := by
      rcases hbool with z | z
      · exact absurd z hw
      · exact z
    refine br_f hw ⟨hin, br_f hw ⟨hin, fun x5 e5 x6 e6 => ?_⟩⟩
    rw [hcnt 2 (Or.inl rfl)] at e6
    subst e6
    subst e5
    rw [ej]
    refine m_result (sd := sd) g1 hj (by rw [u2_kn (by decide), u2_kn (by decide), u2_kn (by decide)]; exact g3) hm (flC 2 a1 _) q (by rw [u2_kn (by decide), u2_kn (by decide), u2_kn (by decide)]; exact h515) (fun z => absurd z hw) (fun _ => ?_)
    rw [hw1, nar1]
    exact fin 2 a1 1 0 _ _ (Or.inl ⟨rfl, rfl, rfl⟩) rfl rfl
end RS
