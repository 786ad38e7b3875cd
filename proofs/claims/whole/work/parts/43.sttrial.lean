/-! steps: trial, score, point, reported, best -/
def KeepM (A A1 : SA) (B B1 : SB) : Prop := (∀ k, 29 ≤ k → k ≤ 47 → A1 k = A k) ∧ A1 5 = A 5 ∧ ∀ k, 29 ≤ k → k ≤ 47 → B1 k = B k
theorem off116 {t : Nat} (ht : t < 60) : offC (116 + t) := by
  have h := urow_116 (i := nI t) (pk_in t 60 ht)
  rw [nI_clamp (by omega)] at h
  exact ⟨h.1, h.2.1, h.2.2, by omega, by omega, by omega, by omega⟩
section ST
variable {A : SA} {B : SB} {n : Nat} {M : Nat → Nat} {P : Nat → Option Nat} {S : Nat → Nat → Bool} {W : Nat → Nat} {t : Nat} {pt st sp : Nat → Nat}
theorem add_trial (hi : InvW n M P S W t pt st sp A B) (ht : t < 60) {p : Nat} (hp : p < allN n P W) {K : Int32 → Int32 → SA → SB → Prop} (hK : ∀ r A2 B2, Inv A2 B2 → K r r A2 B2) {Q0 : Int32 → SA → SB → Prop}
    (hQ : ∀ A1 B1, ISp n M P S W A1 B1 → KeepM A A1 B B1 → (∀ A1', Scr A1 A1' → wp_X6_add (lN p) A1' B1 (fun r2 A2 B2 => K (nI t) r2 A2 B2)) → Q0 (nI t) A1 B1) : wp_X4_add (lN p) A B (fun r A1 B1 => Q0 r A1 B1) := by
  obtain ⟨h1, hT, ⟨sd, hR⟩, rows, outer, inner, pl, hF⟩ := hi
  have hs := h1.1
  have et : (nI t).toNatClampNeg = t := nI_clamp (by omega)
  have hin := pk_in (x := nI t) t 60 ht
  obtain ⟨vals, lf, hr⟩ := rd_ex h1.1 h1.2.1 hp
  intro x1 e1
  rw [hT.2.1] at e1
  subst e1
  refine ⟨hin, hin, hin, ?_⟩
  rw [et]
  have hC' : SpC n M P S (u2 A 14 t 0) := h1.2.2.1.fr (by rw [u2_kn (by decide)]) (u2_kn (by decide)) (u2_kn (by decide)) (u2_kn (by decide))
  have hB' : SpW n M P S W (u2L B 13 t (lN p)) := ⟨by rw [u2L_kn (by decide)]; exact h1.2.2.2.1.1, fun i hi => by rw [u2L_kn (by decide)]; exact h1.2.2.2.1.2.1 i hi, fun i v hi hv => by rw [u2L_kn (by omega)]; exact h1.2.2.2.1.2.2 i v hi hv⟩
  refine w_read h1.1 h1.2.1 hC' hB' (off116 ht) hr (fun f hf x8 e8 => ?_)
  have e8' : x8 = nI (t + 1) := by rw [e8, va_up_ne _ _ (by omega), u2_kn (by decide), hT.2.1, nI_1]
  subst e8'
  obtain ⟨A1, eA1⟩ : ∃ A1 : SA, A1 = u2 (va_up (u2 A 14 t 0) (116 + t) f) 2 0 (nI (t + 1)) := ⟨_, rfl⟩
  obtain ⟨B1, eB1⟩ : ∃ B1 : SB, B1 = u2L B 13 t (lN p) := ⟨_, rfl⟩
  rw [← eA1, ← eB1]
  have kr : ∀ k, k ≠ 2 → k ≠ 14 → k ≠ 116 + t → A1 k = A k := fun k a b c => by rw [eA1, u2_kn a, va_up_ne _ _ c, u2_kn b]
  have k14 : A1 14 = upd (A 14) t 0 := by rw [eA1, u2_kn (by decide), va_up_ne _ _ (by omega), u2_kk]
  have k20 : A1 2 0 = nI (t + 1) := by rw [eA1, u2_self]
  have k2 : ∀ j, j ≠ 0 → A1 2 j = A 2 j := fun j hj => by rw [eA1, u2_ne hj, va_up_ne _ _ (by omega), u2_kn (by decide)]
  have krow : A1 (116 + t) = f := by rw [eA1, u2_kn (by omega), va_up_self]
  have b13 : B1 13 = vp_updL (B 13) t (lN p) := by rw [eB1, u2L_kk]
  have br : ∀ k, k ≠ 13 → B1 k = B k := fun k a => by rw [eB1, u2L_kn a]
  refine hQ A1 B1 (h1.fr (kr 1 (by decide) (by decide) (by omega)) (kr 8 (by decide) (by decide) (by omega)) (kr 9 (by decide) (by decide) (by omega)) (kr 10 (by decide) (by decide) (by omega)) (by rw [kr 5 (by decide) (by decide) (by omega)]) (kr 29 (by decide) (by decide) (by omega)) (kr 30 (by decide) (by decide) (by omega)) (kr 31 (by decide) (by decide) (by omega)) (br 1 (by decide)) (br 11 (by decide)) (br 32 (by decide)) (fun i _ => br (48 + i) (by omega))) ⟨fun k a b => kr k (by omega) (by omega) (by omega), kr 5 (by decide) (by decide) (by omega), fun k a b => br k (by omega)⟩ ?_
  intro A1' hsc
  have c56 : A1' 5 6 = nI t := by rw [hsc.2 6 (by decide), kr 5 (by decide) (by decide) (by omega)]; exact hT.2.2.1
  unfold wp_X6_add
  rw [c56, et]
  refine ⟨hin, hin, hin, hin, fun x5 e5 => ?_⟩
  rw [nI_1] at e5
  subst e5
  obtain ⟨A2, eA2⟩ : ∃ A2 : SA, A2 = u2 (u2 (u2 (u2 A1' 35 t 0) 36 t 0) 37 t 0) 5 6 (nI (t + 1)) := ⟨_, rfl⟩
  obtain ⟨B2, eB2⟩ : ∃ B2 : SB, B2 = u2L B1 34 t (lN p) := ⟨_, rfl⟩
  rw [← eA2, ← eB2]
  have at' : ∀ k, (k ≠ 5 ∧ k ≠ 6 ∧ k ≠ 7 ∧ k ≠ 19 ∧ k ≠ 20 ∧ k ≠ 21 ∧ k ≠ 33 ∧ k ≠ 39 ∧ k ≠ 40) → k ≠ 35 → k ≠ 36 → k ≠ 37 → A2 k = A1 k := fun k a b c d => by rw [eA2, u2_kn a.1, u2_kn d, u2_kn c, u2_kn b, hsc.at a]
  have m35 : A2 35 = upd (A 35) t 0 := by rw [eA2, u2_kn (by decide), u2_kn (by decide), u2_kn (by decide), u2_kk, hsc.at (by decide), kr 35 (by decide) (by decide) (by omega)]
  have m36 : A2 36 = upd (A 36) t 0 := by rw [eA2, u2_kn (by decide), u2_kn (by decide), u2_kk, u2_kn (by decide), hsc.at (by decide), kr 36 (by decide) (by decide) (by omega)]
  have m37 : A2 37 = upd (A 37) t 0 := by rw [eA2, u2_kn (by decide), u2_kk, u2_kn (by decide), u2_kn (by decide), hsc.at (by decide), kr 37 (by decide) (by decide) (by omega)]
  have m56 : A2 5 6 = nI (t + 1) := by rw [eA2, u2_self]
  have m5 : ∀ j, j ≠ 6 → j ≠ 13 → A2 5 j = A 5 j := fun j a b => by rw [eA2, u2_ne a, u2_kn (by decide), u2_kn (by decide), u2_kn (by decide), hsc.2 j b, kr 5 (by decide) (by decide) (by omega)]
  have mk : ∀ k, (k ≠ 5 ∧ k ≠ 6 ∧ k ≠ 7 ∧ k ≠ 19 ∧ k ≠ 20 ∧ k ≠ 21 ∧ k ≠ 33 ∧ k ≠ 39 ∧ k ≠ 40) → k ≠ 35 → k ≠ 36 → k ≠ 37 → k ≠ 2 → k ≠ 14 → k ≠ 116 + t → A2 k = A k := fun k a b c d e f g => by rw [at' k a b c d, kr k e f g]
  have c34 : B2 34 = vp_updL (B 34) t (lN p) := by rw [eB2, u2L_kk, br 34 (by decide)]
  have cr : ∀ k, k ≠ 13 → k ≠ 34 → B2 k = B k := fun k a b => by rw [eB2, u2L_kn b, br k a]
  have c13 : B2 13 = vp_updL (B 13) t (lN p) := by rw [eB2, u2L_kn (by decide), b13]
  obtain ⟨g1, g2, g3, g4, g5, g6, g7, g8, g9, g10, g11⟩ := hT
  refine hK _ _ _ ⟨n, M, P, S, W, t + 1, fun i => if i = t then p else pt i, fun i => if i = t then 0 else st i, fun i => if i = t then 0 else sp i, ?_, ?_, ⟨sd, ?_⟩, rows, outer, inner, pl, ?_⟩
  · exact h1.fr (mk 1 (by decide) (by decide) (by decide) (by decide) (by decide) (by decide) (by omega)) (mk 8 (by decide) (by decide) (by decide) (by decide) (by decide) (by decide) (by omega)) (mk 9 (by decide) (by decide) (by decide) (by decide) (by decide) (by decide) (by omega)) (mk 10 (by decide) (by decide) (by decide) (by decide) (by decide) (by decide) (by omega)) (m5 0 (by decide) (by decide)) (mk 29 (by decide) (by decide) (by decide) (by decide) (by decide) (by decide) (by omega)) (mk 30 (by decide) (by decide) (by decide) (by decide) (by decide) (by decide) (by omega)) (mk 31 (by decide) (by decide) (by decide) (by decide) (by decide) (by decide) (by omega)) (cr 1 (by decide) (by decide)) (cr 11 (by decide) (by decide)) (cr 32 (by decide) (by decide)) (fun i _ => cr (48 + i) (by omega) (by omega))
  · refine ⟨by omega, ?_, m56, ?_, fun i hi => ?_, fun i hi => ?_, fun i hi => ?_, fun i h1 h2 => ?_, fun i hi => ?_, fun i s hi hs => ?_, fun i hi => ?_⟩
    · rw [at' 2 (by decide) (by decide) (by decide) (by decide)]; exact k20
    · rw [at' 2 (by decide) (by decide) (by decide) (by decide), k2 1 (by decide), g4]
      congr 1
      simp only [cntN, if_true]
      rw [if_neg (by decide), Nat.add_zero]
      exact cntN_congr (fun i hi => by simp [show i ≠ t by omega])
    · rw [c13, c34]
      by_cases h : i = t
      · subst h; simp [vp_updL, hp]
      · simp only [vp_updL, h, if_false]; exact g5 i (by omega)
    · rw [at' 14 (by decide) (by decide) (by decide) (by decide), k14, m35]
      by_cases h : i = t
      · subst h; simp [upd, nI_0]
      · simp only [upd, h, if_false]; exact g6 i (by omega)
    · rw [mk 15 (by decide) (by decide) (by decide) (by decide) (by decide) (by decide) (by omega), m36]
      by_cases h : i = t
      · subst h
        have := (g8 i (Nat.le_refl i) (by omega)).1
        simp only [upd, if_true]
        rw [this]
        exact ⟨rfl, by decide, by decide, fun _ => rfl⟩
      · simp only [upd, h, if_false]; exact g7 i (by omega)
    · rw [mk 15 (by decide) (by decide) (by decide) (by decide) (by decide) (by decide) (by omega), mk 16 (by decide) (by decide) (by decide) (by decide) (by decide) (by decide) (by omega)]
      exact g8 i (by omega) h2
    · rw [mk 16 (by decide) (by decide) (by decide) (by decide) (by decide) (by decide) (by omega), m37]
      by_cases h : i = t
      · subst h
        have := (g8 i (Nat.le_refl i) (by omega)).2
        simp only [upd, if_true]
        rw [this]
        exact ⟨by omega, nI_0.symm, nI_0.symm⟩
      · simp only [upd, h, if_false]; exact g9 i (by omega)
    · by_cases h : i = t
      · subst h; simp at hs
      · simp only [h, if_false] at hs
        rw [mk (56 + i) (by omega) (by omega) (by omega) (by omega) (by omega) (by omega) (by omega), mk 38 (by decide) (by decide) (by decide) (by decide) (by decide) (by decide) (by omega)]
        exact g10 i s (by omega) hs
    · by_cases h : i = t
      · subst h
        refine ⟨vals, lf, by simpa using hr, fun j hj => ?_⟩
        rw [at' (116 + i) (by omega) (by omega) (by omega) (by omega), krow]
        exact hf j hj
      · rw [mk (116 + i) (by omega) (by omega) (by omega) (by omega) (by omega) (by omega) (by omega)]
        simp only [h, if_false]
        exact g11 i (by omega)
  · exact hR.fr (mk 3 (by decide) (by decide) (by decide) (by decide) (by decide) (by decide) (by omega)) (mk 22 (by decide) (by decide) (by decide) (by decide) (by decide) (by decide) (by omega)) (mk 23 (by decide) (by decide) (by decide) (by decide) (by decide) (by decide) (by omega)) (mk 41 (by decide) (by decide) (by decide) (by decide) (by decide) (by decide) (by omega)) (mk 42 (by decide) (by decide) (by decide) (by decide) (by decide) (by decide) (by omega)) (mk 43 (by decide) (by decide) (by decide) (by decide) (by decide) (by decide) (by omega)) (mk 44 (by decide) (by decide) (by decide) (by decide) (by decide) (by decide) (by omega)) (m5 15 (by decide) (by decide)) (m5 20 (by decide) (by decide)) (m5 21 (by decide) (by decide)) (m5 22 (by decide) (by decide)) (m5 23 (by decide) (by decide)) (cr 3 (by decide) (by decide)) (cr 5 (by decide) (by decide))
  · exact hF.fr (mk 4 (by decide) (by decide) (by decide) (by decide) (by decide) (by decide) (by omega)) (m5 25 (by decide) (by decide)) (m5 26 (by decide) (by decide)) (m5 27 (by decide) (by decide)) (mk 24 (by decide) (by decide) (by decide) (by decide) (by decide) (by decide) (by omega)) (mk 25 (by decide) (by decide) (by decide) (by decide) (by decide) (by decide) (by omega)) (mk 26 (by decide) (by decide) (by decide) (by decide) (by decide) (by decide) (by omega)) (mk 45 (by decide) (by decide) (by decide) (by decide) (by decide) (by decide) (by omega)) (mk 46 (by decide) (by decide) (by decide) (by decide) (by decide) (by decide) (by omega)) (mk 47 (by decide) (by decide) (by decide) (by decide) (by decide) (by decide) (by omega)) (fun o _ => mk (176 + o) (by omega) (by omega) (by omega) (by omega) (by omega) (by omega) (by omega))
/-! trial -/
def trT (a0 a1 : Int32) (A : SA) (B : SB) (Q : Int32 → SA → SB → Prop) : Prop :=
  ((¬ (A 5 6) = (60 : Int32) →
    (((2 : Int32) ≤ a0 → ∃ m, wp_X6_trial_68 (fun A2 => wp_X6_numberOf A2 B (fun r A3 => wp_X6_add r A3 B (fun r A4 B4 => Q r A4 B4))) Q a1 B m 0 A) ∧ (¬ (2 : Int32) ≤ a0 →
      ((¬ a0 = 0 → wp_X6_points A B (fun r => wp_X6_pick a1 r A B (fun r => wp_X6_add r A B (fun r A4 B4 => Q r A4 B4)))) ∧ (a0 = 0 → wp_X6_points A B (fun r => (¬ r = 0) ∧ wp_X6_add (a1.toInt64 - a1.toInt64 / r * r) A B (fun r A4 B4 => Q r A4 B4)))))))
   ∧ ((A 5 6) = (60 : Int32) → Q (-4) A B))
theorem m_trial {a0 a1 : Int32} {Q : Int32 → SA → SB → Prop} (c1 : (0 : Int64) ≤ a0.toInt64 ∧ a0.toInt64 ≤ 2) (c2 : a0 = 0 → 0 ≤ a1) (h : trT a0 a1 A B Q) : wp_X6_trial a0 a1 A B Q :=
  w_in (fun _ _ => br_f (by decide) ⟨fun _ => h, fun z => br_t (c2 z) h⟩) (fun y => absurd c1 y)
theorem m_trial0 {a0 a1 : Int32} {Q : Int32 → SA → SB → Prop} (hc : ¬ (((0 : Int64) ≤ a0.toInt64 ∧ a0.toInt64 ≤ 2) ∧ (a0 = 0 → 0 ≤ a1))) (h : Q (-1) A B) : wp_X6_trial a0 a1 A B Q :=
  w_in (fun a b => br_f (by decide) ⟨fun z => absurd ⟨⟨a, b⟩, fun y => absurd y z⟩ hc, fun _ => ⟨fun y => absurd ⟨⟨a, b⟩, fun _ => y⟩ hc, fun _ => h⟩⟩) (fun _ => br_t rfl h)
def ctrT (a0 a1 : Int32) (A : SA) (B : SB) (Q : Int32 → SA → SB → Prop) : Prop :=
  (((60 : Int32) ≤ (A 2 0) → Q (-4) A B) ∧ (¬ (60 : Int32) ≤ (A 2 0) → wp_X5_placeBy a0 a1 A B (fun r A1 => wp_X4_add r A1 B (fun r A2 B2 => Q r A2 B2))))
theorem c_trial_ok {a0 a1 : Int32} {Q : Int32 → SA → SB → Prop} (c1 : (0 : Int64) ≤ a0.toInt64 ∧ a0.toInt64 ≤ 2) (c2 : a0 = 0 → 0 ≤ a1) (h : ctrT a0 a1 A B Q) : wp_X5_trial a0 a1 A B Q :=
  w_within (fun _ _ => br_f (by decide) ⟨fun _ => h, fun z => br_t (c2 z) h⟩) (fun y => absurd c1 y)
theorem c_trial_no {a0 a1 : Int32} {Q : Int32 → SA → SB → Prop} (hc : ¬ (((0 : Int64) ≤ a0.toInt64 ∧ a0.toInt64 ≤ 2) ∧ (a0 = 0 → 0 ≤ a1))) (h : Q (-1) A B) : wp_X5_trial a0 a1 A B Q :=
  w_within (fun a b => br_f (by decide) ⟨fun z => absurd ⟨⟨a, b⟩, fun y => absurd y z⟩ hc, fun _ => ⟨fun y => absurd ⟨⟨a, b⟩, fun _ => y⟩ hc, fun _ => h⟩⟩) (fun _ => br_t rfl h)
theorem st_trial (h : Inv A B) {a0 a1 : Int32} {K : Int32 → Int32 → SA → SB → Prop} (hK : ∀ r A2 B2, Inv A2 B2 → K r r A2 B2) : wp_X5_trial a0 a1 A B (fun r A1 B1 => wp_X6_trial a0 a1 A1 B1 (fun r2 A2 B2 => K r r2 A2 B2)) := by
  obtain ⟨n, M, P, S, W, t, pt, st, sp, hi⟩ := h
  have h1 := hi.1
  have ht := hi.2.1.1
  have e2 := hi.2.1.2.1
  have e56 := hi.2.1.2.2.1
  have e60 : (60 : Int32) = nI 60 := rfl
  have hbd := all_bd h1.1 h1.2.1
  by_cases hc : (((0 : Int64) ≤ a0.toInt64 ∧ a0.toInt64 ≤ 2) ∧ (a0 = 0 → 0 ≤ a1))
  · obtain ⟨c1, c2⟩ := hc
    refine c_trial_ok c1 c2 ?_
    unfold ctrT
    rw [e2]
    refine pk_le 60 t (fun q => ?_) (fun q => ?_)
    · refine m_trial c1 c2 ?_
      unfold trT
      rw [e56]
      exact bn_t (by rw [e60, nI_eq (by omega) (by omega)]; omega) (hK _ _ _ hi.inv)
    · have mm : ∀ r A1 B1, A1 5 6 = nI t → ((((2 : Int32) ≤ a0 → ∃ m, wp_X6_trial_68 (fun A2 => wp_X6_numberOf A2 B1 (fun r' A3 => wp_X6_add r' A3 B1 (fun r2 A4 B4 => K r r2 A4 B4))) (fun r2 A2 B2 => K r r2 A2 B2) a1 B1 m 0 A1) ∧ (¬ (2 : Int32) ≤ a0 → ((¬ a0 = 0 → wp_X6_points A1 B1 (fun r' => wp_X6_pick a1 r' A1 B1 (fun r' => wp_X6_add r' A1 B1 (fun r2 A4 B4 => K r r2 A4 B4)))) ∧ (a0 = 0 → wp_X6_points A1 B1 (fun r' => (¬ r' = 0) ∧ wp_X6_add (a1.toInt64 - a1.toInt64 / r' * r') A1 B1 (fun r2 A4 B4 => K r r2 A4 B4))))))) → wp_X6_trial a0 a1 A1 B1 (fun r2 A2 B2 => K r r2 A2 B2) := by
        intro r A1 B1 e hT
        refine m_trial c1 c2 ?_
        unfold trT
        rw [e]
        exact bn_f (by rw [e60, nI_eq (by omega) (by omega)]; omega) hT
      have l0 : (0 : Int64).toInt = 0 := rfl
      have l2 : (2 : Int64).toInt = 2 := rfl
      have c1' := rgI.mp c1
      rw [l0, l2] at c1'
      obtain ⟨k, hk, e0, -⟩ := nI_ex (x := a0) (by omega)
      have hk3 : k ≤ 2 := by omega
      have e02 : (2 : Int32) = nI 2 := rfl
      have e00 : (0 : Int32) = nI 0 := rfl
      have e01 : (1 : Int32) = nI 1 := rfl
      rcases (show k = 0 ∨ k = 1 ∨ k = 2 by omega) with rfl | rfl | rfl
      · -- the grid
        have hz : a0 = 0 := by rw [e0]; rfl
        obtain ⟨sd, hsd, es, hs31⟩ := nI_ex (x := a1) (Int32.le_iff_toInt_le.mp (c2 hz))
        refine bn_t hz ?_
        subst es
        rw [h1.2.2.2.1.1, nI_l hs31]
        refine w_rest (by omega) (by omega) (by omega) ?_
        refine add_trial hi q (p := sd % allN n P W) (Nat.mod_lt _ (by omega)) hK (fun A1 B1 hS hKe hadd => mm _ _ _ (by rw [hKe.2.1]; exact e56) ?_)
        refine br_f (by rw [e0, e02, nI_leI (by omega) (by omega)]; omega) (bn_t hz ?_)
        refine w6_points hS.1 hS.2.2.2.2.1 hS.2.2.2.2.2 ⟨?_, ?_⟩
        · rw [show (0 : Int64) = lN 0 from rfl, pk_lEQ (by omega) (by omega)]; omega
        · rw [nI_l hs31, pk_lRem (by omega) (by omega) (by omega)]
          exact hadd A1 Scr.rf
      · -- a draw
        have hz : ¬ a0 = 0 := by rw [e0, e00, nI_eq (by omega) (by omega)]; omega
        have ho : a0 = 1 := by rw [e0]; rfl
        have hpk := pickF_ok (allN n P W) a1 (by omega) (by omega)
        refine bn_f hz (bn_t ho ?_)
        rw [h1.2.2.2.1.1]
        refine hpk.2.1 _ _ _ ?_
        refine add_trial hi q (p := pickF (allN n P W) a1) hpk.1 hK (fun A1 B1 hS hKe hadd => mm _ _ _ (by rw [hKe.2.1]; exact e56) ?_)
        refine br_f (by rw [e0, e02, nI_leI (by omega) (by omega)]; omega) (bn_f hz ?_)
        exact w6_points hS.1 hS.2.2.2.2.1 hS.2.2.2.2.2 (hpk.2.2 _ _ _ (hadd A1 Scr.rf))
      · -- name by name
        have hz : ¬ a0 = 0 := by rw [e0, e00, nI_eq (by omega) (by omega)]; omega
        have ho : ¬ a0 = 1 := by rw [e0, e01, nI_eq (by omega) (by omega)]; omega
        obtain ⟨vals, hf⟩ := fill_ex (S := S) h1.1 (fun i => pickF (M i) (hashF a1 (nI i)))
        have hv : VOK n M P S vals := hf.ok (fun i hi _ => (pickF_ok _ _ (h1.1.2.1 i hi).1 (by have := (h1.1.2.1 i hi).2; omega)).1)
        refine bn_f hz (bn_f ho ?_)
        refine w_pickEach h1.1 h1.2.2.1 off6 hf (fun f hf2 => ?_)
        have hsc : Scr A (va_up A 6 f) := Scr.up (by decide)
        have hi2 := hi.scr hsc
        have h2 := hi2.1
        refine w_place h2.1 h2.2.1 h2.2.2.1 h2.2.2.2.1 off6 hv (fun i hi => by rw [va_up_self]; exact hf2 i hi) ?_
        refine add_trial hi2 q (p := plN n P S W vals n) (pl_all h1.1 h1.2.1 hv) hK (fun A1 B1 hS hKe hadd => mm _ _ _ (by rw [hKe.2.1, hsc.2 6 (by decide)]; exact e56) ?_)
        refine br_t (by rw [e0]; exact Int32.le_refl _) ?_
        refine w6_pickEach hS.1 hS.2.2.2.2.1 hf (fun g hg => ?_)
        exact w6_numberOf hS.1 hS.2.2.2.2.1.up hS.2.2.2.2.2 hv (fun i hi => by rw [va_up_self]; exact hg i hi) (hadd _ (Scr.up (by decide)))
  · exact c_trial_no hc (m_trial0 hc (hK _ _ _ hi.inv))
end ST
