/-! step: report -/
section RQ
variable {A : SA} {B : SB} {n : Nat} {M : Nat → Nat} {P : Nat → Option Nat} {S : Nat → Nat → Bool} {W : Nat → Nat} {t : Nat} {pt st sp : Nat → Nat}
/-- is it pruned? -/
def prB (t : Nat) (sp : Nat → Nat) (rep : Nat → Int32) (j s mm : Nat) (v : Int32) : Bool :=
  decide (1 ≤ mm ∧ mm ≤ cntN (selB sp j s) t ∧ cntN (selB sp j s) t - cntN (fun i => selB sp j s i && decide (v < rep i)) t ≤ (cntN (selB sp j s) t - 1) / 2)
theorem w6_prunes {j s mm : Nat} {v : Int32} {rep : Nat → Int32} (ht : t ≤ 60) (hj : j < t) (hs : s < 20) (hmm : mm ≤ 60) (e56 : A 5 6 = nI t) (h37 : ∀ i, i < t → i ≠ j → sp i ≤ 20 ∧ A 37 i = nI (sp i)) (h38 : ∀ i, i < t → i ≠ j → s < sp i → A 38 (20 * i + s) = rep i) {Q : Int32 → Prop}
    (h : Q (if prB t sp rep j s mm v = true then 1 else 0)) : wp_X6_prunes (nI j) (nI s) v (nI mm) A B Q := by
  have e00 : (0 : Int32) = nI 0 := rfl
  unfold wp_X6_prunes
  generalize hE : (fun (v5 : Int32) => ((nI mm = 0 → Q (0 : Int32)) ∧ (¬ nI mm = 0 → ((nI mm ≤ v5 → ∃ n_30 : Nat, wp_X6_prunes_68 (fun (v6 : Int32) => ((((v5 - (1 : Int32)) / (2 : Int32)) < (v5 - v6) → Q (0 : Int32)) ∧ (¬ ((v5 - (1 : Int32)) / (2 : Int32)) < (v5 - v6) → Q (1 : Int32)))) Q (nI j) (nI s) v v5 A B n_30 (0 : Int32) (0 : Int32)) ∧ (¬ nI mm ≤ v5 → Q (0 : Int32)))))) = E
  refine lp2 (wp_X6_prunes_6 E Q (nI j) (nI s) v (nI mm) A B) (fun v5 v6 => ∃ i : Nat, i ≤ t ∧ v6 = nI i ∧ v5 = nI (cntN (selB sp j s) i)) (fun _ v6 => 60 - v6.toNatClampNeg) ?_ _ _ ⟨0, Nat.zero_le t, nI_0.symm, rfl⟩
  rintro m v5 v6 ⟨i, hi, rfl, rfl⟩ ih
  have ei : (nI i).toNatClampNeg = i := nI_clamp (by omega)
  refine pk_le t i (fun q => ?_) (fun q => ?_) e56
  · have hit : i = t := by omega
    subst hit
    have hc := cntN_le (selB sp j s) i
    rw [← hE]
    dsimp only
    refine pk_eq mm 0 (fun q2 => ?_) (fun q2 => pk_le mm (cntN (selB sp j s) i) (fun q3 => ?_) (fun q3 => ?_))
    · rw [if_neg (by simp [prB]; omega)] at h; exact h
    · generalize hE2 : (fun (v6 : Int32) => ((((nI (cntN (selB sp j s) i) - (1 : Int32)) / (2 : Int32)) < (nI (cntN (selB sp j s) i) - v6) → Q (0 : Int32)) ∧ (¬ ((nI (cntN (selB sp j s) i) - (1 : Int32)) / (2 : Int32)) < (nI (cntN (selB sp j s) i) - v6) → Q (1 : Int32)))) = E2
      refine lp2 (wp_X6_prunes_68 E2 Q (nI j) (nI s) v _ A B) (fun v6 v7 => ∃ k : Nat, k ≤ i ∧ v7 = nI k ∧ v6 = nI (cntN (fun i => selB sp j s i && decide (v < rep i)) k)) (fun _ v7 => 60 - v7.toNatClampNeg) ?_ _ _ ⟨0, Nat.zero_le i, nI_0.symm, rfl⟩
      rintro m2 v6 v7 ⟨k, hk, rfl, rfl⟩ ih2
      have ek : (nI k).toNatClampNeg = k := nI_clamp (by omega)
      refine pk_le i k (fun q4 => ?_) (fun q4 => ?_) e56
      · have hki : k = i := by omega
        subst hki
        rw [← hE2]
        dsimp only
        have hg : cntN (fun i => selB sp j s i && decide (v < rep i)) k ≤ cntN (selB sp j s) k := by
          have : ∀ k, cntN (fun i => selB sp j s i && decide (v < rep i)) k ≤ cntN (selB sp j s) k := by
            intro k
            induction k with
            | zero => exact Nat.le_refl _
            | succ k ih =>
              simp only [cntN]
              by_cases h1 : selB sp j s k = true
              · simp only [h1, Bool.true_and, if_true]; split <;> omega
              · simp only [h1, Bool.false_and]; simp; exact ih
          exact this k
        have e1 : (nI (cntN (selB sp j s) k) - (1 : Int32)) / (2 : Int32) = nI ((cntN (selB sp j s) k - 1) / 2) := by
          rw [show nI (cntN (selB sp j s) k) - (1 : Int32) = nI (cntN (selB sp j s) k - 1) from pk_sub (a := cntN (selB sp j s) k) (b := 1) (by omega), show (2 : Int32) = nI 2 from rfl, pk_div (by omega) (by omega) (by omega)]
        refine pk_lt ((cntN (selB sp j s) k - 1) / 2) (cntN (selB sp j s) k - cntN (fun i => selB sp j s i && decide (v < rep i)) k) (fun q5 => ?_) (fun q5 => ?_) e1 (pk_sub hg)
        · rw [if_neg (by simp [prB]; omega)] at h; exact h
        · rw [if_pos (by simp [prB]; omega)] at h; exact h
      · have nxt : ∀ (b : Nat) (x v7 : Int32), (if (selB sp j s k && decide (v < rep k)) = true then 1 else 0) = b → x = nI (cntN (fun i => selB sp j s i && decide (v < rep i)) k) + nI b → v7 = nI k + 1 → wp_X6_prunes_68 E2 Q (nI j) (nI s) v (nI (cntN (selB sp j s) i)) A B m2 x v7 := by
          intro b x v7 hb hx h7
          rw [nI_1] at h7
          refine ih2 _ _ ⟨k + 1, by omega, h7, ?_⟩ (by rw [h7, ek, nI_clamp (by omega)]; omega)
          rw [hx, nI_add]
          simp only [cntN]
          rw [hb]
        refine pk_eq k j (fun q5 x e v7 e7 => nxt 0 x v7 (by simp [selB, q5]) e e7) (fun q5 => ⟨pk_in k 60 (by omega), ?_⟩)
        rw [ek, (h37 k (by omega) q5).2]
        have hsp := (h37 k (by omega) q5).1
        refine pk_le (sp k) s (fun q6 x e v7 e7 => nxt 0 x v7 (by simp [selB]; omega) e e7) (fun q6 x23 e23 => ?_)
        rw [show (20 : Int32) = nI 20 from rfl, pk_mul, nI_add] at e23
        subst e23
        have hsel : selB sp j s k = true := by simp [selB, q5]; omega
        refine ⟨pk_in (20 * k + s) 1200 (by omega), ?_⟩
        rw [nI_clamp (by omega), h38 k (by omega) q5 q6]
        refine ⟨fun z x e v7 e7 => nxt 0 x v7 ?_ e e7, fun z x e v7 e7 => nxt 1 x v7 ?_ e e7⟩
        · have : ¬ v < rep k := Int32.not_lt.mpr z
          simp [this]
        · have : v < rep k := Int32.not_le.mp z
          simp [hsel, this]
    · rw [if_neg (by simp [prB]; omega)] at h; exact h
  · have nxt : ∀ (b : Nat) (x v6 : Int32), (if selB sp j s i = true then 1 else 0) = b → x = nI (cntN (selB sp j s) i) + nI b → v6 = nI i + 1 → wp_X6_prunes_6 E Q (nI j) (nI s) v (nI mm) A B m x v6 := by
      intro b x v6 hb hx h6
      rw [nI_1] at h6
      refine ih _ _ ⟨i + 1, by omega, h6, ?_⟩ (by rw [h6, ei, nI_clamp (by omega)]; omega)
      rw [hx, nI_add]
      simp only [cntN]
      rw [hb]
    refine pk_eq i j (fun q5 x e v7 e7 => nxt 0 x v7 (by simp [selB, q5]) e e7) (fun q5 => ⟨pk_in i 60 (by omega), ?_⟩)
    rw [ei, (h37 i q q5).2]
    have hsp := (h37 i q q5).1
    exact pk_le (sp i) s (fun q6 x e v7 e7 => nxt 0 x v7 (by simp [selB]; omega) e e7) (fun q6 x e v7 e7 => nxt 1 x v7 (by simp [selB, q5]; omega) e e7)
theorem rep_inv (hi : InvW n M P S W t pt st sp A B) {j : Nat} (hj : j < t) (hst : st j = 0) (hs20 : sp j < 20) {v : Int32} {b : Bool} {A2 : SA} (h14 : ∀ i, A2 14 i = if i = j ∧ b = true then 3 else A 14 i) (h35 : ∀ i, A2 35 i = if i = j ∧ b = true then 3 else A 35 i)
    (h16 : A2 16 = upd (A 16) j (nI (sp j + 1))) (h37 : A2 37 = upd (A 37) j (nI (sp j + 1))) (hrow : A2 (56 + j) = upd (A (56 + j)) (sp j) v) (h38 : A2 38 = upd (A 38) (20 * j + sp j) v) (h5 : ∀ k, k ≠ 13 → A2 5 k = A 5 k)
    (hr : ∀ k, (k ≠ 5 ∧ k ≠ 6 ∧ k ≠ 7 ∧ k ≠ 19 ∧ k ≠ 20 ∧ k ≠ 21 ∧ k ≠ 33 ∧ k ≠ 39 ∧ k ≠ 40) → k ≠ 14 → k ≠ 35 → k ≠ 16 → k ≠ 37 → k ≠ 38 → k ≠ 56 + j → A2 k = A k) : Inv A2 B := by
  obtain ⟨h1, hT, ⟨sd, hR⟩, rows, outer, inner, pl, hF⟩ := hi
  obtain ⟨g1, g2, g3, g4, g5, g6, g7, g8, g9, g10, g11⟩ := hT
  refine ⟨n, M, P, S, W, t, pt, fun i => if i = j ∧ b = true then 3 else st i, fun i => if i = j then sp j + 1 else sp i, ?_, ?_, ⟨sd, ?_⟩, rows, outer, inner, pl, ?_⟩
  · exact h1.fr (hr 1 (by decide) (by decide) (by decide) (by decide) (by decide) (by decide) (by omega)) (hr 8 (by decide) (by decide) (by decide) (by decide) (by decide) (by decide) (by omega)) (hr 9 (by decide) (by decide) (by decide) (by decide) (by decide) (by decide) (by omega)) (hr 10 (by decide) (by decide) (by decide) (by decide) (by decide) (by decide) (by omega)) (h5 0 (by decide)) (hr 29 (by decide) (by decide) (by decide) (by decide) (by decide) (by decide) (by omega)) (hr 30 (by decide) (by decide) (by decide) (by decide) (by decide) (by decide) (by omega)) (hr 31 (by decide) (by decide) (by decide) (by decide) (by decide) (by decide) (by omega)) rfl rfl rfl (fun _ _ => rfl)
  · refine ⟨g1, by rw [hr 2 (by decide) (by decide) (by decide) (by decide) (by decide) (by decide) (by omega)]; exact g2, by rw [h5 6 (by decide)]; exact g3, ?_, g5, fun i hi => ?_, fun i hi => ?_, fun i ha hb => ?_, fun i hi => ?_, fun i s hi hs => ?_, fun i hi => ?_⟩
    · rw [hr 2 (by decide) (by decide) (by decide) (by decide) (by decide) (by decide) (by omega), g4]
      congr 1
      refine cntN_congr (fun i hi => ?_)
      by_cases h : i = j
      · subst h
        cases b <;> simp [hst]
      · simp [h]
    · rw [h14, h35]
      by_cases h : i = j ∧ b = true
      · have e : (fun i => if i = j ∧ b = true then 3 else st i) i = 3 := if_pos h
        rw [if_pos h, if_pos h, e]; exact ⟨by decide, rfl, rfl⟩
      · have e : (fun i => if i = j ∧ b = true then 3 else st i) i = st i := if_neg h
        rw [if_neg h, if_neg h, e]; exact g6 i hi
    · rw [hr 15 (by decide) (by decide) (by decide) (by decide) (by decide) (by decide) (by omega), hr 36 (by decide) (by decide) (by decide) (by decide) (by decide) (by decide) (by omega)]
      have gi := g7 i hi
      refine ⟨gi.1, gi.2.1, gi.2.2.1, fun z => ?_⟩
      by_cases h : i = j ∧ b = true
      · simp [h] at z
      · simp only [h, if_false] at z; exact gi.2.2.2 z
    · rw [hr 15 (by decide) (by decide) (by decide) (by decide) (by decide) (by decide) (by omega), h16]
      simp only [upd, show i ≠ j by omega, if_false]
      exact g8 i ha hb
    · rw [h16, h37]
      by_cases h : i = j
      · subst h; simp only [upd, if_true]; exact ⟨by omega, trivial, trivial⟩
      · simp only [upd, h, if_false]; exact g9 i hi
    · rw [h38]
      by_cases h : i = j
      · subst h
        simp only [if_true] at hs
        rw [hrow]
        by_cases hsp : s = sp i
        · subst hsp; simp [upd]
        · simp only [upd, hsp, if_false, show 20 * i + s ≠ 20 * i + sp i by omega]
          exact g10 i s hi (by omega)
      · simp only [h, if_false] at hs
        have := (g9 i hi).1
        rw [hr (56 + i) (by omega) (by omega) (by omega) (by omega) (by omega) (by omega) (by omega)]
        simp only [upd, show 20 * i + s ≠ 20 * j + sp j by omega, if_false]
        exact g10 i s hi hs
    · rw [hr (116 + i) (by omega) (by omega) (by omega) (by omega) (by omega) (by omega) (by omega)]; exact g11 i hi
  · exact hR.fr (hr 3 (by decide) (by decide) (by decide) (by decide) (by decide) (by decide) (by omega)) (hr 22 (by decide) (by decide) (by decide) (by decide) (by decide) (by decide) (by omega)) (hr 23 (by decide) (by decide) (by decide) (by decide) (by decide) (by decide) (by omega)) (hr 41 (by decide) (by decide) (by decide) (by decide) (by decide) (by decide) (by omega)) (hr 42 (by decide) (by decide) (by decide) (by decide) (by decide) (by decide) (by omega)) (hr 43 (by decide) (by decide) (by decide) (by decide) (by decide) (by decide) (by omega)) (hr 44 (by decide) (by decide) (by decide) (by decide) (by decide) (by decide) (by omega)) (h5 15 (by decide)) (h5 20 (by decide)) (h5 21 (by decide)) (h5 22 (by decide)) (h5 23 (by decide)) rfl rfl
  · exact hF.fr (hr 4 (by decide) (by decide) (by decide) (by decide) (by decide) (by decide) (by omega)) (h5 25 (by decide)) (h5 26 (by decide)) (h5 27 (by decide)) (hr 24 (by decide) (by decide) (by decide) (by decide) (by decide) (by decide) (by omega)) (hr 25 (by decide) (by decide) (by decide) (by decide) (by decide) (by decide) (by omega)) (hr 26 (by decide) (by decide) (by decide) (by decide) (by decide) (by decide) (by omega)) (hr 45 (by decide) (by decide) (by decide) (by decide) (by decide) (by decide) (by omega)) (hr 46 (by decide) (by decide) (by decide) (by decide) (by decide) (by decide) (by omega)) (hr 47 (by decide) (by decide) (by decide) (by decide) (by decide) (by decide) (by omega)) (fun o _ => hr (176 + o) (by omega) (by omega) (by omega) (by omega) (by omega) (by omega) (by omega))
theorem m_report0 {a0 a1 a2 : Int32} (ht : t ≤ 60) (e56 : A 5 6 = nI t) {Q : Int32 → SA → Prop} (hc : ¬ ((∃ j, j < t ∧ a0 = nI j) ∧ ((-1000000 : Int64) ≤ a1.toInt64 ∧ a1.toInt64 ≤ 1000000) ∧ ((0 : Int64) ≤ a2.toInt64 ∧ a2.toInt64 ≤ 60))) (h : Q (-1) A) : wp_X6_report a0 a1 a2 A B Q :=
  w6_noTrial e56 ht (fun j hj e => bn_t rfl (w6_isScore (fun y => br_f (by decide) (w_in (fun a b => absurd ⟨⟨j, hj, e⟩, y, a, b⟩ hc) (fun _ => bn_t rfl h))) (fun _ => br_t rfl h))) (fun _ => bn_f (by decide) h)
theorem m_report {j : Nat} {a1 a2 : Int32} (ht : t ≤ 60) (hj : j < t) (e56 : A 5 6 = nI t) (c1 : (-1000000 : Int64) ≤ a1.toInt64 ∧ a1.toInt64 ≤ 1000000) (c2 : (0 : Int64) ≤ a2.toInt64 ∧ a2.toInt64 ≤ 60) {Q : Int32 → SA → Prop} {sj : Nat} (hsj : sj ≤ 20) (e37 : A 37 j = nI sj)
    (h3 : ¬ A 35 j = 0 → Q (-3) A) (h4 : A 35 j = 0 → sj = 20 → Q (-4) A) (h : A 35 j = 0 → sj < 20 → wp_X6_prunes (nI j) (nI sj) a1 a2 (u2 (u2 A 37 j (nI (sj + 1))) 38 (20 * j + sj) a1) B (fun r => ((¬ r = 0 → vp_in (nI j) 60 ∧ Q ((-10 : Int32) - nI sj) (u2 (u2 (u2 A 37 j (nI (sj + 1))) 38 (20 * j + sj) a1) 35 j 3)) ∧ (r = 0 → Q (nI sj) (u2 (u2 A 37 j (nI (sj + 1))) 38 (20 * j + sj) a1))))) : wp_X6_report (nI j) a1 a2 A B Q := by
  have ej : (nI j).toNatClampNeg = j := nI_clamp (by omega)
  have hin := pk_in (x := nI j) j 60 (by omega)
  have e20 : (20 : Int32) = nI 20 := rfl
  refine w6_noTrial e56 ht (fun _ _ _ => bn_t rfl (w6_isScore (fun _ => br_f (by decide) (w_in (fun _ _ => bn_f (by decide) ⟨hin, ?_⟩) (fun y => absurd c2 y))) (fun y => absurd c1 y))) (fun z => absurd ⟨j, hj, rfl⟩ z)
  rw [ej]
  refine ⟨fun y => ⟨hin, ?_⟩, h3⟩
  rw [e37]
  refine pk_ne sj 20 (fun q => ⟨hin, fun x18 e18 => ⟨hin, fun x20 e20' => ?_⟩⟩) (fun q => h4 y q)
  rw [nI_1] at e18
  subst e18
  subst e20'
  rw [e20, pk_mul, nI_add]
  refine ⟨pk_in (20 * j + sj) 1200 (by omega), ?_⟩
  rw [nI_clamp (by omega)]
  exact h y (by omega)
theorem st_report (h : Inv A B) {a0 a1 a2 : Int32} {K : Int32 → Int32 → SA → Prop} (hK : ∀ r A2, Inv A2 B → K r r A2) : wp_X5_report a0 a1 a2 A B (fun r A1 => wp_X6_report a0 a1 a2 A1 B (fun r2 A2 => K r r2 A2)) := by
  obtain ⟨n, M, P, S, W, t, pt, st, sp, hi⟩ := h
  obtain ⟨g1, g2, g3, g4, g5, g6, g7, g8, g9, g10, g11⟩ := hi.2.1
  have e0 : (0 : Int32) = nI 0 := rfl
  refine w_isTrial g2 g1 (fun j hj e => br_f (by decide) ?_) (fun z => br_t rfl (m_report0 g1 g3 (fun y => z y.1) (hK _ _ hi.inv)))
  refine w_isMark (fun hm => br_f (by decide) ?_) (fun hm => br_t rfl (m_report0 g1 g3 (fun y => hm (fun _ => y.2.1)) (hK _ _ hi.inv)))
  have c1 := hm (by decide)
  refine w_within (fun a b => bn_f (by decide) ?_) (fun z => bn_t rfl (m_report0 g1 g3 (fun y => z y.2.2) (hK _ _ hi.inv)))
  subst e
  have c2 : (0 : Int64) ≤ a2.toInt64 ∧ a2.toInt64 ≤ 60 := ⟨a, b⟩
  have c2' := rgI.mp c2
  have l60 : (60 : Int64).toInt = 60 := rfl
  have l0 : (0 : Int64).toInt = 0 := rfl
  rw [l0, l60] at c2'
  obtain ⟨mm, hmm, em, -⟩ := nI_ex (x := a2) c2'.1
  have ej : (nI j).toNatClampNeg = j := nI_clamp (by omega)
  have hin := pk_in (x := nI j) j 60 (by omega)
  have gj := g6 j hj
  have sj := g9 j hj
  refine ⟨hin, ?_⟩
  rw [ej, gj.2.1]
  refine pk_eq (st j) 0 (fun q => ⟨hin, ?_⟩) (fun q => ?_)
  · have h350 : ∀ A1 : SA, A1 35 = A 35 → A1 35 j = 0 := fun A1 e => by rw [e, gj.2.2, q]; rfl
    rw [sj.2.1]
    refine pk_le 20 (sp j) (fun q2 => ?_) (fun q2 => ?_)
    · exact m_report g1 hj g3 c1 c2 sj.1 sj.2.2 (fun z => absurd (h350 A rfl) z) (fun _ _ => hK _ _ hi.inv) (fun _ z => by omega)
    · -- both sides, from the row of others on
      have es : (nI (sp j)).toNatClampNeg = sp j := nI_clamp (by omega)
      have pin : prB t sp (fun i => A (56 + i) (sp j)) j (sp j) mm a1 = decide (1 ≤ mm ∧ mm ≤ cntN (selB sp j (sp j)) t ∧ cntN (selB sp j (sp j)) t - cntN (fun i => selB sp j (sp j) i && decide (a1 < A (56 + i) (sp j))) t ≤ (cntN (selB sp j (sp j)) t - 1) / 2) := rfl
      have mod : ∀ (b : Bool) (r : Int32) (A1 : SA), prB t sp (fun i => A (56 + i) (sp j)) j (sp j) mm a1 = b → r = (if b = true then (-10 : Int32) - nI (sp j) else nI (sp j)) → (∀ i, A1 14 i = if i = j ∧ b = true then 3 else A 14 i) → A1 16 = upd (A 16) j (nI (sp j + 1)) → A1 (56 + j) = upd (A (56 + j)) (sp j) a1 → (∀ k, k ≠ 21 → k ≠ 14 → k ≠ 16 → k ≠ 56 + j → A1 k = A k) → wp_X6_report (nI j) a1 a2 A1 B (fun r2 A2 => K r r2 A2) := by
        intro b r A1 hb hr k14 k16 krow kr
        have k5 : A1 5 = A 5 := kr 5 (by decide) (by decide) (by decide) (by omega)
        have k35 : A1 35 = A 35 := kr 35 (by decide) (by decide) (by decide) (by omega)
        have k37 : A1 37 = A 37 := kr 37 (by decide) (by decide) (by decide) (by omega)
        have k38 : A1 38 = A 38 := kr 38 (by decide) (by decide) (by decide) (by omega)
        refine m_report g1 hj (by rw [k5]; exact g3) c1 c2 sj.1 (by rw [k37]; exact sj.2.2) (fun z => absurd (h350 A1 k35) z) (fun _ z => by omega) (fun _ _ => ?_)
        rw [em]
        refine w6_prunes (sp := sp) (rep := fun i => A (56 + i) (sp j)) g1 hj q2 (by omega) (by rw [u2_kn (by decide), u2_kn (by decide), k5]; exact g3) (fun i hi hij => ?_) (fun i hi hij hs => ?_) ?_
        · rw [u2_kn (by decide), u2_ne hij, k37]
          exact ⟨(g9 i hi).1, (g9 i hi).2.2⟩
        · rw [u2_ne (by omega), u2_kn (by decide), k38]
          exact (g10 i (sp j) hi hs).symm
        · rw [hb]
          cases b with
          | true =>
            rw [if_pos rfl] at hr ⊢
            rw [hr]
            refine bn_f (by decide) ⟨hin, hK _ _ ?_⟩
            refine rep_inv hi hj q q2 (v := a1) (b := true) (fun i => ?_) (fun i => ?_) ?_ ?_ ?_ ?_ (fun k hk => ?_) (fun k a b c d e f g => ?_)
            · rw [u2_kn (by decide), u2_kn (by decide), u2_kn (by decide)]; exact k14 i
            · rw [u2_kk, u2_kn (by decide), u2_kn (by decide), k35]
              by_cases h : i = j
              · subst h; simp [upd]
              · simp [upd, h]
            · rw [u2_kn (by decide), u2_kn (by decide), u2_kn (by decide)]; exact k16
            · rw [u2_kn (by decide), u2_kn (by decide), u2_kk, k37]
            · rw [u2_kn (by omega), u2_kn (by omega), u2_kn (by omega)]; exact krow
            · rw [u2_kn (by decide), u2_kk, u2_kn (by decide), k38]
            · rw [u2_kn (by decide), u2_kn (by decide), u2_kn (by decide), k5]
            · rw [u2_kn c, u2_kn f, u2_kn e]; exact kr k a.2.2.2.2.2.1 b d g
          | false =>
            rw [if_neg (by decide)] at hr ⊢
            rw [hr]
            refine bn_t rfl (hK _ _ ?_)
            refine rep_inv hi hj q q2 (v := a1) (b := false) (fun i => ?_) (fun i => ?_) ?_ ?_ ?_ ?_ (fun k hk => ?_) (fun k a b c d e f g => ?_)
            · rw [u2_kn (by decide), u2_kn (by decide)]; exact k14 i
            · rw [u2_kn (by decide), u2_kn (by decide), k35]; simp
            · rw [u2_kn (by decide), u2_kn (by decide)]; exact k16
            · rw [u2_kn (by decide), u2_kk, k37]
            · rw [u2_kn (by omega), u2_kn (by omega)]; exact krow
            · rw [u2_kk, u2_kn (by decide), k38]
            · rw [u2_kn (by decide), u2_kn (by decide), k5]
            · rw [u2_kn f, u2_kn e]; exact kr k a.2.2.2.2.2.1 b d g
      have e16 : ∀ A0 : SA, A0 16 = A 16 → (u2 A0 (56 + j) (sp j) a1) 16 j + (1 : Int32) = nI (sp j + 1) := fun A0 e => by rw [u2_kn (by omega), e, sj.2.1, nI_1]
      refine ⟨hin, fun x2 e2 => ?_⟩
      rw [ej, sj.2.1] at e2
      subst e2
      rw [ej, es]
      refine ⟨fun z => ⟨hin, pk_in (sp j) 20 q2, hin, fun x7 e7 => ⟨hin, ?_⟩⟩, fun z => ?_⟩
      · have hm0 : mm = 0 := by rw [em, e0, nI_leI (by omega) (by omega)] at z; omega
        rw [e16 A rfl] at e7
        subst e7
        refine mod false _ _ (by rw [pin]; simp; omega) rfl (fun i => ?_) ?_ ?_ (fun k a b c d => ?_)
        · rw [u2_kn (by decide), u2_kn (by omega)]; simp
        · rw [u2_kk, u2_kn (by omega)]
        · rw [u2_kn (by omega), u2_kk]
        · rw [u2_kn c, u2_kn d]
      · have hm1 : 1 ≤ mm := by
          rw [em, e0, nI_leI (by omega) (by omega)] at z; omega
        refine w_below (sp := sp) (mm := mm) g1 hj q2 g2 (fun i hi => ⟨(g9 i hi).1, (g9 i hi).2.1⟩) hm1 em (by omega) (fun g => ?_)
        have k16' : (va_up A 21 g) 16 = A 16 := va_up_ne _ _ (by decide)
        by_cases hp : mm ≤ cntN (selB sp j (sp j)) t ∧ cntN (selB sp j (sp j)) t - cntN (fun i => selB sp j (sp j) i && decide (a1 < A (56 + i) (sp j))) t ≤ (cntN (selB sp j (sp j)) t - 1) / 2
        · rw [if_pos hp]
          refine br_f (by decide) ⟨hin, pk_in (sp j) 20 q2, hin, fun x7 e7 => ⟨hin, hin, ?_⟩⟩
          rw [e16 _ k16'] at e7
          subst e7
          refine mod true _ _ (by rw [pin]; exact decide_eq_true ⟨hm1, hp⟩) rfl (fun i => ?_) ?_ ?_ (fun k a b c d => ?_)
          · rw [u2_kk, u2_kn (by decide), u2_kn (by omega), va_up_ne _ _ (by decide)]
            by_cases h : i = j
            · subst h; simp [upd]
            · simp [upd, h]
          · rw [u2_kn (by decide), u2_kk, u2_kn (by omega), k16']
          · rw [u2_kn (by omega), u2_kn (by omega), u2_kk, va_up_ne _ _ (by omega)]
          · rw [u2_kn b, u2_kn c, u2_kn d, va_up_ne _ _ a]
        · rw [if_neg hp]
          refine br_t rfl ⟨hin, pk_in (sp j) 20 q2, hin, fun x7 e7 => ⟨hin, ?_⟩⟩
          rw [e16 _ k16'] at e7
          subst e7
          refine mod false _ _ (by rw [pin]; exact decide_eq_false (fun y => hp y.2)) rfl (fun i => ?_) ?_ ?_ (fun k a b c d => ?_)
          · rw [u2_kn (by decide), u2_kn (by omega), va_up_ne _ _ (by decide)]; simp
          · rw [u2_kk, u2_kn (by omega), k16']
          · rw [u2_kn (by omega), u2_kk, va_up_ne _ _ (by omega)]
          · rw [u2_kn c, u2_kn d, va_up_ne _ _ a]
  · exact m_report g1 hj g3 c1 c2 sj.1 sj.2.2 (fun _ => hK _ _ hi.inv) (fun z => by rw [gj.2.2, e0, nI_eq (by omega) (by omega)] at z; exact absurd z q) (fun z => by rw [gj.2.2, e0, nI_eq (by omega) (by omega)] at z; exact absurd z q)
end RQ
