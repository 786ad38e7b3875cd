/-! step: forecast -/
section FC
variable {A : SA} {B : SB}
theorem w_cd {a b : Nat} (ha : a ≤ 5000000) (hb1 : 1 ≤ b) (hb5 : b ≤ 5) {Q : Int64 → Prop} (h : Q (lN (Nat.gcd b a))) : wp_X5_commonDivisor (lN a) (lN b) A B Q := by
  have e0 : (0 : Int64) = lN 0 := rfl
  refine lp3 (wp_X5_commonDivisor_9 (fun v => Q v) Q A B) (fun v4 v6 v8 => ∃ x y i : Nat, v4 = lN x ∧ v6 = lN y ∧ v8 = nI i ∧ Nat.gcd x y = Nat.gcd b a ∧ x ≤ 5000000 ∧ y ≤ 5000000 ∧ i ≤ 7 ∧ ((i = 0 ∧ x = b ∧ y = a) ∨ (1 ≤ i ∧ y + i ≤ 6))) (fun _ _ v8 => 200 - v8.toNatClampNeg) ?_ _ _ _ ⟨b, a, 0, rfl, rfl, nI_0.symm, rfl, by omega, ha, by omega, Or.inl ⟨rfl, rfl, rfl⟩⟩
  rintro m v4 v6 v8 ⟨x, y, i, rfl, rfl, rfl, hg, hx, hy, hi7, hc⟩ ih
  have ei : (nI i).toNatClampNeg = i := nI_clamp (by omega)
  refine br_f (nI_ge (a := i) (b := 128) (by omega) (by omega)) ?_
  refine pj_le y 0 (fun q => ?_) (fun q => ?_) rfl e0 (by omega) (by omega)
  · have hy0 : y = 0 := by omega
    subst hy0
    rw [Nat.gcd_zero_right] at hg
    rw [hg]
    exact h
  · refine w_rest (by omega) (by omega) q (fun v8 e8 => ?_)
    rw [nI_1] at e8
    have hlt := Nat.mod_lt x q
    have hle := Nat.mod_le x y
    refine ih _ _ _ ⟨y, x % y, i + 1, rfl, rfl, e8, ?_, hy, by omega, by omega, Or.inr ⟨by omega, ?_⟩⟩ (by rw [e8, ei, nI_clamp (by omega)]; omega)
    · rw [← hg, Nat.gcd_comm y (x % y), ← Nat.gcd_rec y x, Nat.gcd_comm]
    · rcases hc with ⟨h1, h2, h3⟩ | ⟨h1, h2⟩
      · omega
      · omega
theorem w6_cd {E Q : Int64 → Prop} {a b : Nat} (ha : a ≤ 5000000) (hb : b ≤ 5000000) (h : E (lN (Nat.gcd a b))) : ∃ n, wp_X6_divisor_17 E Q A B n (lN a) (lN b) := by
  have e0 : (0 : Int64) = lN 0 := rfl
  refine lp2 (wp_X6_divisor_17 E Q A B) (fun v4 v6 => ∃ x y : Nat, v4 = lN x ∧ v6 = lN y ∧ Nat.gcd x y = Nat.gcd a b ∧ x ≤ 5000000 ∧ y ≤ 5000000) (fun _ v6 => v6.toInt.toNat) ?_ _ _ ⟨a, b, rfl, rfl, rfl, ha, hb⟩
  rintro m v4 v6 ⟨x, y, rfl, rfl, hg, hx, hy⟩ ih
  by_cases hy0 : y = 0
  · subst hy0
    rw [Nat.gcd_zero_right] at hg
    rw [hg]
    exact br_t rfl h
  · have hne : ¬ lN y = 0 := by rw [e0, pk_lEQ (by omega) (by omega)]; exact hy0
    refine br_f hne ⟨hne, fun x4 e4 => ?_⟩
    rw [pk_lRem (by omega) (by omega) (by omega)] at e4
    have hlt := Nat.mod_lt x (show 0 < y by omega)
    refine ih _ _ ⟨y, x % y, rfl, e4, ?_, hy, by omega⟩ ?_
    · rw [← hg, Nat.gcd_comm y (x % y), ← Nat.gcd_rec y x, Nat.gcd_comm]
    · rw [e4, pk_lT (by omega), pk_lT (by omega)]; omega
theorem i64_abs {v : Int64} (h1 : -5000000 ≤ v.toInt) (h2 : v.toInt ≤ 5000000) : ∃ a : Nat, a ≤ 5000000 ∧ (if 0 < v then v else -v) = lN a ∧ ((0 : Int64) ≤ v → v = lN a) ∧ (¬ (0 : Int64) ≤ v → -v = lN a) := by
  have e0 : (0 : Int64).toInt = 0 := rfl
  have hneg : (-v).toInt = -v.toInt := by
    rw [Int64.toInt_neg]
    unfold Int.bmod
    dsimp only
    split <;> omega
  by_cases hp : 0 ≤ v.toInt
  · have ev : v = lN v.toInt.toNat := Int64.toInt_inj.mp (by rw [pk_lT (by omega)]; omega)
    refine ⟨v.toInt.toNat, by omega, ?_, fun _ => ev, fun z => absurd (Int64.le_iff_toInt_le.mpr (by rw [e0]; exact hp)) z⟩
    by_cases hz : v.toInt = 0
    · have hv0 : v = 0 := Int64.toInt_inj.mp (by rw [hz]; rfl)
      subst hv0
      decide +kernel
    · rw [if_pos (Int64.lt_iff_toInt_lt.mpr (by rw [e0]; omega))]; exact ev
  · have ev : -v = lN (-v.toInt).toNat := Int64.toInt_inj.mp (by rw [pk_lT (by omega), hneg]; omega)
    refine ⟨(-v.toInt).toNat, by omega, ?_, fun z => absurd (Int64.le_iff_toInt_le.mp z) (by rw [e0]; exact hp), fun _ => ev⟩
    rw [if_neg (fun z => by have := Int64.lt_iff_toInt_lt.mp z; rw [e0] at this; omega)]; exact ev
theorem m_fc0 {n : Nat} {M : Nat → Nat} {P : Nat → Option Nat} {S : Nat → Nat → Bool} {W : Nat → Nat} (hS : ISp n M P S W A B) {x : Int64} {a1 a2 : Int32} {Q : Int64 → SA → Prop} (hc : ¬ ((∃ p, p < allN n P W ∧ x = lN p) ∧ ((1 : Int64) ≤ a1.toInt64 ∧ a1.toInt64 ≤ 5) ∧ ((0 : Int64) ≤ a2.toInt64 ∧ a2.toInt64 ≤ 1))) (h : Q (-1000000000000000001) A) : wp_X6_forecast x a1 a2 A B Q :=
  w6_noPoint hS (fun p e hp => bn_t rfl (w_in (fun a b => br_f (by decide) (w_in (fun c d => absurd ⟨⟨p, hp, e⟩, ⟨a, b⟩, c, d⟩ hc) (fun _ => bn_t rfl h))) (fun _ => br_t rfl h))) (fun _ => bn_f (by decide) h)
theorem st_forecast (h : Inv A B) {x : Int64} {a1 a2 : Int32} {K : Int64 → Int64 → SA → Prop} (hK : ∀ r A2, Inv A2 B → K r r A2) : wp_X5_forecast x a1 a2 A B (fun r A1 => wp_X6_forecast x a1 a2 A1 B (fun r2 A2 => K r r2 A2)) := by
  obtain ⟨n, M, P, S, W, t, pt, st, sp, hi⟩ := h
  have h1 := hi.1
  have hbd := all_bd h1.1 h1.2.1
  obtain ⟨vv, ll, hvv⟩ := tr_vv hi.2.1
  obtain ⟨g1, g2, g3, g4, g5, g6, g7, g8, g9, g10, g11⟩ := hi.2.1
  have l1 : (1 : Int64).toInt = 1 := rfl
  have l5 : (5 : Int64).toInt = 5 := rfl
  have e00 : (0 : Int32) = nI 0 := rfl
  have e0L : (0 : Int64) = lN 0 := rfl
  refine w_isPoint h1 (fun p hx hp => br_f (by decide) ?_) (fun z => br_t rfl (m_fc0 h1 (fun y => by obtain ⟨⟨p, hp, e⟩, -⟩ := y; exact isP_no hbd.1 hbd.2 hp e z) (hK _ _ hi.inv)))
  refine w_within (fun a b => br_f (by decide) ?_) (fun z => br_t rfl (m_fc0 h1 (fun y => z y.2.1) (hK _ _ hi.inv)))
  refine w_within (fun a' b' => bn_f (by decide) ?_) (fun z => bn_t rfl (m_fc0 h1 (fun y => z y.2.2) (hK _ _ hi.inv)))
  have c2' := rgI.mp ⟨a, b⟩
  rw [l1, l5] at c2'
  obtain ⟨k, hk, ek, -⟩ := nI_ex (x := a1) (by omega)
  have hk1 : 1 ≤ k := by omega
  have hk5 : k ≤ 5 := by omega
  obtain ⟨v, hn1, hn2, hb1, hb2⟩ := near_ex (st := st) h1.1 h1.2.1 g1 (fun i hi => (hvv i hi).1) (s := A 15) (fun i hi => ⟨(g7 i hi).2.1, (g7 i hi).2.2.1⟩) hk1 hk5 hp
  subst hx
  -- the reference, at cells that differ in what a call has in hand
  have mm : ∀ (r : Int64) (A1 : SA), Scr A A1 → (∀ A2, Scr A A2 → A2 5 13 = nI (min k (cntN (fun i => decide (st i = 1)) t)) → ((¬ (A2 5 13) = 0 → wp_X6_divisor v (A2 5 13).toInt64 A2 B (fun r_17 => ((¬ a2 = 0 → (¬ r_17 = 0) ∧ K r ((A2 5 13).toInt64 / r_17) A2) ∧ (a2 = 0 → (¬ r_17 = 0) ∧ K r (v / r_17) A2)))) ∧ ((A2 5 13) = 0 → K r (-1000000000000000002) A2))) → wp_X6_forecast (lN p) a1 a2 A1 B (fun r2 A2 => K r r2 A2) := by
    intro r A1 hsc hQ
    have hS' := h1.scr hsc
    refine w6_noPoint hS' (fun p' e' hp' => bn_t rfl ?_) (fun z => (isP_no hbd.1 hbd.2 hp rfl z).elim)
    refine w_in (fun _ _ => br_f (by decide) (w_in (fun _ _ => bn_f (by decide) ?_) (fun y => absurd ⟨a', b'⟩ y))) (fun y => absurd ⟨a, b⟩ y)
    rw [ek]
    refine hn2 A1 B _ hS' (by rw [hsc.2 6 (by decide)]; exact g3) (fun i hi => by rw [hsc.at (by decide)]; exact ⟨(g6 i hi).1, (g6 i hi).2.2⟩) (fun i hi => (g5 i hi).2.2) (fun i hi => by rw [hsc.at (by decide)]; exact (g7 i hi).1.symm) (fun A2 hsc2 h13 => hQ A2 (hsc.tr hsc2) h13)
  have hcle := cntN_le (fun i => decide (st i = 1)) t
  rw [g4]
  refine pk_ne (cntN (fun i => decide (st i = 1)) t) 0 (fun q => ?_) (fun q => ?_)
  · rw [ek]
    refine hn1 A B _ h1 g2 (fun i hi => ⟨(g6 i hi).1, (g6 i hi).2.1⟩) (fun i hi => (hvv i hi).2) (fun i hi => rfl) (fun A1 hsc x17 e17 => ?_)
    have e21 : A1 2 1 = nI (cntN (fun i => decide (st i = 1)) t) := by rw [hsc.at (by decide)]; exact g4
    have e17' : x17 = lN (min k (cntN (fun i => decide (st i = 1)) t)) := by
      rw [e17, e21]
      by_cases z : cntN (fun i => decide (st i = 1)) t < k
      · rw [if_pos ((nI_ltI (by omega) (by omega)).mpr z), nI_l (by omega)]; congr 1; omega
      · rw [if_neg (fun y => z ((nI_ltI (by omega) (by omega)).mp y)), nI_l (by omega)]; congr 1; omega
    subst e17'
    obtain ⟨aa, haa, eab, epos, eneg⟩ := i64_abs hb1 hb2
    rw [eab]
    refine w_cd haa (by omega) (by omega) ?_
    have hgpos : 0 < Nat.gcd (min k (cntN (fun i => decide (st i = 1)) t)) aa := Nat.gcd_pos_of_pos_left _ (by omega)
    have hgle : Nat.gcd (min k (cntN (fun i => decide (st i = 1)) t)) aa ≤ 5 := Nat.le_trans (Nat.gcd_le_left _ (by omega)) (by omega)
    have hgn : ¬ lN (Nat.gcd (min k (cntN (fun i => decide (st i = 1)) t)) aa) = 0 := by rw [e0L, pk_lEQ (by omega) (by omega)]; omega
    have hgn' : ¬ lN (Nat.gcd (min k (cntN (fun i => decide (st i = 1)) t)) aa) ≤ 0 := by rw [e0L, pk_lLE (by omega) (by omega)]; omega
    -- both sides come to the same divisor
    have fin : ∀ (r : Int64), (∀ A2, Scr A A2 → A2 5 13 = nI (min k (cntN (fun i => decide (st i = 1)) t)) → ((¬ a2 = 0 → K r (lN (min k (cntN (fun i => decide (st i = 1)) t)) / lN (Nat.gcd (min k (cntN (fun i => decide (st i = 1)) t)) aa)) A2) ∧ (a2 = 0 → K r (v / lN (Nat.gcd (min k (cntN (fun i => decide (st i = 1)) t)) aa)) A2))) → wp_X6_forecast (lN p) (nI k) a2 A1 B (fun r2 A2 => K r r2 A2) := by
      intro r hr
      rw [← ek]
      refine mm r A1 hsc (fun A2 hsc2 h13 => ?_)
      rw [h13]
      have hne : ¬ nI (min k (cntN (fun i => decide (st i = 1)) t)) = 0 := nI_ne0 (by omega) (by omega)
      refine bn_f hne ?_
      rw [nI_l (by omega)]
      have hh := hr A2 hsc2 h13
      have last : ((¬ a2 = 0 → (¬ lN (Nat.gcd aa (min k (cntN (fun i => decide (st i = 1)) t))) = 0) ∧ K r (lN (min k (cntN (fun i => decide (st i = 1)) t)) / lN (Nat.gcd aa (min k (cntN (fun i => decide (st i = 1)) t)))) A2) ∧ (a2 = 0 → (¬ lN (Nat.gcd aa (min k (cntN (fun i => decide (st i = 1)) t))) = 0) ∧ K r (v / lN (Nat.gcd aa (min k (cntN (fun i => decide (st i = 1)) t)))) A2)) := by
        rw [Nat.gcd_comm aa]
        exact ⟨fun z => ⟨hgn, hh.1 z⟩, fun z => ⟨hgn, hh.2 z⟩⟩
      refine ⟨fun z => ?_, fun z x7 e7 => ?_⟩
      · rw [epos z]
        rw [epos z] at last
        exact w6_cd haa (by omega) last
      · rw [eneg z] at e7
        subst e7
        exact w6_cd haa (by omega) last
    refine ⟨fun z => ?_, fun z => ?_⟩
    · refine br_f hgn' ⟨hgn, fin _ (fun A2 hsc2 _ => ⟨fun _ => hK _ _ (hi.scr hsc2).inv, fun y => absurd y z⟩)⟩
    · refine br_f hgn' ⟨hgn, fin _ (fun A2 hsc2 _ => ⟨fun y => absurd z y, fun _ => hK _ _ (hi.scr hsc2).inv⟩)⟩
  · refine mm _ A Scr.rf (fun A2 hsc2 h13 => ?_)
    rw [h13, q, Nat.min_zero]
    exact bn_t rfl (hK _ _ (hi.scr hsc2).inv)
end FC
