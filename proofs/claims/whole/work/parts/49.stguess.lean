/-! steps: guess, forecast -/
theorem i64_add_small {x y : Int64} {a b : Int} (hx : x.toInt = a) (hy : y.toInt = b) (ha : -1000000000 ≤ a ∧ a ≤ 1000000000) (hb : -1000000000 ≤ b ∧ b ≤ 1000000000) : (x + y).toInt = a + b := by
  rw [Int64.toInt_add, hx, hy]
  unfold Int.bmod
  dsimp only
  split <;> omega
theorem sumL_bd {f : Nat → Int32} : ∀ k, k ≤ 100 → (∀ r, r < k → -1000000 ≤ f r ∧ f r ≤ 1000000) → -(1000000 * (k : Int)) ≤ (sumL (fun r => (f r).toInt64) k).toInt ∧ (sumL (fun r => (f r).toInt64) k).toInt ≤ 1000000 * (k : Int)
  | 0, _, _ => by simp [sumL]
  | k + 1, hk, h => by
    have ih := sumL_bd (f := f) k (by omega) (fun r hr => h r (by omega))
    have h1 := h k (by omega)
    have h2 := Int32.le_iff_toInt_le.mp h1.1
    have h3 := Int32.le_iff_toInt_le.mp h1.2
    have l1 : (-1000000 : Int32).toInt = -1000000 := by decide
    have l2 : (1000000 : Int32).toInt = 1000000 := by decide
    rw [l1] at h2
    rw [l2] at h3
    have e := i64_add_small (x := sumL (fun r => (f r).toInt64) k) (y := (f k).toInt64) rfl (Int32.toInt_toInt64 (f k)) (by omega) (by omega)
    simp only [sumL]
    rw [e]
    omega
section GU
variable {n : Nat} {M : Nat → Nat} {P : Nat → Option Nat} {S : Nat → Nat → Bool} {W : Nat → Nat} {t : Nat} {pt st : Nat → Nat}
/-- class and reference: the same sum of the nearest -/
def NrSpec (n : Nat) (M : Nat → Nat) (P : Nat → Option Nat) (S : Nat → Nat → Bool) (W : Nat → Nat) (t : Nat) (pt st : Nat → Nat) (vv : Nat → Nat → Option Nat) (s : Nat → Int32) (k p : Nat) (v : Int64) : Prop :=
  (∀ (A : SA) (B : SB) (Q : Int64 → SA → Prop), ISp n M P S W A B → A 2 0 = nI t → (∀ i, i < t → st i ≤ 3 ∧ A 14 i = nI (st i)) → (∀ i, i < t → ∀ j, j < n → A (116 + i) j = enc (vv i j)) → (∀ i, i < t → A 15 i = s i) → (∀ A', Scr A A' → Q v A') → wp_X4_nearSum (lN p) (nI k) A B Q)
  ∧ (∀ (A : SA) (B : SB) (Q : Int64 → SA → Prop), ISp n M P S W A B → A 5 6 = nI t → (∀ i, i < t → st i ≤ 3 ∧ A 35 i = nI (st i)) → (∀ i, i < t → B 34 i = lN (pt i)) → (∀ i, i < t → A 36 i = s i) → (∀ A', Scr A A' → A' 5 13 = nI (min k (cntN (fun i => decide (st i = 1)) t)) → Q v A') → wp_X6_near (lN p) (nI k) A B Q)
  ∧ -5000000 ≤ v.toInt ∧ v.toInt ≤ 5000000
theorem near_ex (hs : Shp n M P) (hW : WOK n M P S W) (ht : t ≤ 60) {vv : Nat → Nat → Option Nat} {ll : Nat → Nat → Nat} (hv : ∀ i, i < t → RdIs n M P S W (pt i) (vv i) (ll i)) {s : Nat → Int32} (hsb : ∀ i, i < t → -1000000 ≤ s i ∧ s i ≤ 1000000) {k : Nat} (hk : 1 ≤ k) (hk5 : k ≤ 5) {p : Nat} (hp : p < allN n P W) : ∃ v, NrSpec n M P S W t pt st vv s k p v := by
  obtain ⟨va, la, ha⟩ := rd_ex hs hW hp
  obtain ⟨c, e, hq⟩ := sq_ex st (dF n M t va vv) t
  refine ⟨sumL (fun r => (s (e r)).toInt64) (min k c), fun A B Q hS e2 h14 hrow h15 h => ?_, fun A B Q hS e56 h35 h34 h36 h => ?_, ?_⟩
  · refine w_nearSum hS ht e2 h14 ha hv hrow hk hk5 hq (fun A' hsc => ?_)
    rw [sumL_congr (g := fun r => (s (e r)).toInt64) (fun r hr => by rw [h15 (e r) (hq.2.1 r (by omega)).1])]
    exact h A' hsc
  · refine w6_near hS ht e56 h35 h34 ha hv hk hk5 hq (fun A' hsc h13 => ?_)
    rw [sumL_congr (g := fun r => (s (e r)).toInt64) (fun r hr => by rw [h36 (e r) (hq.2.1 r (by omega)).1])]
    exact h A' hsc (by rw [← hq.1]; exact h13)
  · have := sumL_bd (f := fun r => s (e r)) (min k c) (by omega) (fun r hr => hsb (e r) (hq.2.1 r (by omega)).1)
    omega
noncomputable def nearF (n : Nat) (M : Nat → Nat) (P : Nat → Option Nat) (S : Nat → Nat → Bool) (W : Nat → Nat) (t : Nat) (pt st : Nat → Nat) (vv : Nat → Nat → Option Nat) (s : Nat → Int32) (k p : Nat) : Int64 := Classical.epsilon (fun v => NrSpec n M P S W t pt st vv s k p v)
theorem nearF_ok (hs : Shp n M P) (hW : WOK n M P S W) (ht : t ≤ 60) {vv : Nat → Nat → Option Nat} {ll : Nat → Nat → Nat} (hv : ∀ i, i < t → RdIs n M P S W (pt i) (vv i) (ll i)) {s : Nat → Int32} (hsb : ∀ i, i < t → -1000000 ≤ s i ∧ s i ≤ 1000000) {k : Nat} (hk : 1 ≤ k) (hk5 : k ≤ 5) {p : Nat} (hp : p < allN n P W) : NrSpec n M P S W t pt st vv s k p (nearF n M P S W t pt st vv s k p) :=
  Classical.epsilon_spec (near_ex hs hW ht hv hsb hk hk5 hp)
/-- the best candidate of the first ones -/
noncomputable def bcF (pc : Nat → Nat) (nv : Nat → Int64) : Nat → Nat
  | 0 => pc 0
  | i + 1 => if i = 0 then pc 0 else if nv (pc i) ≤ nv (bcF pc nv i) then bcF pc nv i else pc i
theorem bcF_in {pc : Nat → Nat} {nv : Nat → Int64} {q : Nat} (h : ∀ i, pc i < q) : ∀ i, bcF pc nv i < q
  | 0 => h 0
  | i + 1 => by
    unfold bcF
    split
    · exact h 0
    · split
      · exact bcF_in h i
      · exact h i
variable {A : SA} {B : SB} {sp : Nat → Nat}
theorem tr_vv (hT : ITr n M P S W t pt st sp A B) : ∃ (vv : Nat → Nat → Option Nat) (ll : Nat → Nat → Nat), ∀ i, i < t → RdIs n M P S W (pt i) (vv i) (ll i) ∧ ∀ j, j < n → A (116 + i) j = enc (vv i j) := by
  have h := hT.2.2.2.2.2.2.2.2.2.2
  have h2 : ∀ i, ∃ x : (Nat → Option Nat) × (Nat → Nat), i < t → RdIs n M P S W (pt i) x.1 x.2 ∧ ∀ j, j < n → A (116 + i) j = enc (x.1 j) := by
    intro i
    by_cases hi : i < t
    · obtain ⟨v, l, h1, h2⟩ := h i hi
      exact ⟨(v, l), fun _ => ⟨h1, h2⟩⟩
    · exact ⟨(fun _ => none, fun _ => 0), fun z => absurd z hi⟩
  obtain ⟨f, hf⟩ := Classical.skolem.mp h2
  exact ⟨fun i => (f i).1, fun i => (f i).2, fun i hi => hf i hi⟩
def guT (a0 a1 a2 : Int32) (A : SA) (B : SB) (Q : Int32 → SA → SB → Prop) : Prop :=
  ((¬ (A 5 6) = (60 : Int32) → wp_X6_hash a0 0 A B (fun r => wp_X6_points A B (fun r1 => wp_X6_pick r r1 A B (fun r2 => wp_X6_near r2 a2 A B (fun r3 A1 => ∃ m, wp_X6_guess_64 (fun v4 A2 => wp_X6_add v4 A2 B (fun r4 A3 B3 => Q r4 A3 B3)) Q a0 a1 a2 B m r2 r3 1 A1))))) ∧ ((A 5 6) = (60 : Int32) → Q (-4) A B))
theorem m_guess {a0 a1 a2 : Int32} {Q : Int32 → SA → SB → Prop} (c1 : (1 : Int64) ≤ a1.toInt64 ∧ a1.toInt64 ≤ 40) (c2 : (1 : Int64) ≤ a2.toInt64 ∧ a2.toInt64 ≤ 5) (h : guT a0 a1 a2 A B Q) : wp_X6_guess a0 a1 a2 A B Q :=
  w_in (fun _ _ => br_f (by decide) (w_in (fun _ _ => bn_f (by decide) h) (fun y => absurd c2 y))) (fun y => absurd c1 y)
theorem m_guess0 {a0 a1 a2 : Int32} {Q : Int32 → SA → SB → Prop} (hc : ¬ (((1 : Int64) ≤ a1.toInt64 ∧ a1.toInt64 ≤ 40) ∧ ((1 : Int64) ≤ a2.toInt64 ∧ a2.toInt64 ≤ 5))) (h : Q (-1) A B) : wp_X6_guess a0 a1 a2 A B Q :=
  w_in (fun a b => br_f (by decide) (w_in (fun c d => absurd ⟨⟨a, b⟩, c, d⟩ hc) (fun _ => bn_t rfl h))) (fun _ => br_t rfl h)
theorem st_guess (h : Inv A B) {a0 a1 a2 : Int32} {K : Int32 → Int32 → SA → SB → Prop} (hK : ∀ r A2 B2, Inv A2 B2 → K r r A2 B2) : wp_X5_guess a0 a1 a2 A B (fun r A1 B1 => wp_X6_guess a0 a1 a2 A1 B1 (fun r2 A2 B2 => K r r2 A2 B2)) := by
  obtain ⟨n, M, P, S, W, t, pt, st, sp, hi⟩ := h
  have h1 := hi.1
  have hbd := all_bd h1.1 h1.2.1
  obtain ⟨vv, ll, hvv⟩ := tr_vv hi.2.1
  obtain ⟨g1, g2, g3, g4, g5, g6, g7, g8, g9, g10, g11⟩ := hi.2.1
  have e60 : (60 : Int32) = nI 60 := rfl
  have l1 : (1 : Int64).toInt = 1 := rfl
  refine w_within (fun a b => br_f (by decide) ?_) (fun z => br_t rfl (m_guess0 (fun y => z y.1) (hK _ _ _ hi.inv)))
  refine w_within (fun a' b' => bn_f (by decide) ?_) (fun z => bn_t rfl (m_guess0 (fun y => z y.2) (hK _ _ _ hi.inv)))
  have c1 : (1 : Int64) ≤ a1.toInt64 ∧ a1.toInt64 ≤ 40 := ⟨a, b⟩
  have c2 : (1 : Int64) ≤ a2.toInt64 ∧ a2.toInt64 ≤ 5 := ⟨a', b'⟩
  rw [g2]
  refine pk_le 60 t (fun q => ?_) (fun q => ?_)
  · refine m_guess c1 c2 ?_
    unfold guT
    rw [g3]
    exact bn_t (by rw [e60, nI_eq (by omega) (by omega)]; omega) (hK _ _ _ hi.inv)
  · have c1' := rgI.mp c1
    have c2' := rgI.mp c2
    have l40 : (40 : Int64).toInt = 40 := rfl
    have l5 : (5 : Int64).toInt = 5 := rfl
    rw [l1, l40] at c1'
    rw [l1, l5] at c2'
    obtain ⟨cn, hcn, ecn, -⟩ := nI_ex (x := a1) (by omega)
    obtain ⟨k, hk, ek, -⟩ := nI_ex (x := a2) (by omega)
    have hk1 : 1 ≤ k := by omega
    have hk5 : k ≤ 5 := by omega
    obtain ⟨pc, epc⟩ : ∃ pc : Nat → Nat, pc = fun i => pickF (allN n P W) (hashF a0 (nI i)) := ⟨_, rfl⟩
    have hpk : ∀ i, pc i < allN n P W := fun i => by rw [epc]; exact (pickF_ok _ _ (by omega) (by omega)).1
    obtain ⟨nv, env⟩ : ∃ nv : Nat → Int64, nv = fun p => nearF n M P S W t pt st vv (A 15) k p := ⟨_, rfl⟩
    have hnv : ∀ p, p < allN n P W → NrSpec n M P S W t pt st vv (A 15) k p (nv p) := fun p hp => by rw [env]; exact nearF_ok h1.1 h1.2.1 g1 (fun i hi => (hvv i hi).1) (fun i hi => ⟨(g7 i hi).2.1, (g7 i hi).2.2.1⟩) hk1 hk5 hp
    -- the class, at any cells that differ in what a call has in hand
    have cn1 : ∀ (A' : SA) (p : Nat) (Q : Int64 → SA → Prop), Scr A A' → p < allN n P W → (∀ A'', Scr A A'' → Q (nv p) A'') → wp_X4_nearSum (lN p) a2 A' B Q := by
      intro A' p Q hsc hp hQ
      rw [ek]
      refine (hnv p hp).1 A' B Q (h1.scr hsc) (by rw [hsc.at (by decide)]; exact g2) (fun i hi => by rw [hsc.at (by decide)]; exact ⟨(g6 i hi).1, (g6 i hi).2.1⟩) (fun i hi j hj => by rw [hsc.at (by omega)]; exact (hvv i hi).2 j hj) (fun i hi => by rw [hsc.at (by decide)]) (fun A'' h2 => hQ A'' (hsc.tr h2))
    have mm : ∀ (p : Nat) (A1 : SA) (B1 : SB), ISp n M P S W A1 B1 → (A1 5 6 = A 5 6 ∧ A1 35 = A 35 ∧ A1 36 = A 36 ∧ B1 34 = B 34) → (∀ A1', Scr A1 A1' → wp_X6_add (lN p) A1' B1 (fun r2 A2 B2 => K (nI t) r2 A2 B2)) → p = (if cntN (fun i => decide (st i = 1)) t = 0 then pc 0 else bcF pc nv cn) → wp_X6_guess a0 a1 a2 A1 B1 (fun r2 A2 B2 => K (nI t) r2 A2 B2) := by
      intro p A1 B1 hS hKe hadd hp
      have m1 : ∀ (A' : SA) (p : Nat) (Q : Int64 → SA → Prop), Scr A1 A' → p < allN n P W → (∀ A'', Scr A1 A'' → A'' 5 13 = nI (min k (cntN (fun i => decide (st i = 1)) t)) → Q (nv p) A'') → wp_X6_near (lN p) a2 A' B1 Q := by
        intro A' p Q hsc hp hQ
        rw [ek]
        refine (hnv p hp).2.1 A' B1 Q (hS.scr hsc) (by rw [hsc.2 6 (by decide), hKe.1]; exact g3) (fun i hi => by rw [hsc.at (by decide), hKe.2.1]; exact ⟨(g6 i hi).1, (g6 i hi).2.2⟩) (fun i hi => by rw [hKe.2.2.2]; exact (g5 i hi).2.2) (fun i hi => by rw [hsc.at (by decide), hKe.2.2.1]; exact (g7 i hi).1.symm) (fun A'' h2 h3 => hQ A'' (hsc.tr h2) h3)
      refine m_guess c1 c2 ?_
      unfold guT
      rw [hKe.1, g3]
      refine bn_f (by rw [e60, nI_eq (by omega) (by omega)]; omega) (w6_hash ?_)
      refine w6_points hS.1 hS.2.2.2.2.1 hS.2.2.2.2.2 ?_
      refine (pickF_ok (allN n P W) (hashF a0 0) (by omega) (by omega)).2.2 _ _ _ ?_
      have e00 : pickF (allN n P W) (hashF a0 0) = pc 0 := by rw [epc]; rfl
      rw [e00]
      refine m1 A1 (pc 0) _ Scr.rf (hpk 0) (fun A2 hsc2 h13 => ?_)
      refine lp4 (wp_X6_guess_64 _ _ a0 a1 a2 B1) (fun v4 v6 v8 A' => ∃ i : Nat, 1 ≤ i ∧ i ≤ cn ∧ v8 = nI i ∧ v4 = lN (bcF pc nv i) ∧ v6 = nv (bcF pc nv i) ∧ Scr A1 A' ∧ A' 5 13 = nI (min k (cntN (fun i => decide (st i = 1)) t)) ∧ (cntN (fun i => decide (st i = 1)) t = 0 → i = 1)) (fun _ _ v8 _ => 60 - v8.toNatClampNeg) ?_ _ _ _ _ ⟨1, by omega, by omega, rfl, by simp [bcF], by simp [bcF], hsc2, h13, fun _ => rfl⟩
      rintro m v4 v6 v8 A' ⟨i, hi1, hi2, rfl, rfl, rfl, hsc, h13', hi0⟩ ih
      have ei : (nI i).toNatClampNeg = i := nI_clamp (by omega)
      have done : (cntN (fun i => decide (st i = 1)) t = 0 ∨ i = cn) → wp_X6_add (lN (bcF pc nv i)) A' B1 (fun r4 A3 B3 => K (nI t) r4 A3 B3) := by
        intro hd
        have : bcF pc nv i = p := by
          rw [hp]
          by_cases hz : cntN (fun i => decide (st i = 1)) t = 0
          · rw [if_pos hz, hi0 hz]; simp [bcF]
          · rw [if_neg hz]
            rcases hd with u | u
            · exact absurd u hz
            · rw [u]
        rw [this]
        exact hadd A' hsc
      refine pk_le cn i (fun q2 => done (Or.inr (by omega))) (fun q2 => ?_) ecn
      rw [h13']
      refine pk_le (min k (cntN (fun i => decide (st i = 1)) t)) 0 (fun q3 => done (Or.inl (by omega))) (fun q3 => ?_)
      have hS' := hS.scr hsc
      refine w6_hash (w6_points hS'.1 hS'.2.2.2.2.1 hS'.2.2.2.2.2 ?_)
      refine (pickF_ok (allN n P W) (hashF a0 (nI i)) (by omega) (by omega)).2.2 _ _ _ ?_
      have e0i : pickF (allN n P W) (hashF a0 (nI i)) = pc i := by rw [epc]
      rw [e0i]
      refine m1 A' (pc i) _ hsc (hpk i) (fun A3 hsc3 h13'' => ⟨fun z v8 e8 => ?_, fun z v8 e8 => ?_⟩)
      · rw [nI_1] at e8
        have eb : bcF pc nv (i + 1) = bcF pc nv i := by
          show (if i = 0 then _ else _) = _
          rw [if_neg (by omega), if_pos z]
        exact ih _ _ _ _ ⟨i + 1, by omega, by omega, e8, by rw [eb], by rw [eb], hsc3, h13'', fun y => by omega⟩ (by rw [e8, ei, nI_clamp (by omega)]; omega)
      · rw [nI_1] at e8
        have eb : bcF pc nv (i + 1) = pc i := by
          show (if i = 0 then _ else _) = _
          rw [if_neg (by omega), if_neg z]
        exact ih _ _ _ _ ⟨i + 1, by omega, by omega, e8, by rw [eb], by rw [eb], hsc3, h13'', fun y => by omega⟩ (by rw [e8, ei, nI_clamp (by omega)]; omega)
    -- the class's side
    have e00 : pickF (allN n P W) (hashF a0 0) = pc 0 := by rw [epc]; rfl
    have cadd : ∀ (p : Nat) (A' : SA), Scr A A' → p < allN n P W → p = (if cntN (fun i => decide (st i = 1)) t = 0 then pc 0 else bcF pc nv cn) → wp_X4_add (lN p) A' B (fun r A1 B1 => wp_X6_guess a0 a1 a2 A1 B1 (fun r2 A2 B2 => K r r2 A2 B2)) := by
      intro p A' hsc hp hpe
      refine add_trial (hi.scr hsc) q hp hK (fun A1 B1 hS hKe hadd => mm p A1 B1 hS ⟨?_, ?_, ?_, ?_⟩ hadd hpe)
      · rw [hKe.2.1, hsc.2 6 (by decide)]
      · rw [hKe.1 35 (by decide) (by decide), hsc.at (by decide)]
      · rw [hKe.1 36 (by decide) (by decide), hsc.at (by decide)]
      · exact hKe.2.2 34 (by decide) (by decide)
    refine w_hash ?_
    rw [h1.2.2.2.1.1]
    refine (pickF_ok (allN n P W) (hashF a0 0) (by omega) (by omega)).2.1 _ _ _ ?_
    rw [e00, g4]
    refine pk_ne (cntN (fun i => decide (st i = 1)) t) 0 (fun q2 => ?_) (fun q2 => ?_) rfl rfl (by have := cntN_le (fun i => decide (st i = 1)) t; omega)
    · refine cn1 A (pc 0) _ Scr.rf (hpk 0) (fun A2 hsc2 => ?_)
      refine lp4 (wp_X4_bestCandidate_39 _ _ a0 a1 a2 B) (fun v4 v6 v8 A' => ∃ i : Nat, 1 ≤ i ∧ i ≤ cn ∧ v8 = nI i ∧ v4 = lN (bcF pc nv i) ∧ v6 = nv (bcF pc nv i) ∧ Scr A A') (fun _ _ v8 _ => 60 - v8.toNatClampNeg) ?_ _ _ _ _ ⟨1, by omega, by omega, rfl, by simp [bcF], by simp [bcF], hsc2⟩
      rintro m v4 v6 v8 A' ⟨i, hi1, hi2, rfl, rfl, rfl, hsc⟩ ih
      have ei : (nI i).toNatClampNeg = i := nI_clamp (by omega)
      refine pk_le cn i (fun q3 => ?_) (fun q3 => ?_) ecn
      · rw [show i = cn by omega]
        exact cadd _ A' hsc (bcF_in hpk cn) (by rw [if_neg q2])
      · refine w_hash ?_
        rw [h1.2.2.2.1.1]
        refine (pickF_ok (allN n P W) (hashF a0 (nI i)) (by omega) (by omega)).2.1 _ _ _ ?_
        have e0i : pickF (allN n P W) (hashF a0 (nI i)) = pc i := by rw [epc]
        rw [e0i]
        refine cn1 A' (pc i) _ hsc (hpk i) (fun A3 hsc3 => ⟨fun z v8 e8 => ?_, fun z v8 e8 => ?_⟩)
        · rw [nI_1] at e8
          have eb : bcF pc nv (i + 1) = bcF pc nv i := by
            show (if i = 0 then _ else _) = _
            rw [if_neg (by omega), if_pos z]
          exact ih _ _ _ _ ⟨i + 1, by omega, by omega, e8, by rw [eb], by rw [eb], hsc3⟩ (by rw [e8, ei, nI_clamp (by omega)]; omega)
        · rw [nI_1] at e8
          have eb : bcF pc nv (i + 1) = pc i := by
            show (if i = 0 then _ else _) = _
            rw [if_neg (by omega), if_neg z]
          exact ih _ _ _ _ ⟨i + 1, by omega, by omega, e8, by rw [eb], by rw [eb], hsc3⟩ (by rw [e8, ei, nI_clamp (by omega)]; omega)
    · exact cadd _ A Scr.rf (hpk 0) (by rw [if_pos q2])
end GU
