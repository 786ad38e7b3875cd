/-! step: use, both sides -/
def FoCh (A A' : SA) (B B' : SB) : Prop := (∀ k, k < 176 → k ≠ 4 → k ≠ 24 → k ≠ 25 → k ≠ 26 → k ≠ 45 → k ≠ 46 → k ≠ 47 → k ≠ 5 → A' k = A k) ∧ (∀ j, j ≠ 25 → j ≠ 26 → j ≠ 27 → A' 5 j = A 5 j) ∧ ∀ k, k ≠ 28 → B' k = B k
section U2
variable {A : SA} {B : SB} {n : Nat} {M : Nat → Nat} {P : Nat → Option Nat} {S : Nat → Nat → Bool} {W : Nat → Nat} {t : Nat} {pt st sp : Nat → Nat} {rows outer inner : Nat} {pl : Nat → Nat}
theorem FoCh.at {A' : SA} {B' : SB} (h : FoCh A A' B B') {k : Nat} (hk : k < 176 ∧ k ≠ 4 ∧ k ≠ 24 ∧ k ≠ 25 ∧ k ≠ 26 ∧ k ≠ 45 ∧ k ≠ 46 ∧ k ≠ 47 ∧ k ≠ 5) : A' k = A k := h.1 k hk.1 hk.2.1 hk.2.2.1 hk.2.2.2.1 hk.2.2.2.2.1 hk.2.2.2.2.2.1 hk.2.2.2.2.2.2.1 hk.2.2.2.2.2.2.2.1 hk.2.2.2.2.2.2.2.2
theorem InvW.fo {A' : SA} {B' : SB} (hi : InvW n M P S W t pt st sp A B) (h : FoCh A A' B B') (hF : IFo rows outer inner pl A') : Inv A' B' := by
  obtain ⟨h1, hT, ⟨sd, hR⟩, -⟩ := hi
  refine ⟨n, M, P, S, W, t, pt, st, sp, ?_, ?_, ⟨sd, ?_⟩, rows, outer, inner, pl, hF⟩
  · exact h1.fr (h.at (by decide)) (h.at (by decide)) (h.at (by decide)) (h.at (by decide)) (h.2.1 0 (by decide) (by decide) (by decide)) (h.at (by decide)) (h.at (by decide)) (h.at (by decide)) (h.2.2 1 (by decide)) (h.2.2 11 (by decide)) (h.2.2 32 (by decide)) (fun i _ => h.2.2 (48 + i) (by omega))
  · exact hT.fr (h.at (by decide)) (h.2.1 6 (by decide) (by decide) (by decide)) (h.at (by decide)) (h.at (by decide)) (h.at (by decide)) (h.at (by decide)) (h.at (by decide)) (h.at (by decide)) (h.at (by decide)) (fun i _ => h.at (by omega)) (fun i _ => h.at (by omega)) (h.2.2 13 (by decide)) (h.2.2 34 (by decide))
  · exact hR.fr (h.at (by decide)) (h.at (by decide)) (h.at (by decide)) (h.at (by decide)) (h.at (by decide)) (h.at (by decide)) (h.at (by decide)) (h.2.1 15 (by decide) (by decide) (by decide)) (h.2.1 20 (by decide) (by decide) (by decide)) (h.2.1 21 (by decide) (by decide) (by decide)) (h.2.1 22 (by decide) (by decide) (by decide)) (h.2.1 23 (by decide) (by decide) (by decide)) (h.2.2 3 (by decide)) (h.2.2 5 (by decide))
theorem st_use (h : Inv A B) {a0 a1 : Int32} {K : Int32 → Int32 → SA → Prop} (hK : ∀ r A2, Inv A2 B → K r r A2) : wp_X5_use a0 a1 A B (fun r A1 => wp_X6_use a0 a1 A1 B (fun r2 A2 => K r r2 A2)) := by
  obtain ⟨n, M, P, S, W, t, pt, st, sp, hi⟩ := h
  obtain ⟨-, -, -, rows, outer, inner, pl, hF⟩ := id hi
  obtain ⟨g1, g2, g3, g4, g5, g6, g7, g8, g9, g10, g11⟩ := id hF
  have kk : ∀ r, K r r A := fun r => hK r A hi.inv
  have m0 : (¬ ∃ j, j < outer ∧ a0 = nI j) → wp_X6_use a0 a1 A B (fun r2 A2 => K (-1) r2 A2) := fun z => ⟨fun _ => kk _, fun _ => w6_inN g5 (by omega) (fun j hj e => absurd ⟨j, hj, e⟩ z) (fun _ => br_t rfl (kk _))⟩
  refine w_isOuter g4 (by omega) (fun o ho e => br_f (by decide) ?_) (fun z => br_t rfl (m0 z))
  subst e
  have hb : 1 ≤ rows ∧ 2 ≤ outer ∧ outer ≤ 10 ∧ 2 ≤ inner ∧ inner ≤ 10 := by clear m0; omega
  have n25 : ¬ A 5 25 = 0 := by rw [g3]; exact nI_ne0 (by omega) (by omega)
  have eo : (nI o).toNatClampNeg = o := nI_clamp (by omega)
  have hin := pk_in (x := nI o) o 10 (by omega)
  have g10o := g10 o ho
  -- the reference, from any state that has the same counts
  clear m0
  have m : ∀ (A1 : SA) {Q : Int32 → SA → Prop}, A1 5 = A 5 → A1 45 = A 45 → A1 46 = A 46 → (¬ ((-1 : Int64) ≤ a1.toInt64 ∧ a1.toInt64 ≤ ((A 5 27) - 1).toInt64) → Q (-1) A1) → (((-1 : Int64) ≤ a1.toInt64 ∧ a1.toInt64 ≤ ((A 5 27) - 1).toInt64) → ¬ A 46 o = 0 → Q (-3) A1) →
      (A 46 o = 0 → ((-1 : Int64) ≤ a1.toInt64 ∧ a1.toInt64 ≤ ((A 5 27) - 1).toInt64) → ∀ g : Nat → Int32, (∀ r w, r < rows → w < 3 → g (30 * r + 3 * o + w) = A1 47 (30 * r + 3 * o + w) + dlU o a1 (pl r % outer) (pl r / outer % inner) w) → (∀ r o' w, o' < 10 → w < 3 → o' ≠ o → g (30 * r + 3 * o' + w) = A1 47 (30 * r + 3 * o' + w)) → Q (nI (cntN (fun r => cU o a1 (pl r % outer) (pl r / outer % inner)) rows)) (u2 (va_up A1 47 g) 46 o (if 0 ≤ a1 then 0 else 1))) → wp_X6_use (nI o) a1 A1 B Q := by
    intro A1 Q k5 k45 k46 q1 q2 q3
    refine br_f (by rw [k5]; exact n25) (w6_inN (by rw [k5]; exact g5) (by omega) (fun _ _ _ => br_f (by decide) ?_) (fun z => absurd ⟨o, ho, rfl⟩ z))
    rw [k5]
    refine w_in (fun a b => bn_f (by decide) ⟨hin, ?_⟩) (fun z => bn_t rfl (q1 z))
    rw [eo, k46]
    refine ⟨fun z => ?_, q2 ⟨a, b⟩⟩
    refine m_useL (pl := pl) (rows := rows) (outer := outer) (inner := inner) g1 (by omega) ⟨hb.2.1, hb.2.2.1⟩ ⟨hb.2.2.2.1, hb.2.2.2.2⟩ (by rw [k5]; exact g3) (by rw [k5]; exact g5) (by rw [k5]; exact g7) (fun r hr => ⟨(g9 r hr).1, by rw [k45]; exact (g9 r hr).2.1⟩) (fun g h1 h2 => ?_)
    have := q3 z ⟨a, b⟩ g h1 h2
    rw [nar0, nar1]
    by_cases y : 0 ≤ a1
    · rw [if_pos y] at this
      exact br_t y ⟨hin, this⟩
    · rw [if_neg y] at this
      exact br_f y ⟨hin, this⟩
  have e27 : (A 4 2) - (1 : Int32) = (A 5 27) - 1 := by rw [g6, g7]
  rw [e27]
  refine w_within (fun a b => bn_f (by decide) ⟨hin, ?_⟩) (fun z => bn_t rfl (m A rfl rfl rfl (fun _ => kk _) (fun y => absurd y z) (fun _ y => absurd y z)))
  rw [eo]
  rcases g10o.2.symm with h26 | h26
  · rw [h26]
    exact br_f (by decide) (m A rfl rfl rfl (fun y => absurd ⟨a, b⟩ y) (fun _ _ => kk _) (fun y => absurd y (by rw [← g10o.1, h26]; decide)))
  rw [h26]
  refine br_t (by decide) ⟨fun z => ?_, fun z => ?_⟩
  · -- chosen
    have d := rgI.mp ⟨a, b⟩
    rw [Int32.toInt_toInt64, g7, show (1 : Int32) = nI 1 from rfl, pk_sub (by omega), nI_toInt (by omega)] at d
    obtain ⟨c, hc, ec, -⟩ := nI_ex (x := a1) (Int32.le_iff_toInt_le.mp z)
    have hci : c < inner := by omega
    have ecc : a1.toNatClampNeg = c := by rw [ec]; exact nI_clamp (by omega)
    have hinc : vp_in a1 10 := pk_in c 10 (by omega) ec
    refine ⟨hin, hinc, fun x ex => ⟨hinc, ?_⟩⟩
    rw [eo, ecc] at ex ⊢
    obtain ⟨A1, eA1⟩ : ∃ A1 : SA, A1 = u2 A (176 + o) c x := ⟨_, rfl⟩
    rw [← eA1]
    have kr : ∀ k, k ≠ 176 + o → A1 k = A k := fun k hk => by rw [eA1, u2_kn hk]
    have kc : A1 (176 + o) = upd (A (176 + o)) c (A (176 + o) c + 1) := by rw [eA1, u2_kk, ex]
    have hw : ∀ {E : Int32 → Prop} {Q : Int32 → SA → Prop}, E (nI (cntN (fun r => decide (¬ pl r % outer = o ∧ pl r / outer % inner = c)) rows)) → ∃ n, wp_X0_choose_17 E Q (nI o) a1 A1 B n 0 0 := fun h => by
      rw [ec]
      exact w_chooseL (pl := pl) (outer := outer) (inner := inner) g1 (by omega) (by omega) ⟨hb.2.1, hb.2.2.1⟩ ⟨hb.2.2.2.1, hb.2.2.2.2⟩ (by rw [kr 4 (by omega)]; exact g2) (fun r hr => by rw [kr 24 (by omega), kr 25 (by omega)]; exact (g9 r hr).2.2) h
    refine hw (m A1 (kr 5 (by omega)) (kr 45 (by omega)) (kr 46 (by omega)) (fun y => absurd ⟨a, b⟩ y) (fun _ y => absurd (by rw [← g10o.1]; exact h26) y) (fun _ _ g q1 q2 => ?_))
    rw [if_pos z]
    have ecnt : cntN (fun r => decide (¬ pl r % outer = o ∧ pl r / outer % inner = c)) rows = cntN (fun r => cU o a1 (pl r % outer) (pl r / outer % inner)) rows := cntN_congr (fun r _ => by
      have hm2 : pl r / outer % inner < inner := Nat.mod_lt _ (by omega)
      have hpi : nI (pl r / outer % inner) = a1 ↔ pl r / outer % inner = c := by rw [ec, nI_eq (by omega) (by omega)]
      unfold cU
      by_cases y : pl r % outer = o
      · simp [y, z]
      · simp [y, z, hpi])
    rw [ecnt]
    refine hK _ _ (hi.fo (rows := rows) (outer := outer) (inner := inner) (pl := pl) ⟨fun k k0 k1 k2 k3 k4 k5 k6 k7 k8 => ?_, fun j _ _ _ => ?_, fun k _ => rfl⟩ ?_)
    · rw [u2_kn k6, va_up_ne _ _ k7, kr k (by omega)]
    · rw [u2_kn (by decide), va_up_ne _ _ (by decide), kr 5 (by omega)]
    · have kq : ∀ k, k ≠ 46 → k ≠ 47 → k ≠ 176 + o → (u2 (va_up A1 47 g) 46 o 0) k = A k := fun k a b c => by rw [u2_kn a, va_up_ne _ _ b, kr k c]
      refine hF.use (a1 := a1) ho h26 (kq 4 (by omega) (by omega) (by omega)) (kq 5 (by omega) (by omega) (by omega)) (kq 24 (by omega) (by omega) (by omega)) (kq 25 (by omega) (by omega) (by omega)) (kq 45 (by omega) (by omega) (by omega)) (fun o' _ ho' => kq (176 + o') (by omega) (by omega) (by omega)) (by rw [if_pos z]; exact kq 26 (by omega) (by omega) (by omega)) (fun o' ho' => ?_) ?_ ?_ ?_
      · rw [u2_kk, va_up_ne _ _ (by decide), kr 46 (by omega), if_pos z]
        by_cases y : o' = o
        · subst y; simp [upd]
        · simp [upd, y]
      · rw [if_pos z]
        exact ⟨c, hci, ec, by rw [u2_kn (by omega), va_up_ne _ _ (by omega), kc]⟩
      · rw [u2_kn (by decide), va_up_self]
        intro r w hr hw2
        rw [q1 r w hr hw2, kr 47 (by omega)]
      · rw [u2_kn (by decide), va_up_self]
        intro r o' w ho' hw2 hne
        rw [q2 r o' w ho' hw2 hne, kr 47 (by omega)]
  · -- tested
    refine ⟨hin, fun x ex => ⟨hin, ?_⟩⟩
    rw [eo] at ex ⊢
    rw [h26] at ex
    have ex1 : x = 1 := ex
    obtain ⟨A1, eA1⟩ : ∃ A1 : SA, A1 = u2 A 26 o x := ⟨_, rfl⟩
    rw [← eA1]
    have kr : ∀ k, k ≠ 26 → A1 k = A k := fun k hk => by rw [eA1, u2_kn hk]
    have kc : A1 26 = upd (A 26) o 1 := by rw [eA1, u2_kk, ex1]
    refine w_testL (pl := pl) (outer := outer) (rows := rows) g1 (by omega) ⟨hb.2.1, hb.2.2.1⟩ (by rw [kr 4 (by omega)]; exact g2) (fun r hr => by rw [kr 24 (by omega)]; exact (g9 r hr).2.2.1) ?_
    refine m A1 (kr 5 (by omega)) (kr 45 (by omega)) (kr 46 (by omega)) (fun y => absurd ⟨a, b⟩ y) (fun _ y => absurd (by rw [← g10o.1]; exact h26) y) (fun _ _ g q1 q2 => ?_)
    rw [if_neg z]
    have ecnt : cntN (fun r => decide (pl r % outer = o)) rows = cntN (fun r => cU o a1 (pl r % outer) (pl r / outer % inner)) rows := cntN_congr (fun r _ => by
      unfold cU
      by_cases y : pl r % outer = o
      · rw [if_pos y, decide_eq_true y, decide_eq_true z]
      · rw [if_neg y, decide_eq_false y, decide_eq_false (fun q => z q.1)])
    rw [ecnt]
    refine hK _ _ (hi.fo (rows := rows) (outer := outer) (inner := inner) (pl := pl) ⟨fun k k0 k1 k2 k3 k4 k5 k6 k7 k8 => ?_, fun j _ _ _ => ?_, fun k _ => rfl⟩ ?_)
    · rw [u2_kn k6, va_up_ne _ _ k7, kr k k4]
    · rw [u2_kn (by decide), va_up_ne _ _ (by decide), kr 5 (by omega)]
    · have kq : ∀ k, k ≠ 46 → k ≠ 47 → k ≠ 26 → (u2 (va_up A1 47 g) 46 o 1) k = A k := fun k a b c => by rw [u2_kn a, va_up_ne _ _ b, kr k c]
      refine hF.use (a1 := a1) ho h26 (kq 4 (by omega) (by omega) (by omega)) (kq 5 (by omega) (by omega) (by omega)) (kq 24 (by omega) (by omega) (by omega)) (kq 25 (by omega) (by omega) (by omega)) (kq 45 (by omega) (by omega) (by omega)) (fun o' _ ho' => kq (176 + o') (by omega) (by omega) (by omega)) (by rw [if_neg z, u2_kn (by decide), va_up_ne _ _ (by decide), kc]) (fun o' ho' => ?_) ?_ ?_ ?_
      · rw [u2_kk, va_up_ne _ _ (by decide), kr 46 (by omega), if_neg z]
        by_cases y : o' = o
        · subst y; simp [upd]
        · simp [upd, y]
      · rw [if_neg z]
        exact kq (176 + o) (by omega) (by omega) (by omega)
      · rw [u2_kn (by decide), va_up_self]
        intro r w hr hw2
        rw [q1 r w hr hw2, kr 47 (by omega)]
      · rw [u2_kn (by decide), va_up_self]
        intro r o' w ho' hw2 hne
        rw [q2 r o' w ho' hw2 hne, kr 47 (by omega)]
end U2
