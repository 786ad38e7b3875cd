/-! step: folds -/
section FS2
variable {A : SA} {B : SB} {n : Nat} {M : Nat → Nat} {P : Nat → Option Nat} {S : Nat → Nat → Bool} {W : Nat → Nat} {t : Nat} {pt st sp : Nat → Nat}
theorem w_fillI {k : Nat} (hk : kd k = 1) (hk2 : k < NW) (hl : ulen k < 2 ^ 31) {v : Int32} {Q : SA → Prop} (h : ∀ f : Nat → Int32, (∀ j, j < ulen k → f j = v) → Q (va_up A k f)) : wp_J7_fill_53178 k v A B Q := by
  refine ⟨⟨Or.inl hk, hk2⟩, fun x e => ?_⟩
  subst e
  refine lp2 (wp_J7_fill_53178_5 (fun A => Q A) Q k v (nI (ulen k)) B) (fun v3 A' => ∃ (i : Nat) (f : Nat → Int32), i ≤ ulen k ∧ v3 = nI i ∧ A' = va_up A k f ∧ ∀ j, j < i → f j = v) (fun v3 _ => ulen k - v3.toNatClampNeg) ?_ _ _ ⟨0, A k, Nat.zero_le _, nI_0.symm, (va_up_id A k).symm, fun j hj => by omega⟩
  rintro m v3 A' ⟨i, f, hi, rfl, rfl, hf⟩ ih
  have ei : (nI i).toNatClampNeg = i := nI_clamp (by omega)
  refine pk_le (ulen k) i (fun q => ?_) (fun q => ?_)
  · exact h f (fun j hj => hf j (by omega))
  · refine ⟨⟨hk, hk2, pk_in i (ulen k) q⟩, fun v3 e3 => ?_⟩
    rw [e3, nI_1, ei, u2_up]
    refine ih _ _ ⟨i + 1, _, by omega, rfl, rfl, fun j hj => ?_⟩ ?_
    · by_cases hji : j = i
      · subst hji; simp [upd]
      · simp only [upd, hji, if_false]; exact hf j (by omega)
    · rw [ei, nI_clamp (by omega)]; omega
theorem w_fillRows {E : SA → Prop} {Q : SA → SB → Prop} {v4 : Int32} (hE : ∀ A' : SA, (∀ k, k < 176 ∨ 186 ≤ k → A' k = A k) → (∀ o j, o < 10 → j < 10 → A' (176 + o) j = 0) → E A') : ∃ m, wp_X0_make_26 E Q v4 B m 0 A := by
  refine lp2 (wp_X0_make_26 E Q v4 B) (fun v5 A' => ∃ i : Nat, i ≤ 10 ∧ v5 = nI i ∧ (∀ k, k < 176 ∨ 186 ≤ k → A' k = A k) ∧ ∀ o j, o < i → j < 10 → A' (176 + o) j = 0) (fun v5 _ => 10 - v5.toNatClampNeg) ?_ _ _ ⟨0, Nat.zero_le _, nI_0.symm, fun _ _ => rfl, fun o j ho => by omega⟩
  rintro m v5 A' ⟨i, hi, rfl, h1, h2⟩ ih
  have ei : (nI i).toNatClampNeg = i := nI_clamp (by omega)
  refine pk_le 10 i (fun q => hE A' h1 (fun o j ho hj => h2 o j (by omega) hj)) (fun q => ?_)
  have hin := pk_in (x := nI i) i 10 q
  have hrow := urow_176 hin
  refine ⟨hin, ?_⟩
  rw [ei] at hrow ⊢
  refine w_fillI hrow.1 hrow.2.1 (by rw [hrow.2.2]; decide) (fun f hf v5 e5 => ?_)
  rw [nI_1] at e5
  refine ih _ _ ⟨i + 1, by omega, e5, fun k hk => ?_, fun o j ho hj => ?_⟩ (by rw [e5, ei, nI_clamp (by omega)]; omega)
  · rw [va_up_ne _ _ (by omega)]; exact h1 k hk
  · by_cases e : o = i
    · subst e; rw [va_up_self]; exact hf j (by rw [hrow.2.2]; exact hj)
    · rw [va_up_ne _ _ (by omega)]; exact h2 o j (by omega) hj
theorem w_sortL {rows : Nat} (hr : rows ≤ 200) {s : Int32} (e40 : A 4 0 = nI rows) {E : SB → Prop} {Q : SA → SB → Prop} (hE : ∀ g, OrdOK s rows g → E (va_up B 28 g)) : ∃ m, wp_X0_make_53 E Q s A m 0 B := by
  refine lp2 (wp_X0_make_53 E Q s A) (fun v5 B' => ∃ (i : Nat) (g : Nat → Int64), i ≤ rows ∧ v5 = nI i ∧ B' = va_up B 28 g ∧ OrdOK s i g) (fun v5 _ => 200 - v5.toNatClampNeg) ?_ _ _ ⟨0, B 28, Nat.zero_le _, nI_0.symm, (va_up_id _ _).symm, fun r hr => by omega, fun p hp => by omega⟩
  rintro m v5 B' ⟨i, g, hi, rfl, rfl, h⟩ ih
  refine pk_le rows i (fun q => ?_) (fun q => ?_) e40
  · have : i = rows := by omega
    subst this
    exact hE g h
  · refine w_hash ?_
    refine w_sortIn (s := s) (n := i) (by omega) (by rw [va_up_self]; exact h) (fun g' hg' v5 e5 => ?_)
    rw [nI_1] at e5
    have e : va_up (va_up B 28 g) 28 g' = va_up B 28 g' := by
      funext k
      by_cases hk : k = 28
      · subst hk; rw [va_up_self, va_up_self]
      · rw [va_up_ne _ _ hk, va_up_ne _ _ hk, va_up_ne _ _ hk]
    rw [e]
    exact ih _ _ ⟨i + 1, g', by omega, e5, rfl, hg'⟩ (by rw [e5, nI_clamp (by omega), nI_clamp (by omega)]; omega)
theorem w_placeL {rows outer inner : Nat} (hr : rows ≤ 200) (hb : 2 ≤ outer ∧ outer ≤ 10) (hb2 : 2 ≤ inner ∧ inner ≤ 10) {s : Int32} (e40 : A 4 0 = nI rows) (e41 : A 4 1 = nI outer) (e42 : A 4 2 = nI inner) (hO : OrdOK s rows (B 28)) {E : SA → Prop} {Q : SA → SB → Prop} (hE : ∀ g24 g25 : Nat → Int32, (∀ r, r < rows → g24 r = nI (rk s rows r % outer) ∧ g25 r = nI (rk s rows r / outer % inner)) → E (va_up (va_up A 24 g24) 25 g25)) : ∃ m, wp_X0_make_92 E Q B m 0 A := by
  refine lp2 (wp_X0_make_92 E Q B) (fun v5 A' => ∃ (p : Nat) (g24 g25 : Nat → Int32), p ≤ rows ∧ v5 = nI p ∧ A' = va_up (va_up A 24 g24) 25 g25 ∧ ∀ r, r < rows → rk s rows r < p → g24 r = nI (rk s rows r % outer) ∧ g25 r = nI (rk s rows r / outer % inner)) (fun v5 _ => 200 - v5.toNatClampNeg) ?_ _ _ ⟨0, A 24, A 25, Nat.zero_le _, nI_0.symm, by rw [va_up_id, va_up_id], fun r hr hp => by omega⟩
  rintro m v5 A' ⟨p, g24, g25, hp, rfl, rfl, h⟩ ih
  have ep : (nI p).toNatClampNeg = p := nI_clamp (by omega)
  have k4 : (va_up (va_up A 24 g24) 25 g25) 4 = A 4 := by rw [va_up_ne _ _ (by decide), va_up_ne _ _ (by decide)]
  refine pk_le rows p (fun q => ?_) (fun q => ⟨pk_in p 200 (by omega), fun x ex => ?_⟩) (by rw [k4]; exact e40)
  · exact hE g24 g25 (fun r hr => h r hr (by have := rk_self (s := s) hr; omega))
  · obtain ⟨r, hr2, er⟩ := hO.2 p q
    rw [ep, ← er, hO.1 r hr2, keyL_row (by omega)] at ex
    subst ex
    have erc : (nI r).toNatClampNeg = r := nI_clamp (by omega)
    have hd : p / outer ≤ p := Nat.div_le_self _ _
    have hm1 : p % outer < outer := Nat.mod_lt _ (by omega)
    rw [k4, e41, e42, nI_l (by omega), nI_l (by omega), nI_l (by omega), erc]
    refine w_rest (by omega) (by omega) (by omega) (fun x ex => ⟨pk_in r 200 (by omega), w_cut (by omega) (by omega) (by omega) (w_rest (by omega) (by omega) (by omega) (fun y ey => ⟨pk_in r 200 (by omega), fun v5 e5 => ?_⟩))⟩)
    rw [lN_i] at ex ey
    rw [nI_1] at e5
    have eA : u2 (u2 (va_up (va_up A 24 g24) 25 g25) 24 r x) 25 r y = va_up (va_up A 24 (upd g24 r x)) 25 (upd g25 r y) := by
      funext k
      by_cases h25 : k = 25
      · subst h25; simp [u2, va_up]
      · by_cases h24 : k = 24
        · subst h24; simp [u2, va_up]
        · simp [u2, va_up, h24, h25]
    rw [eA]
    refine ih _ _ ⟨p + 1, _, _, by omega, e5, rfl, fun r' hr' hp' => ?_⟩ (by rw [e5, nI_clamp (by omega), nI_clamp (by omega)]; omega)
    by_cases e : r' = r
    · subst e
      simp only [upd, if_true]
      rw [ex, ey, er]
      exact ⟨rfl, rfl⟩
    · simp only [upd, e, if_false]
      refine h r' hr' ?_
      have : rk s rows r' ≠ p := fun z => by
        have n1 : ¬ keyI s r' < keyI s r := fun y => by have := (rk_lt hr').mpr y; omega
        have n2 : ¬ keyI s r < keyI s r' := fun y => by have := (rk_lt hr2).mpr y; omega
        exact e (keyI_inj (s := s) (Nat.lt_of_lt_of_le hr' (Nat.le_trans hr (by decide))) (Nat.lt_of_lt_of_le hr2 (Nat.le_trans hr (by decide))) (Int.le_antisymm (Int.not_lt.mp n2) (Int.not_lt.mp n1)))
      omega
/-! the reference -/
theorem m_rankL {rows v : Nat} (hr : rows ≤ 200) (hv : v < rows) {s : Int32} {E : SA → Prop} {Q : Int32 → SA → Prop} (h0 : A 45 v = 0) (hE : E (u2 A 45 v (nI (rk s rows v)))) : ∃ m, wp_X6_folds_77 E Q (nI rows) s (nI v) B m 0 A := by
  have ev : (nI v).toNatClampNeg = v := nI_clamp (by omega)
  have hin := pk_in (x := nI v) v 200 (by omega)
  refine lp2 (wp_X6_folds_77 E Q (nI rows) s (nI v) B) (fun v6 A' => ∃ i : Nat, i ≤ rows ∧ v6 = nI i ∧ A' = u2 A 45 v (nI (rk s i v))) (fun v6 _ => 200 - v6.toNatClampNeg) ?_ _ _ ⟨0, Nat.zero_le _, nI_0.symm, ?_⟩
  · rintro m v6 A' ⟨i, hi, rfl, rfl⟩ ih
    refine pk_le rows i (fun q => ?_) (fun q => ?_)
    · have e : i = rows := by omega
      rw [e]; exact hE
    · refine w6_hash (w6_hash ⟨hin, ?_⟩)
      rw [ev, u2_self]
      have nxt : ∀ (c : Nat) (x v6 : Int32), (if keyI s i < keyI s v then 1 else 0) = c → x = nI (rk s i v) + nI c → v6 = nI i + 1 → wp_X6_folds_77 E Q (nI rows) s (nI v) B m v6 (u2 (u2 A 45 v (nI (rk s i v))) 45 v x) := by
        intro c x v6 hc ex e6
        rw [nI_1] at e6
        rw [nI_add, ← hc, ← rk_succ] at ex
        have eA : u2 (u2 A 45 v (nI (rk s i v))) 45 v x = u2 A 45 v x := by
          funext k j
          by_cases hk : k = 45
          · subst hk
            by_cases hj : j = v
            · subst hj; rw [u2_self, u2_self]
            · rw [u2_ne hj, u2_ne hj, u2_ne hj]
          · rw [u2_kn hk, u2_kn hk, u2_kn hk]
        rw [eA, ex]
        exact ih _ _ ⟨i + 1, by omega, e6, rfl⟩ (by rw [e6, nI_clamp (by omega), nI_clamp (by omega)]; omega)
      have hk : keyI s i < keyI s v ↔ (hashF s (nI i) < hashF s (nI v) ∨ hashF s (nI i) = hashF s (nI v) ∧ i < v) := by
        rw [Int32.lt_iff_toInt_lt, ← Int32.toInt_inj]
        unfold keyI
        omega
      refine ⟨fun z x ex => ⟨hin, fun v6 e6 => nxt 1 x v6 (if_pos (hk.mpr (Or.inl z))) ex e6⟩, fun z => ⟨fun y x ex => ⟨hin, fun v6 e6 => nxt 0 x v6 (if_neg (fun w => ?_)) ex e6⟩, fun y => pk_le v i (fun q2 x ex => ⟨hin, fun v6 e6 => nxt 0 x v6 (if_neg (fun w => ?_)) ex e6⟩) (fun q2 x ex => ⟨hin, fun v6 e6 => nxt 1 x v6 (if_pos (hk.mpr (Or.inr ⟨y, q2⟩))) ex e6⟩)⟩⟩
      · rcases hk.mp w with w | w
        · exact z w
        · exact y w.1
      · rcases hk.mp w with w | w
        · exact z w
        · omega
  · show A = u2 A 45 v (nI 0)
    funext k j
    by_cases hk : k = 45
    · subst hk
      by_cases hj : j = v
      · subst hj; rw [u2_self, h0]; rfl
      · rw [u2_ne hj]
    · rw [u2_kn hk]
theorem m_rankA {rows : Nat} (hr : rows ≤ 200) {s : Int32} {E : SA → Prop} {Q : Int32 → SA → Prop} (hE : ∀ g : Nat → Int32, (∀ r, r < rows → g r = nI (rk s rows r)) → E (va_up A 45 g)) : ∃ m, wp_X6_folds_60 E Q (nI rows) s B m 0 A := by
  refine lp2 (wp_X6_folds_60 E Q (nI rows) s B) (fun v5 A' => ∃ (i : Nat) (g : Nat → Int32), i ≤ rows ∧ v5 = nI i ∧ A' = va_up A 45 g ∧ ∀ r, r < i → g r = nI (rk s rows r)) (fun v5 _ => 200 - v5.toNatClampNeg) ?_ _ _ ⟨0, A 45, Nat.zero_le _, nI_0.symm, (va_up_id _ _).symm, fun r hr => by omega⟩
  rintro m v5 A' ⟨i, g, hi, rfl, rfl, h⟩ ih
  refine pk_le rows i (fun q => ?_) (fun q => ⟨pk_in i 200 (by omega), ?_⟩)
  · exact hE g (fun r hr => h r (by omega))
  · rw [nI_clamp (by omega)]
    refine m_rankL hr q (by rw [u2_self]) (fun v5 e5 => ?_)
    rw [nI_1] at e5
    rw [u2_up, u2_up]
    refine ih _ _ ⟨i + 1, _, by omega, e5, rfl, fun r hr => ?_⟩ (by rw [e5, nI_clamp (by omega), nI_clamp (by omega)]; omega)
    by_cases e : r = i
    · subst e; simp [upd]
    · simp only [upd, e, if_false]; exact h r (by omega)
theorem m_clr47 {E : SA → Prop} {Q : Int32 → SA → Prop} (hE : ∀ g : Nat → Int32, (∀ i, i < 6000 → g i = 0) → E (va_up A 47 g)) : ∃ n, wp_X6_folds_152 E Q B n 0 A := by
  refine lp2 (wp_X6_folds_152 E Q B) (fun v2 A' => ∃ (i : Nat) (g : Nat → Int32), i ≤ 6000 ∧ v2 = nI i ∧ A' = va_up A 47 g ∧ ∀ j, j < i → g j = 0) (fun v2 _ => 6000 - v2.toNatClampNeg) ?_ _ _ ⟨0, A 47, Nat.zero_le _, nI_0.symm, (va_up_id _ _).symm, fun i hi => by omega⟩
  rintro m v2 A' ⟨i, g, hi, rfl, rfl, hg⟩ ih
  refine pk_le 6000 i (fun q => ?_) (fun q => ⟨pk_in i 6000 q, fun v2 e2 => ?_⟩)
  · exact hE g (fun j hj => hg j (by omega))
  · rw [nI_1] at e2
    rw [u2_up, nI_clamp (by omega)]
    refine ih _ _ ⟨i + 1, _, by omega, e2, rfl, fun j hj => ?_⟩ (by rw [e2, nI_clamp (by omega), nI_clamp (by omega)]; omega)
    by_cases hji : j = i
    · subst hji; simp [upd]
    · simp only [upd, hji, if_false]; exact hg j (by omega)
theorem m_clr46 {E : SA → Prop} {Q : Int32 → SA → Prop} (hE : ∀ g : Nat → Int32, (∀ i, i < 10 → g i = 0) → E (va_up A 46 g)) : ∃ n, wp_X6_folds_177 E Q B n 0 A := by
  refine lp2 (wp_X6_folds_177 E Q B) (fun v2 A' => ∃ (i : Nat) (g : Nat → Int32), i ≤ 10 ∧ v2 = nI i ∧ A' = va_up A 46 g ∧ ∀ j, j < i → g j = 0) (fun v2 _ => 10 - v2.toNatClampNeg) ?_ _ _ ⟨0, A 46, Nat.zero_le _, nI_0.symm, (va_up_id _ _).symm, fun i hi => by omega⟩
  rintro m v2 A' ⟨i, g, hi, rfl, rfl, hg⟩ ih
  refine pk_le 10 i (fun q => ?_) (fun q => ⟨pk_in i 10 q, fun v2 e2 => ?_⟩)
  · exact hE g (fun j hj => hg j (by omega))
  · rw [nI_1] at e2
    rw [u2_up, nI_clamp (by omega), nar0]
    refine ih _ _ ⟨i + 1, _, by omega, e2, rfl, fun j hj => ?_⟩ (by rw [e2, nI_clamp (by omega), nI_clamp (by omega)]; omega)
    by_cases hji : j = i
    · subst hji; simp [upd]
    · simp only [upd, hji, if_false]; exact hg j (by omega)
theorem sumE_0 {f : Nat → Int32} {x : Nat} : ∀ k, (∀ j, j < k → f j = 0) → sumE f x k = 0
  | 0, _ => rfl
  | k + 1, h => by
    simp only [sumE]
    rw [sumE_0 k (fun j hj => h j (by omega)), h k (by omega)]
    simp
end FS2
