/-! step: folds, both sides -/
section FS3
variable {A : SA} {B : SB} {n : Nat} {M : Nat → Nat} {P : Nat → Option Nat} {S : Nat → Nat → Bool} {W : Nat → Nat} {t : Nat} {pt st sp : Nat → Nat}
theorem st_folds (h : Inv A B) {a0 a1 a2 a3 : Int32} {K : Int32 → Int32 → SA → SB → Prop} (hK : ∀ r A2 B2, Inv A2 B2 → K r r A2 B2) : wp_X5_folds a0 a1 a2 a3 A B (fun r A1 B1 => wp_X6_folds a0 a1 a2 a3 A1 B1 (fun r2 A2 => K r r2 A2 B1)) := by
  obtain ⟨n, M, P, S, W, t, pt, st, sp, hi⟩ := h
  have kk := hK (-1) A B hi.inv
  refine w_within (fun x1 x2 => br_f (by decide) ?_) (fun z => br_t rfl (w_in (fun a b => absurd ⟨a, b⟩ z) (fun _ => br_t rfl kk)))
  refine w_within (fun y1 y2 => br_f (by decide) ?_) (fun z => br_t rfl (w_in (fun _ _ => br_f (by decide) (w_in (fun a b => absurd ⟨a, b⟩ z) (fun _ => br_t rfl kk))) (fun y => absurd ⟨x1, x2⟩ y)))
  refine w_within (fun z1 z2 => bn_f (by decide) ?_) (fun z => bn_t rfl (w_in (fun _ _ => br_f (by decide) (w_in (fun _ _ => br_f (by decide) (w_in (fun a b => absurd ⟨a, b⟩ z) (fun _ => bn_t rfl kk))) (fun y => absurd ⟨y1, y2⟩ y))) (fun y => absurd ⟨x1, x2⟩ y)))
  have c0 := rgI.mp ⟨x1, x2⟩
  have c1 := rgI.mp ⟨y1, y2⟩
  have c2 := rgI.mp ⟨z1, z2⟩
  have l1 : (1 : Int64).toInt = 1 := rfl
  have l2 : (2 : Int64).toInt = 2 := rfl
  have l10 : (10 : Int64).toInt = 10 := rfl
  have l200 : (200 : Int64).toInt = 200 := rfl
  rw [l1, l200] at c0
  rw [l2, l10] at c1 c2
  obtain ⟨rows, hr, er, -⟩ := nI_ex (x := a0) (by omega)
  obtain ⟨outer, ho, eo, -⟩ := nI_ex (x := a1) (by omega)
  obtain ⟨inner, hin, ein, -⟩ := nI_ex (x := a2) (by omega)
  have b1 : 1 ≤ rows ∧ rows ≤ 200 := by omega
  have b2 : 2 ≤ outer ∧ outer ≤ 10 := by omega
  have b3 : 2 ≤ inner ∧ inner ≤ 10 := by omega
  clear c0 c1 c2 l1 l2 l10 l200 hr ho hin kk
  refine w_fillI (by decide) (by decide) (by decide) (fun f26 h26 => ?_)
  refine w_fillRows (fun A1 k1 h176 => ?_)
  have kA : ∀ k, k < 176 ∨ 186 ≤ k → k ≠ 4 → k ≠ 26 → A1 k = A k := fun k a b c => by rw [k1 k a, va_up_ne _ _ c, u2_kn b, u2_kn b, u2_kn b]
  have k26 : A1 26 = f26 := by rw [k1 26 (by omega), va_up_self]
  have k4 : A1 4 0 = a0 ∧ A1 4 1 = a1 ∧ A1 4 2 = a2 := by
    rw [k1 4 (by omega), va_up_ne _ _ (by decide)]
    exact ⟨by rw [u2_ne (by decide), u2_ne (by decide), u2_self], by rw [u2_ne (by decide), u2_self], by rw [u2_self]⟩
  refine w_sortL (rows := rows) (s := a3) b1.2 (by rw [k4.1, er]) (fun g28 hO => ?_)
  refine w_placeL (rows := rows) (outer := outer) (inner := inner) (s := a3) b1.2 b2 b3 (by rw [k4.1, er]) (by rw [k4.2.1, eo]) (by rw [k4.2.2, ein]) (by rw [va_up_self]; exact hO) (fun g24 g25 h45 => ?_)
  refine w_in (fun _ _ => br_f (by decide) (w_in (fun _ _ => br_f (by decide) (w_in (fun _ _ => bn_f (by decide) ?_) (fun y => absurd ⟨z1, z2⟩ y))) (fun y => absurd ⟨y1, y2⟩ y))) (fun y => absurd ⟨x1, x2⟩ y)
  have hA : ∀ {E : SA → Prop} {Q : Int32 → SA → Prop} {A' : SA} {B' : SB}, (∀ g : Nat → Int32, (∀ r, r < rows → g r = nI (rk a3 rows r)) → E (va_up A' 45 g)) → ∃ m, wp_X6_folds_60 E Q a0 a3 B' m 0 A' := fun h => by rw [er]; exact m_rankA b1.2 h
  refine hA (fun f45 h45' => m_clr47 (fun f47 h47 => m_clr46 (fun f46 h46 => ?_)))
  obtain ⟨A2, eA2⟩ : ∃ A2 : SA, A2 = va_up (va_up (va_up (u2 (u2 (u2 (va_up (va_up A1 24 g24) 25 g25) 5 25 a0) 5 26 a1) 5 27 a2) 45 f45) 47 f47) 46 f46 := ⟨_, rfl⟩
  rw [← eA2]
  have q46 : A2 46 = f46 := by rw [eA2, va_up_self]
  have q47 : A2 47 = f47 := by rw [eA2, va_up_ne _ _ (by decide), va_up_self]
  have q45 : A2 45 = f45 := by rw [eA2, va_up_ne _ _ (by decide), va_up_ne _ _ (by decide), va_up_self]
  have qq : ∀ k, k ≠ 45 → k ≠ 46 → k ≠ 47 → A2 k = (u2 (u2 (u2 (va_up (va_up A1 24 g24) 25 g25) 5 25 a0) 5 26 a1) 5 27 a2) k := fun k a b c => by rw [eA2, va_up_ne _ _ b, va_up_ne _ _ c, va_up_ne _ _ a]
  have q5 : A2 5 25 = a0 ∧ A2 5 26 = a1 ∧ A2 5 27 = a2 := by
    rw [qq 5 (by decide) (by decide) (by decide)]
    exact ⟨by rw [u2_ne (by decide), u2_ne (by decide), u2_self], by rw [u2_ne (by decide), u2_self], by rw [u2_self]⟩
  have q5n : ∀ j, j ≠ 25 → j ≠ 26 → j ≠ 27 → A2 5 j = A 5 j := fun j a b c => by rw [qq 5 (by decide) (by decide) (by decide), u2_ne c, u2_ne b, u2_ne a, va_up_ne _ _ (by decide), va_up_ne _ _ (by decide), kA 5 (by omega) (by decide) (by decide)]
  have qr : ∀ k, k ≠ 45 → k ≠ 46 → k ≠ 47 → k ≠ 5 → k ≠ 24 → k ≠ 25 → A2 k = A1 k := fun k a b c d e f => by rw [qq k a b c, u2_kn d, u2_kn d, u2_kn d, va_up_ne _ _ f, va_up_ne _ _ e]
  have q24 : A2 24 = g24 := by rw [qq 24 (by decide) (by decide) (by decide), u2_kn (by decide), u2_kn (by decide), u2_kn (by decide), va_up_ne _ _ (by decide), va_up_self]
  have q25 : A2 25 = g25 := by rw [qq 25 (by decide) (by decide) (by decide), u2_kn (by decide), u2_kn (by decide), u2_kn (by decide), va_up_self]
  have q4 : A2 4 = A1 4 := qr 4 (by decide) (by decide) (by decide) (by decide) (by decide) (by decide)
  have q26 : A2 26 = f26 := by rw [qr 26 (by decide) (by decide) (by decide) (by decide) (by decide) (by decide), k26]
  have z26 : ∀ o, o < 10 → A2 26 o = 0 := fun o ho => by rw [q26]; exact h26 o ho
  have z176 : ∀ o j, o < 10 → j < 10 → A2 (176 + o) j = 0 := fun o j ho hj => by rw [qr (176 + o) (by omega) (by omega) (by omega) (by omega) (by omega) (by omega)]; exact h176 o j ho hj
  refine hK _ _ _ (hi.fo (rows := rows) (outer := outer) (inner := inner) (pl := rk a3 rows) ⟨fun k d0 d1 d2 d3 d4 d5 d6 d7 d8 => ?_, q5n, fun k hk => va_up_ne _ _ hk⟩ ?_)
  · rw [qr k d5 d6 d7 d8 d2 d3, kA k (Or.inl d0) d1 d4]
  · refine ⟨b1.2, by rw [q4, k4.1, er], by rw [q5.1, er], by rw [q4, k4.2.1, eo], by rw [q5.2.1, eo], by rw [q4, k4.2.2, ein], by rw [q5.2.2, ein], Or.inr ⟨b1.1, b2.1, b2.2, b3.1, b3.2⟩, fun r hr => ?_, fun o ho => ?_, fun r o hr ho => ?_⟩
    · have := rk_self (s := a3) hr
      exact ⟨by omega, by rw [q45]; exact h45' r hr, by rw [q24]; exact (h45 r hr).1, by rw [q25]; exact (h45 r hr).2⟩
    · rw [z26 o (by omega), q46, h46 o (by omega)]
      exact ⟨rfl, Or.inl rfl⟩
    · have hm2 : rk a3 rows r / outer % inner < inner := Nat.mod_lt _ (by omega)
      rw [q47, h47 _ (by omega), h47 _ (by omega), h47 _ (by omega), z26 o (by omega), z176 o _ (by omega) (by omega), sumE_0 inner (fun j hj => z176 o j (by omega) (by omega))]
      simp
end FS3
