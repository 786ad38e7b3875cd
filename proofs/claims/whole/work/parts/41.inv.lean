/-! what holds between two calls: class and reference hold the same -/
def cntN (p : Nat → Bool) : Nat → Nat
  | 0 => 0
  | k + 1 => cntN p k + if p k = true then 1 else 0
theorem cntN_le (p : Nat → Bool) : ∀ k, cntN p k ≤ k
  | 0 => Nat.le_refl 0
  | k + 1 => by simp only [cntN]; have := cntN_le p k; split <;> omega
theorem cntN_congr {p q : Nat → Bool} : ∀ {k : Nat}, (∀ i, i < k → p i = q i) → cntN p k = cntN q k
  | 0, _ => rfl
  | k + 1, h => by simp only [cntN]; rw [cntN_congr (fun i hi => h i (by omega)), h k (by omega)]
def ISp (n : Nat) (M : Nat → Nat) (P : Nat → Option Nat) (S : Nat → Nat → Bool) (W : Nat → Nat) (A : SA) (B : SB) : Prop :=
  Shp n M P ∧ WOK n M P S W ∧ SpC n M P S A ∧ SpW n M P S W B ∧ SpM n M P S A ∧ ∀ c, c < n → B 32 c = lN (W c)
def ITr (n : Nat) (M : Nat → Nat) (P : Nat → Option Nat) (S : Nat → Nat → Bool) (W : Nat → Nat) (t : Nat) (pt st sp : Nat → Nat) (A : SA) (B : SB) : Prop :=
  t ≤ 60 ∧ A 2 0 = nI t ∧ A 5 6 = nI t ∧ A 2 1 = nI (cntN (fun i => decide (st i = 1)) t)
  ∧ (∀ i, i < t → pt i < allN n P W ∧ B 13 i = lN (pt i) ∧ B 34 i = lN (pt i))
  ∧ (∀ i, i < t → st i ≤ 3 ∧ A 14 i = nI (st i) ∧ A 35 i = nI (st i))
  ∧ (∀ i, i < t → A 15 i = A 36 i ∧ -1000000 ≤ A 15 i ∧ A 15 i ≤ 1000000 ∧ (st i = 0 → A 15 i = 0))
  ∧ (∀ i, t ≤ i → i < 60 → A 15 i = 0 ∧ A 16 i = 0)
  ∧ (∀ i, i < t → sp i ≤ 20 ∧ A 16 i = nI (sp i) ∧ A 37 i = nI (sp i))
  ∧ (∀ i s, i < t → s < sp i → A (56 + i) s = A 38 (20 * i + s))
  ∧ (∀ i, i < t → ∃ vals lf, RdIs n M P S W (pt i) vals lf ∧ ∀ j, j < n → A (116 + i) j = enc (vals j))
def IRo (sd : Nat → Nat) (A : SA) (B : SB) : Prop :=
  (∀ i, i < 60 → sd i ≤ 3 ∧ A 23 i = nI (sd i) ∧ A 41 i = (if sd i = 0 then 0 else 1) ∧ A 42 i = (if sd i = 2 then 1 else 0) ∧ A 43 i = (if sd i = 3 then 1 else 0) ∧ A 22 i = (if sd i = 2 then A 44 i else 0))
  ∧ A 3 0 = A 5 15 ∧ (A 3 0 = 0 ∨ A 3 0 = 1) ∧ A 3 4 = A 5 23 ∧ (A 3 4 = 0 ∨ A 3 4 = 1) ∧ A 3 5 = nI (cntN (fun i => decide (sd i ≠ 0)) 60) ∧ A 3 6 = nI (cntN (fun i => decide (sd i = 1)) 60)
  ∧ A 3 7 = A 5 22 ∧ A 3 8 = A 5 20 ∧ A 3 9 = A 5 21 ∧ B 3 1 = B 5 24 ∧ (A 3 0 = 1 → (∃ f, 2 ≤ f ∧ f ≤ 5 ∧ A 3 9 = nI f) ∧ ∃ b, b ≤ 1000000000 ∧ A 3 8 = nI b) ∧ (A 3 0 = 0 → ∀ i, i < 60 → sd i = 0)
def sumE (f : Nat → Int32) (x : Nat) : Nat → Int32
  | 0 => 0
  | k + 1 => sumE f x k + if k = x then 0 else f k
def IFo (rows outer inner : Nat) (pl : Nat → Nat) (A : SA) : Prop :=
  rows ≤ 200 ∧ A 4 0 = nI rows ∧ A 5 25 = nI rows ∧ A 4 1 = nI outer ∧ A 5 26 = nI outer ∧ A 4 2 = nI inner ∧ A 5 27 = nI inner
  ∧ ((rows = 0 ∧ outer = 0 ∧ inner = 0) ∨ (1 ≤ rows ∧ 2 ≤ outer ∧ outer ≤ 10 ∧ 2 ≤ inner ∧ inner ≤ 10))
  ∧ (∀ r, r < rows → pl r < 200 ∧ A 45 r = nI (pl r) ∧ A 24 r = nI (pl r % outer) ∧ A 25 r = nI (pl r / outer % inner))
  ∧ (∀ o, o < outer → A 26 o = A 46 o ∧ (A 26 o = 0 ∨ A 26 o = 1))
  ∧ ∀ r o, r < rows → o < outer → A 47 (30 * r + 3 * o + 2) = (if pl r % outer = o then A 26 o else 0) ∧ A 47 (30 * r + 3 * o + 1) = (if pl r % outer = o then 0 else A (176 + o) (pl r / outer % inner)) ∧ A 47 (30 * r + 3 * o) = (if pl r % outer = o then 0 else A 26 o + sumE (A (176 + o)) (pl r / outer % inner) inner)
/-- the whole state, with its witnesses -/
def InvW (n : Nat) (M : Nat → Nat) (P : Nat → Option Nat) (S : Nat → Nat → Bool) (W : Nat → Nat) (t : Nat) (pt st sp : Nat → Nat) (A : SA) (B : SB) : Prop :=
  ISp n M P S W A B ∧ ITr n M P S W t pt st sp A B ∧ (∃ sd, IRo sd A B) ∧ ∃ rows outer inner pl, IFo rows outer inner pl A
def Inv (A : SA) (B : SB) : Prop := ∃ n M P S W t pt st sp, InvW n M P S W t pt st sp A B
/-! frames -/
section FR
variable {n : Nat} {M : Nat → Nat} {P : Nat → Option Nat} {S : Nat → Nat → Bool} {W : Nat → Nat} {t : Nat} {pt st sp : Nat → Nat} {A A' : SA} {B B' : SB}
theorem ISp.fr (h : ISp n M P S W A B) (h1 : A' 1 = A 1) (h8 : A' 8 = A 8) (h9 : A' 9 = A 9) (h10 : A' 10 = A 10) (h5 : A' 5 0 = A 5 0) (h29 : A' 29 = A 29) (h30 : A' 30 = A 30) (h31 : A' 31 = A 31) (b1 : B' 1 = B 1) (b11 : B' 11 = B 11) (b32 : B' 32 = B 32) (b48 : ∀ i, i < 8 → B' (48 + i) = B (48 + i)) : ISp n M P S W A' B' := by
  obtain ⟨g1, g2, g3, g4, g5, g6⟩ := h
  have hn := g1.1
  refine ⟨g1, g2, g3.fr (by rw [h1]) h8 h9 h10, ⟨by rw [b1]; exact g4.1, fun i hi => by rw [b11]; exact g4.2.1 i hi, fun i v hi hv => by rw [b48 i (by omega)]; exact g4.2.2 i v hi hv⟩, g5.fr h5 h29 h30 h31, fun c hc => by rw [b32]; exact g6 c hc⟩
theorem ITr.fr (h : ITr n M P S W t pt st sp A B) (h2 : A' 2 = A 2) (h56 : A' 5 6 = A 5 6) (h14 : A' 14 = A 14) (h15 : A' 15 = A 15) (h16 : A' 16 = A 16) (h35 : A' 35 = A 35) (h36 : A' 36 = A 36) (h37 : A' 37 = A 37) (h38 : A' 38 = A 38) (hr : ∀ i, i < 60 → A' (56 + i) = A (56 + i)) (hv : ∀ i, i < 60 → A' (116 + i) = A (116 + i)) (b13 : B' 13 = B 13) (b34 : B' 34 = B 34) : ITr n M P S W t pt st sp A' B' := by
  obtain ⟨g1, g2, g3, g4, g5, g6, g7, g8, g9, g10, g11⟩ := h
  refine ⟨g1, by rw [h2]; exact g2, by rw [h56]; exact g3, by rw [h2]; exact g4, fun i hi => by rw [b13, b34]; exact g5 i hi, fun i hi => by rw [h14, h35]; exact g6 i hi, fun i hi => by rw [h15, h36]; exact g7 i hi, fun i h1 h2 => by rw [h15, h16]; exact g8 i h1 h2, fun i hi => by rw [h16, h37]; exact g9 i hi, fun i s hi hs => by rw [hr i (by omega), h38]; exact g10 i s hi hs, fun i hi => ?_⟩
  rw [hv i (by omega)]
  exact g11 i hi
theorem IRo.fr {sd : Nat → Nat} (h : IRo sd A B) (h3 : A' 3 = A 3) (h22 : A' 22 = A 22) (h23 : A' 23 = A 23) (h41 : A' 41 = A 41) (h42 : A' 42 = A 42) (h43 : A' 43 = A 43) (h44 : A' 44 = A 44) (h15 : A' 5 15 = A 5 15) (h20 : A' 5 20 = A 5 20) (h21 : A' 5 21 = A 5 21) (h522 : A' 5 22 = A 5 22) (h523 : A' 5 23 = A 5 23) (b3 : B' 3 = B 3) (b5 : B' 5 = B 5) : IRo sd A' B' := by
  unfold IRo
  rw [h3, h22, h23, h41, h42, h43, h44, h15, h20, h21, h522, h523, b3, b5]
  exact h
theorem IFo.fr {rows outer inner : Nat} {pl : Nat → Nat} (h : IFo rows outer inner pl A) (h4 : A' 4 = A 4) (h25 : A' 5 25 = A 5 25) (h26 : A' 5 26 = A 5 26) (h27 : A' 5 27 = A 5 27) (h24 : A' 24 = A 24) (h25' : A' 25 = A 25) (h26' : A' 26 = A 26) (h45 : A' 45 = A 45) (h46 : A' 46 = A 46) (h47 : A' 47 = A 47) (hr : ∀ o, o < 10 → A' (176 + o) = A (176 + o)) : IFo rows outer inner pl A' := by
  obtain ⟨g1, g2, g3, g4, g5, g6, g7, g8, g9, g10, g11⟩ := h
  refine ⟨g1, by rw [h4]; exact g2, by rw [h25]; exact g3, by rw [h4]; exact g4, by rw [h26]; exact g5, by rw [h4]; exact g6, by rw [h27]; exact g7, g8, fun r hr => by rw [h45, h24, h25']; exact g9 r hr, fun o ho => by rw [h26', h46]; exact g10 o ho, fun r o hr2 ho => ?_⟩
  have ho10 : o < 10 := by omega
  rw [h47, h26', hr o ho10]
  exact g11 r o hr2 ho
/-- only what a call has in hand has changed -/
def Scr (A A' : SA) : Prop := (∀ k, k ≠ 5 → k ≠ 6 → k ≠ 7 → k ≠ 19 → k ≠ 20 → k ≠ 21 → k ≠ 33 → k ≠ 39 → k ≠ 40 → A' k = A k) ∧ ∀ j, j ≠ 13 → A' 5 j = A 5 j
theorem Scr.rf : Scr A A := ⟨fun _ _ _ _ _ _ _ _ _ _ => rfl, fun _ _ => rfl⟩
theorem Scr.tr {A2 : SA} (h : Scr A A') (h2 : Scr A' A2) : Scr A A2 := ⟨fun k a b c d e f g i j => by rw [h2.1 k a b c d e f g i j, h.1 k a b c d e f g i j], fun j hj => by rw [h2.2 j hj, h.2 j hj]⟩
theorem Scr.up {k : Nat} {f : Nat → Int32} (hk : k = 6 ∨ k = 7 ∨ k = 19 ∨ k = 20 ∨ k = 21 ∨ k = 33 ∨ k = 39 ∨ k = 40) : Scr A (va_up A k f) := by
  refine ⟨fun c _ _ _ _ _ _ _ _ _ => va_up_ne _ _ (by omega), fun j _ => by rw [va_up_ne _ _ (by omega)]⟩
theorem Scr.tk {x : Int32} : Scr A (u2 A 5 13 x) := ⟨fun c h _ _ _ _ _ _ _ _ => u2_kn h, fun j hj => u2_ne hj⟩
theorem ISp.scr (h : ISp n M P S W A B) (hs : Scr A A') : ISp n M P S W A' B :=
  h.fr (hs.1 1 (by decide) (by decide) (by decide) (by decide) (by decide) (by decide) (by decide) (by decide) (by decide)) (hs.1 8 (by decide) (by decide) (by decide) (by decide) (by decide) (by decide) (by decide) (by decide) (by decide)) (hs.1 9 (by decide) (by decide) (by decide) (by decide) (by decide) (by decide) (by decide) (by decide) (by decide)) (hs.1 10 (by decide) (by decide) (by decide) (by decide) (by decide) (by decide) (by decide) (by decide) (by decide)) (hs.2 0 (by decide)) (hs.1 29 (by decide) (by decide) (by decide) (by decide) (by decide) (by decide) (by decide) (by decide) (by decide)) (hs.1 30 (by decide) (by decide) (by decide) (by decide) (by decide) (by decide) (by decide) (by decide) (by decide)) (hs.1 31 (by decide) (by decide) (by decide) (by decide) (by decide) (by decide) (by decide) (by decide) (by decide)) rfl rfl rfl (fun _ _ => rfl)
theorem Scr.at {k : Nat} (hs : Scr A A') (hk : k ≠ 5 ∧ k ≠ 6 ∧ k ≠ 7 ∧ k ≠ 19 ∧ k ≠ 20 ∧ k ≠ 21 ∧ k ≠ 33 ∧ k ≠ 39 ∧ k ≠ 40) : A' k = A k := hs.1 k hk.1 hk.2.1 hk.2.2.1 hk.2.2.2.1 hk.2.2.2.2.1 hk.2.2.2.2.2.1 hk.2.2.2.2.2.2.1 hk.2.2.2.2.2.2.2.1 hk.2.2.2.2.2.2.2.2
theorem ITr.scr (h : ITr n M P S W t pt st sp A B) (hs : Scr A A') : ITr n M P S W t pt st sp A' B :=
  h.fr (hs.at (by decide)) (hs.2 6 (by decide)) (hs.at (by decide)) (hs.at (by decide)) (hs.at (by decide)) (hs.at (by decide)) (hs.at (by decide)) (hs.at (by decide)) (hs.at (by decide)) (fun i _ => hs.at (by omega)) (fun i _ => hs.at (by omega)) rfl rfl
theorem IRo.scr {sd : Nat → Nat} (h : IRo sd A B) (hs : Scr A A') : IRo sd A' B :=
  h.fr (hs.at (by decide)) (hs.at (by decide)) (hs.at (by decide)) (hs.at (by decide)) (hs.at (by decide)) (hs.at (by decide)) (hs.at (by decide)) (hs.2 15 (by decide)) (hs.2 20 (by decide)) (hs.2 21 (by decide)) (hs.2 22 (by decide)) (hs.2 23 (by decide)) rfl rfl
theorem IFo.scr {rows outer inner : Nat} {pl : Nat → Nat} (h : IFo rows outer inner pl A) (hs : Scr A A') : IFo rows outer inner pl A' :=
  h.fr (hs.at (by decide)) (hs.2 25 (by decide)) (hs.2 26 (by decide)) (hs.2 27 (by decide)) (hs.at (by decide)) (hs.at (by decide)) (hs.at (by decide)) (hs.at (by decide)) (hs.at (by decide)) (hs.at (by decide)) (fun o _ => hs.at (by omega))
theorem InvW.scr (h : InvW n M P S W t pt st sp A B) (hs : Scr A A') : InvW n M P S W t pt st sp A' B := by
  obtain ⟨h1, h2, ⟨sd, h3⟩, rows, outer, inner, pl, h4⟩ := h
  exact ⟨h1.scr hs, h2.scr hs, ⟨sd, h3.scr hs⟩, rows, outer, inner, pl, h4.scr hs⟩
theorem InvW.inv (h : InvW n M P S W t pt st sp A B) : Inv A B := ⟨n, M, P, S, W, t, pt, st, sp, h⟩
/-! points that are none -/
theorem w_isPoint (h : ISp n M P S W A B) {x : Int64} {Q : Int32 → Prop} (h1 : ∀ p : Nat, x = lN p → p < allN n P W → Q 1) (h0 : ¬ ((0 : Int64) ≤ x ∧ x ≤ lN (allN n P W) - 1) → Q 0) : wp_X5_isPoint x A B Q := by
  have hb := all_bd h.1 h.2.1
  have e1 : lN (allN n P W) - 1 = lN (allN n P W - 1) := by rw [show (1 : Int64) = lN 1 from rfl, lN_sub hb.1]
  unfold wp_X5_isPoint
  rw [h.2.2.2.1.1]
  refine w_within (fun a b => ⟨by decide +kernel, ?_⟩) (fun z => ⟨by decide +kernel, h0 z⟩)
  obtain ⟨p, hp, rfl⟩ := pk_lOf (Int64.not_lt.mpr a)
  rw [e1, pk_lLE hp (by omega)] at b
  exact h1 p rfl (by omega)
theorem w6_noPoint (h : ISp n M P S W A B) {x : Int64} {Q : Int32 → Prop} (h1 : ∀ p : Nat, x = lN p → p < allN n P W → Q 0) (h0 : ¬ ((0 : Int64) ≤ x ∧ x ≤ lN (allN n P W) - 1) → Q 1) : wp_X6_noPoint x A B Q := by
  have hb := all_bd h.1 h.2.1
  have e1 : lN (allN n P W) - 1 = lN (allN n P W - 1) := by rw [show (1 : Int64) = lN 1 from rfl, lN_sub hb.1]
  refine w6_points h.1 h.2.2.2.2.1 h.2.2.2.2.2 (w_in (fun a b => ?_) (fun z => ?_))
  · obtain ⟨p, hp, rfl⟩ := pk_lOf (Int64.not_lt.mpr a)
    rw [e1, pk_lLE hp (by omega)] at b
    exact bn_f (by decide) (h1 p rfl (by omega))
  · exact bn_t rfl (h0 z)
theorem isP_no {x : Int64} {p m : Nat} (hm : 1 ≤ m) (hm2 : m ≤ 656100000000) (hp : p < m) (hx : x = lN p) (h : ¬ ((0 : Int64) ≤ x ∧ x ≤ lN m - 1)) : False := by
  refine h ⟨?_, ?_⟩
  · rw [hx, show (0 : Int64) = lN 0 from rfl, pk_lLE (by omega) (by omega)]; omega
  · rw [hx, show (1 : Int64) = lN 1 from rfl, lN_sub hm, pk_lLE (by omega) (by omega)]; omega
end FR
