/-! steps: points, value, number, distance, name -/
theorem rgI {x : Int32} {lo hi : Int64} : (lo ≤ x.toInt64 ∧ x.toInt64 ≤ hi) ↔ (lo.toInt ≤ x.toInt ∧ x.toInt ≤ hi.toInt) := by
  rw [Int64.le_iff_toInt_le, Int64.le_iff_toInt_le, Int32.toInt_toInt64]
theorem nI_T {x : Int32} {j : Nat} (hj : j < 2 ^ 31) (h : x.toInt = (j : Int)) : x = nI j := Int32.toInt_inj.mp (by rw [h, nI_toInt hj])
theorem nI_ex {x : Int32} (h : 0 ≤ x.toInt) : ∃ j : Nat, x.toInt = (j : Int) ∧ x = nI j ∧ j < 2 ^ 31 := by
  have hlt := Int32.toInt_lt x
  refine ⟨x.toInt.toNat, by omega, ?_, by omega⟩
  exact nI_T (by omega) (by omega)
theorem rgN {x : Int32} {n : Nat} (hn : n < 2 ^ 31) : ((0 : Int64) ≤ x.toInt64 ∧ x.toInt64 ≤ (nI n - 1).toInt64) ↔ ∃ j : Nat, j < n ∧ x = nI j := by
  rw [rgI, Int32.toInt_toInt64, show (0 : Int64).toInt = 0 from rfl]
  have e : (nI n - 1).toInt = (n : Int) - 1 := by
    cases n with
    | zero => decide +kernel
    | succ n => rw [nI_pred, nI_toInt (by omega)]; omega
  rw [e]
  constructor
  · rintro ⟨h1, h2⟩
    obtain ⟨j, h3, h4, -⟩ := nI_ex h1
    exact ⟨j, by omega, h4⟩
  · rintro ⟨j, hj, rfl⟩
    rw [nI_toInt (by omega)]
    omega
section SS
variable {A : SA} {B : SB}
theorem st_points (h : Inv A B) {K : Int64 → Int64 → Prop} (hK : ∀ r, K r r) : wp_X5_points A B (fun r => wp_X6_points A B (fun r2 => K r r2)) := by
  obtain ⟨n, M, P, S, W, t, pt, st, sp, h1, -⟩ := h
  show wp_X6_points A B _
  rw [h1.2.2.2.1.1]
  exact w6_points h1.1 h1.2.2.2.2.1 h1.2.2.2.2.2 (hK _)
theorem off6 : offC 6 := ⟨rfl, by decide, rfl, by decide, by decide, by decide, by decide⟩
theorem off7 : offC 7 := ⟨rfl, by decide, rfl, by decide, by decide, by decide, by decide⟩
theorem st_value (h : Inv A B) {x : Int64} {y : Int32} {K : Int32 → Int32 → SA → Prop} (hK : ∀ r A2, Inv A2 B → K r r A2) : wp_X5_value x y A B (fun r A1 => wp_X6_value x y A1 B (fun r2 A2 => K r r2 A2)) := by
  obtain ⟨n, M, P, S, W, t, pt, st, sp, hi⟩ := h
  have h1 := hi.1
  have hbd := all_bd h1.1 h1.2.1
  have hn := h1.1.1
  refine w_isPoint h1 (fun p hx hp => br_f (by decide) ?_) (fun z => br_t rfl ?_)
  · rw [h1.2.2.1.1]
    refine w_within (fun a b => bn_f (by decide) ?_) (fun z => bn_t rfl ?_)
    · obtain ⟨j, hj, rfl⟩ := (rgN (by omega)).mp ⟨a, b⟩
      obtain ⟨vals, lf, hr⟩ := rd_ex h1.1 h1.2.1 hp
      have ej : (nI j).toNatClampNeg = j := nI_clamp (by omega)
      rw [hx]
      refine w_read h1.1 h1.2.1 h1.2.2.1 h1.2.2.2.1 off6 hr (fun f hf => ⟨pk_in j 8 (by omega), ?_⟩)
      have hs1 : Scr A (va_up A 6 f) := Scr.up (by decide)
      have h2 := h1.scr hs1
      refine w6_noPoint h2 (fun p' hx' hp' => bn_t rfl ?_) (fun z => (isP_no hbd.1 hbd.2 hp rfl z).elim)
      rw [h2.2.2.2.2.1.1]
      refine w_in (fun _ _ => bn_f (by decide) ?_) (fun z => absurd ⟨a, b⟩ z)
      show wp_X6_find (nI 0) (lN p) (va_up A 6 f) B _
      refine w6_find h2.1 h2.2.1 h2.2.2.2.2.1 h2.2.2.2.2.2 (Or.inl rfl) hr (fun g hg _ => ⟨pk_in j 16 (by omega), ?_⟩)
      have e1 : va_up A 6 f 6 (nI j).toNatClampNeg = enc (vals j) := by rw [ej, va_up_self]; exact hf j hj
      have e2 : va_up (va_up A 6 f) 33 g 33 (nI j).toNatClampNeg = enc (vals j) := by rw [ej, va_up_self]; simpa using hg j hj
      rw [e1, e2]
      exact hK _ _ (hi.scr (hs1.tr (Scr.up (by decide)))).inv
    · refine w6_noPoint h1 (fun p' hx' hp' => bn_t rfl ?_) (fun z => (isP_no hbd.1 hbd.2 hp hx z).elim)
      rw [h1.2.2.2.2.1.1]
      exact w_in (fun a b => absurd ⟨a, b⟩ z) (fun _ => bn_t rfl (hK _ _ hi.inv))
  · exact w6_noPoint h1 (fun p' hx' hp' => (isP_no hbd.1 hbd.2 hp' hx' z).elim) (fun _ => bn_f (by decide) (hK _ _ hi.inv))
theorem st_number (h : Inv A B) {x : Int64} {K : Int64 → Int64 → SA → Prop} (hK : ∀ r A2, Inv A2 B → K r r A2) : wp_X5_number x A B (fun r A1 => wp_X6_number x A1 B (fun r2 A2 => K r r2 A2)) := by
  obtain ⟨n, M, P, S, W, t, pt, st, sp, hi⟩ := h
  have h1 := hi.1
  have hn := h1.1.1
  obtain ⟨w, hw, rfl⟩ := wb_of x
  obtain ⟨vals, hf⟩ := fill_ex (S := S) h1.1 (dgN w)
  refine w_takeBits h1.1 h1.2.2.1 off6 (fun i hi => dg_c hw (by omega)) hf (fun hok f hf2 => br_f (by decide) ?_) (fun hno f => br_t rfl ?_)
  · have hs1 : Scr A (va_up A 6 f) := Scr.up (by decide)
    have h2 := h1.scr hs1
    refine w_place h2.1 h2.2.1 h2.2.2.1 h2.2.2.2.1 off6 (hf.ok hok) (fun i hi => by rw [va_up_self]; exact hf2 i hi) ?_
    refine w6_number h2.1 h2.2.2.2.2.1 h2.2.2.2.2.2 hw hf (fun _ g => ?_) (fun z => absurd hok z)
    exact hK _ _ (hi.scr (hs1.tr (Scr.up (by decide)))).inv
  · have hs1 : Scr A (va_up A 6 f) := Scr.up (by decide)
    have h2 := h1.scr hs1
    refine w6_number h2.1 h2.2.2.2.2.1 h2.2.2.2.2.2 hw hf (fun z => absurd z hno) (fun _ g => ?_)
    exact hK _ _ (hi.scr (hs1.tr (Scr.up (by decide)))).inv
theorem RdIs.v30 {n : Nat} {M : Nat → Nat} {P : Nat → Option Nat} {S : Nat → Nat → Bool} {W : Nat → Nat} (hs : Shp n M P) {p : Nat} {va : Nat → Option Nat} {la : Nat → Nat} (ha : RdIs n M P S W p va la) : ∀ i v, i < n → va i = some v → v < 30 := by
  intro i v hi e
  have hM := hs.2.1 i hi
  cases hT : thB P S va i with
  | true => obtain ⟨w, h1, h2⟩ := (ha.ok i hi).1 hT; rw [e] at h1; cases h1; omega
  | false => have h1 := (ha.ok i hi).2 hT; rw [e] at h1; cases h1
theorem st_distance (h : Inv A B) {x y : Int64} {K : Int32 → Int32 → SA → Prop} (hK : ∀ r A2, Inv A2 B → K r r A2) : wp_X5_distance x y A B (fun r A1 => wp_X6_distance x y A1 B (fun r2 A2 => K r r2 A2)) := by
  obtain ⟨n, M, P, S, W, t, pt, st, sp, hi⟩ := h
  have h1 := hi.1
  have hbd := all_bd h1.1 h1.2.1
  refine w_isPoint h1 (fun p hx hp => br_f (by decide) ?_) (fun z => br_t rfl ?_)
  · refine w_isPoint h1 (fun q hy hq => bn_f (by decide) ?_) (fun z => bn_t rfl ?_)
    · obtain ⟨va, la, ha⟩ := rd_ex h1.1 h1.2.1 hp
      obtain ⟨vb, lb, hb⟩ := rd_ex h1.1 h1.2.1 hq
      subst hx; subst hy
      refine w_read h1.1 h1.2.1 h1.2.2.1 h1.2.2.2.1 off6 ha (fun f hf => ?_)
      have hs1 : Scr A (va_up A 6 f) := Scr.up (by decide)
      have h2 := h1.scr hs1
      refine w_read h2.1 h2.2.1 h2.2.2.1 h2.2.2.2.1 off7 hb (fun g hg => ?_)
      have hs2 : Scr A (va_up (va_up A 6 f) 7 g) := hs1.tr (Scr.up (by decide))
      have h3 := h1.scr hs2
      refine w_apart h3.1 h3.2.2.1 off6 off7 (va := va) (vb := vb) (fun i hi => by rw [va_up_ne _ _ (by decide), va_up_self]; exact hf i hi) (fun i hi => by rw [va_up_self]; exact hg i hi) (ha.v30 h1.1) (hb.v30 h1.1) ?_
      refine w6_noPoint h3 (fun p' hx' hp' => bn_t rfl ?_) (fun z => (isP_no hbd.1 hbd.2 hp rfl z).elim)
      refine w6_noPoint h3 (fun p' hx' hp' => br_t rfl ?_) (fun z => (isP_no hbd.1 hbd.2 hq rfl z).elim)
      refine w6_distanceOf h3.1 h3.2.1 h3.2.2.2.2.1 h3.2.2.2.2.2 ha hb (fun f2 => ?_)
      exact hK _ _ (hi.scr (hs2.tr (Scr.up (by decide)))).inv
    · refine w6_noPoint h1 (fun p' hx' hp' => bn_t rfl ?_) (fun z2 => (isP_no hbd.1 hbd.2 hp hx z2).elim)
      exact w6_noPoint h1 (fun p' hx' hp' => (isP_no hbd.1 hbd.2 hp' hx' z).elim) (fun _ => br_f (by decide) (hK _ _ hi.inv))
  · exact w6_noPoint h1 (fun p' hx' hp' => (isP_no hbd.1 hbd.2 hp' hx' z).elim) (fun _ => bn_f (by decide) (hK _ _ hi.inv))
/-! a name comes -/
/-- what the reference does once it takes the name -/
def nameL (a0 a1 a2 : Int32) (A1 : SA) (B1 : SB) (Q : Int32 → SA → SB → Prop) : Prop :=
  vp_in (A1 5 0) 8 ∧ vp_in (A1 5 0) 8 ∧ vp_in (A1 5 0) 8 ∧ ∀ x15 : Int32, x15 = ((A1 5 0) + (1 : Int32)) → ∀ x16 : Int32, x16 = (x15 - (1 : Int32)) → ∃ m, wp_X6_name_118 (fun B2 => Q (x15 - (1 : Int32)) (u2 (u2 (u2 (u2 A1 29 (A1 5 0).toNatClampNeg a0) 30 (A1 5 0).toNatClampNeg a1) 31 (A1 5 0).toNatClampNeg a2) 5 0 x15) B2) Q (u2 (u2 (u2 (u2 A1 29 (A1 5 0).toNatClampNeg a0) 30 (A1 5 0).toNatClampNeg a1) 31 (A1 5 0).toNatClampNeg a2) 5 0 x15) m x16 B1
def nameT (a0 a1 a2 : Int32) (A1 : SA) (B1 : SB) (Q : Int32 → SA → SB → Prop) : Prop :=
  (((A1 5 6) ≤ 0 → ((¬ (A1 5 0) = (8 : Int32) → nameL a0 a1 a2 A1 B1 Q) ∧ ((A1 5 0) = (8 : Int32) → Q (-4) A1 B1))) ∧ (¬ (A1 5 6) ≤ 0 → Q (-3) A1 B1))
theorem m_name {a0 a1 a2 : Int32} {Q : Int32 → SA → SB → Prop} (c1 : (1 : Int64) ≤ a0.toInt64 ∧ a0.toInt64 ≤ 30) (c2 : (-1 : Int64) ≤ a1.toInt64 ∧ a1.toInt64 ≤ ((A 5 0) - (1 : Int32)).toInt64) (c3 : ¬ a1 < 0 → ((1 : Int64) ≤ a2.toInt64 ∧ a2.toInt64 ≤ 1073741823)) (h : nameT a0 a1 a2 A B Q) : wp_X6_name a0 a1 a2 A B Q :=
  w_in (fun _ _ => br_f (by decide) (w_in (fun _ _ => br_f (by decide) ⟨fun _ => h, fun z => w_in (fun _ _ => bn_f (by decide) h) (fun y => absurd (c3 z) y)⟩) (fun y => absurd c2 y))) (fun y => absurd c1 y)
theorem m_name0 {a0 a1 a2 : Int32} {Q : Int32 → SA → SB → Prop} (hc : ¬ (((1 : Int64) ≤ a0.toInt64 ∧ a0.toInt64 ≤ 30) ∧ ((-1 : Int64) ≤ a1.toInt64 ∧ a1.toInt64 ≤ ((A 5 0) - (1 : Int32)).toInt64) ∧ (¬ a1 < 0 → ((1 : Int64) ≤ a2.toInt64 ∧ a2.toInt64 ≤ 1073741823)))) (h : Q (-1) A B) : wp_X6_name a0 a1 a2 A B Q :=
  w_in (fun a b => br_f (by decide) (w_in (fun c d => br_f (by decide) ⟨fun z => absurd ⟨⟨a, b⟩, ⟨c, d⟩, fun y => absurd z y⟩ hc, fun z => w_in (fun e f => absurd ⟨⟨a, b⟩, ⟨c, d⟩, fun _ => ⟨e, f⟩⟩ hc) (fun _ => bn_t rfl h)⟩) (fun _ => br_t rfl h))) (fun _ => br_t rfl h)
def cnameT (a0 a1 a2 : Int32) (A : SA) (B : SB) (Q : Int32 → SA → SB → Prop) : Prop :=
  (((A 2 0) ≤ 0 → (((8 : Int32) ≤ (A 1 0) → Q (-4) A B) ∧ (¬ (8 : Int32) ≤ (A 1 0) → wp_X3_add a0 a1 a2 A B (fun r A1 B1 => Q r A1 B1)))) ∧ (¬ (A 2 0) ≤ 0 → Q (-3) A B))
theorem c_name_ok {a0 a1 a2 : Int32} {Q : Int32 → SA → SB → Prop} (c1 : (1 : Int64) ≤ a0.toInt64 ∧ a0.toInt64 ≤ 30) (c2 : (-1 : Int64) ≤ a1.toInt64 ∧ a1.toInt64 ≤ ((A 1 0) - (1 : Int32)).toInt64) (c3 : ¬ a1 < 0 → ((1 : Int64) ≤ a2.toInt64 ∧ a2.toInt64 ≤ 1073741823)) (h : cnameT a0 a1 a2 A B Q) : wp_X5_name a0 a1 a2 A B Q :=
  w_within (fun _ _ => br_f (by decide) (w_within (fun _ _ => bn_f (by decide) ⟨fun _ => h, fun z => w_within (fun _ _ => bn_f (by decide) h) (fun y => absurd (c3 z) y)⟩) (fun y => absurd c2 y))) (fun y => absurd c1 y)
theorem c_name_no {a0 a1 a2 : Int32} {Q : Int32 → SA → SB → Prop} (hc : ¬ (((1 : Int64) ≤ a0.toInt64 ∧ a0.toInt64 ≤ 30) ∧ ((-1 : Int64) ≤ a1.toInt64 ∧ a1.toInt64 ≤ ((A 1 0) - (1 : Int32)).toInt64) ∧ (¬ a1 < 0 → ((1 : Int64) ≤ a2.toInt64 ∧ a2.toInt64 ≤ 1073741823)))) (h : Q (-1) A B) : wp_X5_name a0 a1 a2 A B Q :=
  w_within (fun a b => br_f (by decide) (w_within (fun c d => bn_f (by decide) ⟨fun z => absurd ⟨⟨a, b⟩, ⟨c, d⟩, fun y => absurd z y⟩ hc, fun z => w_within (fun e f => absurd ⟨⟨a, b⟩, ⟨c, d⟩, fun _ => ⟨e, f⟩⟩ hc) (fun _ => bn_t rfl h)⟩) (fun _ => bn_t rfl h))) (fun _ => br_t rfl h)
theorem add_name {n : Nat} {M : Nat → Nat} {P : Nat → Option Nat} {S : Nat → Nat → Bool} {W : Nat → Nat} {pt st sp : Nat → Nat} (hi : InvW n M P S W 0 pt st sp A B) (hn8 : n < 8) {a0 a1 a2 : Int32} {m : Nat} (hm : 1 ≤ m ∧ m ≤ 30) (e0 : a0 = nI m) (o : Option Nat) (ho : (o = none ∧ a1 < 0) ∨ ∃ p, o = some p ∧ p < n ∧ a1 = nI p) {K : Int32 → Int32 → SA → SB → Prop} (hK : ∀ r A2 B2, Inv A2 B2 → K r r A2 B2) :
    ∀ {Q0 : Int32 → SA → SB → Prop}, (∀ r A1 B1, A1 5 = A 5 → nameL a0 a1 a2 A1 B1 (fun r2 A2 B2 => K r r2 A2 B2) → Q0 r A1 B1) → wp_X3_add a0 a1 a2 A B (fun r A1 B1 => Q0 r A1 B1) := by
  intro Q0 hQ
  obtain ⟨⟨hs, hW, hC, hB, hM, hMW⟩, hT, ⟨sd, hR⟩, rows, outer, inner, pl, hF⟩ := hi
  have en : (nI n).toNatClampNeg = n := nI_clamp (by omega)
  obtain ⟨M', eM'⟩ : ∃ M' : Nat → Nat, M' = fun i => if i = n then m else M i := ⟨_, rfl⟩
  obtain ⟨P', eP'⟩ : ∃ P' : Nat → Option Nat, P' = fun i => if i = n then o else P i := ⟨_, rfl⟩
  obtain ⟨S', eS'⟩ : ∃ S' : Nat → Nat → Bool, S' = fun i v => if i = n then bt a2 v else S i v := ⟨_, rfl⟩
  have hs' : Shp (n + 1) M' P' := by
    refine ⟨by omega, fun i hi => ?_, fun i p hi e => ?_⟩
    · subst eM'
      by_cases h : i = n
      · simp only [h, if_true]; exact hm
      · simp only [h, if_false]; exact hs.2.1 i (by omega)
    · subst eP'
      by_cases h : i = n
      · simp only [h, if_true] at e
        rcases ho with ⟨h1, -⟩ | ⟨q, h1, h2, -⟩
        · rw [h1] at e; cases e
        · rw [h1] at e; cases e; omega
      · simp only [h, if_false] at e; exact hs.2.2 i p (by omega) e
  obtain ⟨W', hW'⟩ := ways_ex (n + 1) M' P' S'
  intro x1 e1
  rw [hC.1] at e1
  subst e1
  refine ⟨pk_in n 8 hn8, pk_in n 8 hn8, pk_in n 8 hn8, fun x5 e5 => ?_⟩
  rw [hC.1, nI_1] at e5
  subst e5
  rw [en]
  -- the new tables, of either side
  have tab : ∀ (T8 T9 T10 : Nat → Int32), (∀ i, i < n → T8 i = nI (M i)) → (∀ i, i < n → (P i = none → T9 i < 0) ∧ ∀ p, P i = some p → T9 i = nI p) → (∀ i v, i < n → v < 32 → bt (T10 i) v = S i v) →
      (∀ i, i < n + 1 → upd T8 n a0 i = nI (M' i)) ∧ (∀ i, i < n + 1 → (P' i = none → upd T9 n a1 i < 0) ∧ ∀ p, P' i = some p → upd T9 n a1 i = nI p) ∧ ∀ i v, i < n + 1 → v < 32 → bt (upd T10 n a2 i) v = S' i v := by
    intro T8 T9 T10 h8 h9 h10
    subst eM'; subst eP'; subst eS'
    refine ⟨fun i hi => ?_, fun i hi => ?_, fun i v hi hv => ?_⟩
    · by_cases h : i = n
      · simp only [upd, h, if_true]; exact e0
      · simp only [upd, h, if_false]; exact h8 i (by omega)
    · by_cases h : i = n
      · simp only [upd, h, if_true]
        rcases ho with ⟨h1, h2⟩ | ⟨q, h1, h2, h3⟩
        · exact ⟨fun _ => h2, fun p e => by rw [h1] at e; cases e⟩
        · exact ⟨fun e => (by rw [h1] at e; cases e), fun p e => (by rw [h1] at e; cases e; exact h3)⟩
      · simp only [upd, h, if_false]; exact h9 i (by omega)
    · by_cases h : i = n
      · simp only [upd, h, if_true]
      · simp only [upd, h, if_false]; exact h10 i v (by omega) hv
  obtain ⟨A1, eA1⟩ : ∃ A1 : SA, A1 = u2 (u2 (u2 (u2 A 8 n a0) 9 n a1) 10 n a2) 1 0 (nI (n + 1)) := ⟨_, rfl⟩
  rw [← eA1]
  have k8 : A1 8 = upd (A 8) n a0 := by rw [eA1, u2_kn (by decide), u2_kn (by decide), u2_kn (by decide), u2_kk]
  have k9 : A1 9 = upd (A 9) n a1 := by rw [eA1, u2_kn (by decide), u2_kn (by decide), u2_kk, u2_kn (by decide)]
  have k10 : A1 10 = upd (A 10) n a2 := by rw [eA1, u2_kn (by decide), u2_kk, u2_kn (by decide), u2_kn (by decide)]
  have k1 : A1 1 0 = nI (n + 1) := by rw [eA1, u2_self]
  have kr : ∀ k, k ≠ 1 → k ≠ 8 → k ≠ 9 → k ≠ 10 → A1 k = A k := fun k h1 h2 h3 h4 => by rw [eA1, u2_kn h1, u2_kn h4, u2_kn h3, u2_kn h2]
  have tC := tab (A 8) (A 9) (A 10) hC.2.1 hC.2.2.1 hC.2.2.2
  have hC1 : SpC (n + 1) M' P' S' A1 := by
    refine ⟨k1, ?_, ?_, ?_⟩
    · rw [k8]; exact tC.1
    · rw [k9]; exact tC.2.1
    · rw [k10]; exact tC.2.2
  refine w_countWays hs' hW' hC1 (fun B1 hB1 hkB => ?_)
  have e50 : A1 5 0 = nI n := by rw [kr 5 (by decide) (by decide) (by decide) (by decide)]; exact hM.1
  refine hQ _ _ _ (kr 5 (by decide) (by decide) (by decide) (by decide)) ?_
  unfold nameL
  rw [e50, en]
  refine ⟨pk_in n 8 hn8, pk_in n 8 hn8, pk_in n 8 hn8, fun x15 e15 x16 e16 => ?_⟩
  rw [nI_1] at e15
  subst e15
  subst e16
  obtain ⟨A2, eA2⟩ : ∃ A2 : SA, A2 = u2 (u2 (u2 (u2 A1 29 n a0) 30 n a1) 31 n a2) 5 0 (nI (n + 1)) := ⟨_, rfl⟩
  rw [← eA2]
  have m29 : A2 29 = upd (A 29) n a0 := by rw [eA2, u2_kn (by decide), u2_kn (by decide), u2_kn (by decide), u2_kk, kr 29 (by decide) (by decide) (by decide) (by decide)]
  have m30 : A2 30 = upd (A 30) n a1 := by rw [eA2, u2_kn (by decide), u2_kn (by decide), u2_kk, u2_kn (by decide), kr 30 (by decide) (by decide) (by decide) (by decide)]
  have m31 : A2 31 = upd (A 31) n a2 := by rw [eA2, u2_kn (by decide), u2_kk, u2_kn (by decide), u2_kn (by decide), kr 31 (by decide) (by decide) (by decide) (by decide)]
  have m50 : A2 5 0 = nI (n + 1) := by rw [eA2, u2_self]
  have m5 : ∀ j, j ≠ 0 → A2 5 j = A 5 j := fun j hj => by rw [eA2, u2_ne hj, u2_kn (by decide), u2_kn (by decide), u2_kn (by decide), kr 5 (by decide) (by decide) (by decide) (by decide)]
  have mr : ∀ k, k ≠ 5 → k ≠ 29 → k ≠ 30 → k ≠ 31 → A2 k = A1 k := fun k h1 h2 h3 h4 => by rw [eA2, u2_kn h1, u2_kn h4, u2_kn h3, u2_kn h2]
  have mk : ∀ k, k ≠ 1 → k ≠ 8 → k ≠ 9 → k ≠ 10 → k ≠ 5 → k ≠ 29 → k ≠ 30 → k ≠ 31 → A2 k = A k := fun k h1 h2 h3 h4 h5 h6 h7 h8 => by rw [mr k h5 h6 h7 h8, kr k h1 h2 h3 h4]
  have tM := tab (A 29) (A 30) (A 31) hM.2.1 hM.2.2.1 hM.2.2.2
  have hM2 : SpM (n + 1) M' P' S' A2 := by
    refine ⟨m50, ?_, ?_, ?_⟩
    · rw [m29]; exact tM.1
    · rw [m30]; exact tM.2.1
    · rw [m31]; exact tM.2.2
  refine w6_ways hs' hW' hM2 (fun f hf => ?_)
  rw [nI_pred]
  refine hK _ _ _ ⟨n + 1, M', P', S', W', 0, pt, st, sp, ⟨hs', hW', hC1.fr (by rw [mr 1 (by decide) (by decide) (by decide) (by decide)]) (mr 8 (by decide) (by decide) (by decide) (by decide)) (mr 9 (by decide) (by decide) (by decide) (by decide)) (mr 10 (by decide) (by decide) (by decide) (by decide)), ?_, hM2, fun c hc => by rw [va_up_self]; exact hf c hc⟩, ?_, ⟨sd, ?_⟩, rows, outer, inner, pl, ?_⟩
  · refine ⟨by rw [va_up_ne _ _ (by decide)]; exact hB1.1, fun i hi => by rw [va_up_ne _ _ (by decide)]; exact hB1.2.1 i hi, fun i v hi hv => by rw [va_up_ne _ _ (by omega)]; exact hB1.2.2 i v hi hv⟩
  · obtain ⟨g1, g2, g3, g4, g5, g6, g7, g8, g9, g10, g11⟩ := hT
    refine ⟨g1, by rw [mk 2 (by decide) (by decide) (by decide) (by decide) (by decide) (by decide) (by decide) (by decide)]; exact g2, by rw [m5 6 (by decide)]; exact g3, by rw [mk 2 (by decide) (by decide) (by decide) (by decide) (by decide) (by decide) (by decide) (by decide)]; exact g4, fun i hi => by omega, fun i hi => by omega, fun i hi => by omega, fun i h1 h2 => ?_, fun i hi => by omega, fun i s hi => by omega, fun i hi => by omega⟩
    rw [mk 15 (by decide) (by decide) (by decide) (by decide) (by decide) (by decide) (by decide) (by decide), mk 16 (by decide) (by decide) (by decide) (by decide) (by decide) (by decide) (by decide) (by decide)]
    exact g8 i h1 h2
  · refine hR.fr (mk 3 (by decide) (by decide) (by decide) (by decide) (by decide) (by decide) (by decide) (by decide)) (mk 22 (by decide) (by decide) (by decide) (by decide) (by decide) (by decide) (by decide) (by decide)) (mk 23 (by decide) (by decide) (by decide) (by decide) (by decide) (by decide) (by decide) (by decide)) (mk 41 (by decide) (by decide) (by decide) (by decide) (by decide) (by decide) (by decide) (by decide)) (mk 42 (by decide) (by decide) (by decide) (by decide) (by decide) (by decide) (by decide) (by decide)) (mk 43 (by decide) (by decide) (by decide) (by decide) (by decide) (by decide) (by decide) (by decide)) (mk 44 (by decide) (by decide) (by decide) (by decide) (by decide) (by decide) (by decide) (by decide)) (m5 15 (by decide)) (m5 20 (by decide)) (m5 21 (by decide)) (m5 22 (by decide)) (m5 23 (by decide)) ?_ ?_
    · rw [va_up_ne _ _ (by decide)]; exact hkB 3 (by decide) (by decide) (by decide)
    · rw [va_up_ne _ _ (by decide)]; exact hkB 5 (by decide) (by decide) (by decide)
  · exact hF.fr (mk 4 (by decide) (by decide) (by decide) (by decide) (by decide) (by decide) (by decide) (by decide)) (m5 25 (by decide)) (m5 26 (by decide)) (m5 27 (by decide)) (mk 24 (by decide) (by decide) (by decide) (by decide) (by decide) (by decide) (by decide) (by decide)) (mk 25 (by decide) (by decide) (by decide) (by decide) (by decide) (by decide) (by decide) (by decide)) (mk 26 (by decide) (by decide) (by decide) (by decide) (by decide) (by decide) (by decide) (by decide)) (mk 45 (by decide) (by decide) (by decide) (by decide) (by decide) (by decide) (by decide) (by decide)) (mk 46 (by decide) (by decide) (by decide) (by decide) (by decide) (by decide) (by decide) (by decide)) (mk 47 (by decide) (by decide) (by decide) (by decide) (by decide) (by decide) (by decide) (by decide)) (fun o _ => mk (176 + o) (by omega) (by omega) (by omega) (by omega) (by omega) (by omega) (by omega) (by omega))
theorem st_name (h : Inv A B) {a0 a1 a2 : Int32} {K : Int32 → Int32 → SA → SB → Prop} (hK : ∀ r A2 B2, Inv A2 B2 → K r r A2 B2) : wp_X5_name a0 a1 a2 A B (fun r A1 B1 => wp_X6_name a0 a1 a2 A1 B1 (fun r2 A2 B2 => K r r2 A2 B2)) := by
  obtain ⟨n, M, P, S, W, t, pt, st, sp, hi⟩ := h
  have h1 := hi.1
  have hn := h1.1.1
  have ht := hi.2.1.1
  have e1 := h1.2.2.1.1
  have e5 := h1.2.2.2.2.1.1
  have e2 := hi.2.1.2.1
  have e56 := hi.2.1.2.2.1
  have e8 : (8 : Int32) = nI 8 := rfl
  have e00 : (0 : Int32) = nI 0 := rfl
  by_cases hc : (((1 : Int64) ≤ a0.toInt64 ∧ a0.toInt64 ≤ 30) ∧ ((-1 : Int64) ≤ a1.toInt64 ∧ a1.toInt64 ≤ (nI n - (1 : Int32)).toInt64) ∧ (¬ a1 < 0 → ((1 : Int64) ≤ a2.toInt64 ∧ a2.toInt64 ≤ 1073741823)))
  · obtain ⟨c1, c2, c3⟩ := hc
    -- the reference, at cells whose numbers are those
    have mm : ∀ r A1 B1, A1 5 = A 5 → nameT a0 a1 a2 A1 B1 (fun r2 A2 B2 => K r r2 A2 B2) → wp_X6_name a0 a1 a2 A1 B1 (fun r2 A2 B2 => K r r2 A2 B2) := fun r A1 B1 e hT => m_name c1 (by rw [e, e5]; exact c2) c3 hT
    refine c_name_ok c1 (by rw [e1]; exact c2) c3 ?_
    unfold cnameT
    rw [e1, e2]
    refine pk_le t 0 (fun q => pk_le 8 n (fun q2 => ?_) (fun q2 => ?_)) (fun q => ?_)
    · refine mm _ _ _ rfl ?_
      unfold nameT
      rw [e5, e56]
      exact br_t (by rw [e00, nI_leI (by omega) (by omega)]; omega) (bn_t (by rw [e8, nI_eq (by omega) (by omega)]; omega) (hK _ _ _ hi.inv))
    · have ht0 : t = 0 := by omega
      subst ht0
      have c1' := rgI.mp c1
      have l1 : (1 : Int64).toInt = 1 := rfl
      have l30 : (30 : Int64).toInt = 30 := rfl
      rw [l1, l30] at c1'
      obtain ⟨m, hm, e0, -⟩ := nI_ex (x := a0) (by omega)
      obtain ⟨o, ho⟩ : ∃ o : Option Nat, (o = none ∧ a1 < 0) ∨ ∃ p, o = some p ∧ p < n ∧ a1 = nI p := by
        by_cases hneg : a1 < 0
        · exact ⟨none, Or.inl ⟨rfl, hneg⟩⟩
        · have h0 : (0 : Int32) ≤ a1 := Int32.not_lt.mp hneg
          have h0' : (0 : Int64) ≤ a1.toInt64 := by
            rw [Int64.le_iff_toInt_le, Int32.toInt_toInt64]
            exact Int32.le_iff_toInt_le.mp h0
          obtain ⟨p, hp, e⟩ := (rgN (by omega)).mp ⟨h0', c2.2⟩
          exact ⟨some p, Or.inr ⟨p, rfl, hp, e⟩⟩
      refine add_name hi q2 (m := m) (by omega) e0 o ho hK (fun r A1 B1 e hL => mm r A1 B1 e ?_)
      unfold nameT
      rw [e, e5, e56]
      exact br_t (by rw [e00, nI_leI (by omega) (by omega)]; omega) (bn_f (by rw [e8, nI_eq (by omega) (by omega)]; omega) hL)
    · refine mm _ _ _ rfl ?_
      unfold nameT
      rw [e56]
      exact br_f (by rw [e00, nI_leI (by omega) (by omega)]; omega) (hK _ _ _ hi.inv)
  · exact c_name_no (by rw [e1]; exact hc) (m_name0 (by rw [e5]; exact hc) (hK _ _ _ hi.inv))
end SS
