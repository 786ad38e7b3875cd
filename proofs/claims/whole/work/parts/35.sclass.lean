/-! THE SPACE in the class: its cells, what is there, reading and placing -/
theorem bit1 (y : Int32) : (y &&& 1) = 1 ↔ bt y 0 = true := by
  have h1 : ∀ i, i < 32 → bt 1 i = decide (i = 0) := by decide +kernel
  constructor
  · intro h
    have h2 : bt (y &&& 1) 0 = bt 1 0 := by rw [h]
    rw [b_and, h1 0 (by decide)] at h2
    simpa using h2
  · intro h
    refine b_ext (fun i hi => ?_)
    rw [b_and, h1 i hi]
    by_cases e : i = 0
    · subst e; simp [h]
    · simp [e]
theorem bit_u {x : Int32} {v : Nat} (hv : v < 32) : ((x.toUInt32 >>> ((nI v).toUInt32 &&& Int32.toUInt32 31)).toInt32 &&& (1 : Int32)) = (1 : Int32) ↔ bt x v = true := by
  rw [bit1, b_ushr v hv x 0, Nat.add_zero]
theorem bit_s {x : Int32} {v : Nat} (hv : v < 32) : ((x >>> (nI v &&& 31)) &&& (1 : Int32)) = (1 : Int32) ↔ bt x v = true := by
  rw [bit1, b_sshr v hv x (i := 0) (by decide)]
  simp [hv]
def enc (o : Option Nat) : Int32 := match o with
  | none => -2
  | some v => nI v
theorem u2_up {A : SA} {k i : Nat} {f : Nat → Int32} {x : Int32} : u2 (va_up A k f) k i x = va_up A k (upd f i x) := by
  funext j
  by_cases h : j = k
  · subst h; simp [u2, va_up]
  · simp [u2, va_up, h]
def SpC (n : Nat) (M : Nat → Nat) (P : Nat → Option Nat) (S : Nat → Nat → Bool) (A : SA) : Prop :=
  A 1 0 = nI n ∧ (∀ i, i < n → A 8 i = nI (M i)) ∧ (∀ i, i < n → (P i = none → A 9 i < 0) ∧ ∀ p, P i = some p → A 9 i = nI p) ∧ ∀ i v, i < n → v < 32 → bt (A 10 i) v = S i v
def SpW (n : Nat) (M : Nat → Nat) (P : Nat → Option Nat) (S : Nat → Nat → Bool) (W : Nat → Nat) (B : SB) : Prop :=
  B 1 1 = lN (allN n P W) ∧ (∀ i, i < n → B 11 i = lN (W i)) ∧ ∀ i v, i < n → v < M i → B (48 + i) v = lN (wbN n P S W i v)
/-- a cell that is none of the class's own tables of the space -/
def offC (k : Nat) : Prop := kd k = 1 ∧ k < NW ∧ ulen k = 8 ∧ k ≠ 1 ∧ k ≠ 8 ∧ k ≠ 9 ∧ k ≠ 10
section SC
variable {n : Nat} {M : Nat → Nat} {P : Nat → Option Nat} {S : Nat → Nat → Bool} {W : Nat → Nat} {A : SA} {B : SB}
theorem SpC.fr {A' : SA} (h : SpC n M P S A) (h1 : A' 1 0 = A 1 0) (h8 : A' 8 = A 8) (h9 : A' 9 = A 9) (h10 : A' 10 = A 10) : SpC n M P S A' := by
  unfold SpC
  rw [h1, h8, h9, h10]
  exact h
theorem SpC.up {k : Nat} {f : Nat → Int32} (h : SpC n M P S A) (hk : offC k) : SpC n M P S (va_up A k f) := by
  obtain ⟨-, -, -, h1, h8, h9, h10⟩ := hk
  exact h.fr (by rw [va_up_ne _ _ (Ne.symm h1)]) (va_up_ne _ _ (Ne.symm h8)) (va_up_ne _ _ (Ne.symm h9)) (va_up_ne _ _ (Ne.symm h10))
theorem w_hasBit {x : Int32} {v : Nat} (hv : v < 32) {Q : Int32 → Prop} (h1 : bt x v = true → Q 1) (h0 : bt x v = false → Q 0) : wp_X3_hasBit x (nI v) A B Q := by
  refine ⟨fun q => h0 ?_, fun q => h1 ?_⟩
  · rw [bit_u hv] at q; simpa using q
  · rw [bit_u hv] at q; exact q
theorem w_there (hs : Shp n M P) (hC : SpC n M P S A) {k i : Nat} (hi : i < n) (hk : offC k) {vals : Nat → Option Nat} (hv : ∀ j, j < i → A k j = enc (vals j)) (hb : ∀ j v, j < i → vals j = some v → v < 32) {Q : Int32 → Prop}
    (h1 : thB P S vals i = true → Q 1) (h0 : thB P S vals i = false → Q 0) : wp_X3_isThere (nI i) k A B Q := by
  obtain ⟨hk1, hk2, hk3, -⟩ := hk
  have hn := hs.1
  have ei : (nI i).toNatClampNeg = i := nI_clamp (by omega)
  refine ⟨pk_in i 8 (by omega), fun x e => ?_⟩
  rw [ei] at e
  cases hp : P i with
  | none =>
    have hx : x < 0 := by rw [e]; exact (hC.2.2.1 i hi).1 hp
    exact br_t hx (h1 (thB_root hp))
  | some p =>
    have hx : x = nI p := by rw [e]; exact (hC.2.2.1 i hi).2 p hp
    have hpi := hs.2.2 i p hi hp
    have ep : (nI p).toNatClampNeg = p := nI_clamp (by omega)
    have hin : vp_in (nI p) (ulen k) := by rw [hk3]; exact pk_in p 8 (by omega)
    subst hx
    refine br_f (nI_pos (by omega)) ⟨⟨hk1, hk2, hin⟩, ?_⟩
    rw [ep, hv p hpi, ei]
    cases hq : vals p with
    | none => exact br_t (by decide) (h0 (thB_no hq hp))
    | some v =>
      have hv2 := hb p v hpi hq
      refine br_f (nI_pos (by omega)) ⟨pk_in i 8 (by omega), ⟨hk1, hk2, hin⟩, ?_⟩
      have et := thB_at (S := S) hq hp
      have eb := hC.2.2.2 i v hi hv2
      refine w_hasBit hv2 (fun q => br_f (by decide) (h1 ?_)) (fun q => br_t rfl (h0 ?_))
      · rw [et, ← eb]; exact q
      · rw [et, ← eb]; exact q
/-- the class reads a point -/
theorem w_read (hs : Shp n M P) (hW : WOK n M P S W) (hC : SpC n M P S A) (hB : SpW n M P S W B) {k : Nat} (hk : offC k) {pt : Nat} {vals : Nat → Option Nat} {lf : Nat → Nat} (hr : RdIs n M P S W pt vals lf) {Q : SA → Prop}
    (h : ∀ f : Nat → Int32, (∀ i, i < n → f i = enc (vals i)) → Q (va_up A k f)) : wp_X3_read (lN pt) k A B Q := by
  have hn := hs.1
  intro x1 e1
  refine lp4 (wp_X3_read_12 (fun A => Q A) Q k B) (fun v4 v6 v8 A' => ∃ (i : Nat) (f : Nat → Int32), i ≤ n ∧ v8 = nI i ∧ v4 = lN (lf i) ∧ v6 = lN (opN n P W i (thB P S vals)) ∧ A' = va_up A k f ∧ ∀ j, j < i → f j = enc (vals j)) (fun _ _ v8 _ => 8 - v8.toNatClampNeg) ?_ _ _ _ _
    ⟨0, A k, Nat.zero_le n, nI_0.symm, by rw [hr.1], by rw [e1, hB.1, all_th], (va_up_id A k).symm, fun j hj => by omega⟩
  rintro m v4 v6 v8 A' ⟨i, f, hi, rfl, rfl, rfl, rfl, hf⟩ ih
  have hC' := hC.up (f := f) hk
  have ei : (nI i).toNatClampNeg = i := nI_clamp (by omega)
  refine pk_le n i (fun q => ?_) (fun q => ?_) hC'.1
  · exact h f (fun j hj => hf j (by omega))
  · have hin : vp_in (nI i) (ulen k) := by rw [hk.2.2.1]; exact pk_in i 8 (by omega)
    refine ⟨⟨hk.1, hk.2.1, hin⟩, ?_⟩
    rw [ei, u2_up]
    have hb : ∀ j v, j < i → vals j = some v → v < 32 := fun j v hj e => by
      cases hT : thB P S vals j with
      | true =>
        obtain ⟨w, h1, h2, -⟩ := (hr.2 j (by omega)).1 hT
        have := (hs.2.1 j (by omega)).2
        rw [e] at h1
        cases h1
        omega
      | false =>
        have h1 := ((hr.2 j (by omega)).2 hT).1
        rw [e] at h1
        cases h1
    refine w_there hs (hC.up hk) (i := i) (vals := vals) (by omega) hk (fun j hj => ?_) hb (fun hT => ?_) (fun hT => ?_)
    · rw [va_up_self, upd, if_neg (by omega)]
      exact hf j hj
    · refine br_f (by decide) ⟨pk_in i 8 (by omega), ?_⟩
      obtain ⟨v, hv1, hv2, hv3, hv4⟩ := (hr.2 i (by omega)).1 hT
      have hM := hs.2.1 i (by omega)
      have hrs := rs_bd hs hW (show i < n by omega) (thB P S vals)
      have hWi := W_bd hs hW (show i < n by omega)
      have hop := op_lt hs hW (Nat.le_of_lt q) (thB P S vals)
      have eop := op_rs (P := P) (W := W) (show i < n by omega) (plB_self hs (by omega)) hT
      rw [hB.2.1 i (by omega)]
      refine w_cut (by omega) (by omega) (by omega) ?_
      have ed : opN n P W i (thB P S vals) / W i = rsN n P W i (thB P S vals) := by rw [eop, Nat.mul_div_cancel_left _ (by omega)]
      rw [ed]
      have hmono : ∀ u, u < v → rsN n P W i (thB P S vals) * sumN (wbN n P S W i) u + rsN n P W i (thB P S vals) * wbN n P S W i u ≤ rsN n P W i (thB P S vals) * sumN (wbN n P S W i) v := by
        intro u hu
        have h1 : sumN (wbN n P S W i) (u + 1) ≤ sumN (wbN n P S W i) v := sumN_mono (by omega)
        have h2 := Nat.mul_le_mul_left (rsN n P W i (thB P S vals)) h1
        simp only [sumN, Nat.mul_add] at h2
        exact h2
      have hlfi : lf i < 656100000001 := by
        have h1 : sumN (wbN n P S W i) (v + 1) ≤ sumN (wbN n P S W i) (M i) := sumN_mono (by omega)
        have h2 := Nat.mul_le_mul_left (rsN n P W i (thB P S vals)) h1
        rw [← hW i (by omega), Nat.mul_comm _ (W i), ← eop] at h2
        simp only [sumN, Nat.mul_add] at h2
        generalize rsN n P W i (thB P S vals) * sumN (wbN n P S W i) v = y at *
        generalize rsN n P W i (thB P S vals) * wbN n P S W i v = z at *
        omega
      refine lp2 (wp_X3_read_54 _ Q k _ (nI i) _ B) (fun v4 v9 => ∃ u : Nat, u ≤ v ∧ v9 = nI u ∧ v4 = lN (lf i - rsN n P W i (thB P S vals) * sumN (wbN n P S W i) u)) (fun _ v9 => 30 - v9.toNatClampNeg) ?_ _ _ ⟨0, Nat.zero_le v, nI_0.symm, by simp [sumN]⟩
      rintro m2 v4 v9 ⟨u, hu, rfl, rfl⟩ ih2
      have eu : (nI u).toNatClampNeg = u := nI_clamp (by omega)
      have eM : (va_up A k (upd f i (-2))) 8 (nI i).toNatClampNeg - (1 : Int32) = nI (M i - 1) := by
        rw [ei, (hC.up hk).2.1 i (by omega)]
        exact pk_sub (a := M i) (b := 1) (by omega)
      -- the end of the search
      have fin : u = v → ∀ (hw : wp_X3_read_12 (fun A => Q A) Q k B m (lN (lf (i + 1))) (lN (opN n P W (i + 1) (thB P S vals))) (nI (i + 1)) (va_up A k (upd f i (nI v)))),
          (kd k = 1 ∧ k < NW ∧ vp_in (nI i) (ulen k)) ∧ vp_in (nI i) 8 ∧ vp_in (nI u) 30 ∧ ∀ x : Int64, x = lN (rsN n P W i (thB P S vals)) * B (48 + i) (nI u).toNatClampNeg → ∀ v8 : Int32, v8 = nI i + 1 → wp_X3_read_12 (fun A => Q A) Q k B m (lN (lf i - rsN n P W i (thB P S vals) * sumN (wbN n P S W i) u)) x v8 (u2 (va_up A k (upd f i (-2))) k i (nI u)) := by
        intro huv hw
        subst huv
        refine ⟨⟨hk.1, hk.2.1, hin⟩, pk_in i 8 (by omega), pk_in u 30 (by omega), fun x e v8 e8 => ?_⟩
        have e1 : lf i - rsN n P W i (thB P S vals) * sumN (wbN n P S W i) u = lf (i + 1) := by omega
        have e2 : x = lN (opN n P W (i + 1) (thB P S vals)) := by
          rw [e, eu, hB.2.2 i u (by omega) hv2, lN_mul, op_wb (T := thB P S vals) (S := S) (v := u) (fun c _ _ _ => rfl) (fun c _ _ hP => thB_at hv1 hP)]
        have e3 : u2 (va_up A k (upd f i (-2))) k i (nI u) = va_up A k (upd f i (nI u)) := by
          rw [u2_up]
          congr 1
          funext j
          by_cases hj : j = i
          · subst hj; simp [upd]
          · simp [upd, hj]
        rw [e1, e2, e3, e8, nI_1]
        exact hw
      have nxt : wp_X3_read_12 (fun A => Q A) Q k B m (lN (lf (i + 1))) (lN (opN n P W (i + 1) (thB P S vals))) (nI (i + 1)) (va_up A k (upd f i (nI v))) := by
        refine ih _ _ _ _ ⟨i + 1, upd f i (nI v), by omega, rfl, rfl, rfl, rfl, fun j hj => ?_⟩ ?_
        · by_cases hji : j = i
          · subst hji; simp [upd, hv1, enc]
          · simp only [upd, hji, if_false]; exact hf j (by omega)
        · rw [ei, nI_clamp (by omega)]; omega
      refine ⟨pk_in i 8 (by omega), pk_le (M i - 1) u (fun q2 => fin (by omega) nxt) (fun q2 => ?_) eM⟩
      have hwu := rw_bd hs hW (show i < n by omega) (thB P S vals) u
      refine ⟨pk_in i 8 (by omega), pk_in u 30 (by omega), ?_⟩
      have ew : lN (rsN n P W i (thB P S vals)) * B (48 + (nI i).toNatClampNeg) (nI u).toNatClampNeg = lN (rsN n P W i (thB P S vals) * wbN n P S W i u) := by
        rw [ei, eu, hB.2.2 i u (by omega) (by omega), lN_mul]
      refine pj_lt (lf i - rsN n P W i (thB P S vals) * sumN (wbN n P S W i) u) (rsN n P W i (thB P S vals) * wbN n P S W i u) (fun q3 => fin ?_ nxt) (fun q3 => ?_) rfl ew (by omega) (by omega)
      · rcases Nat.lt_or_ge u v with z | z
        · have := hmono u z
          omega
        · omega
      · have huv : u < v := by
          rcases Nat.lt_or_ge u v with z | z
          · exact z
          · have : u = v := by omega
            subst this
            omega
        have hm := hmono u huv
        refine ⟨pk_in i 8 (by omega), pk_in u 30 (by omega), fun x e v9 e9 => ?_⟩
        refine ih2 _ _ ⟨u + 1, by omega, by rw [e9, nI_1], ?_⟩ ?_
        · rw [e, ew, lN_sub q3]
          congr 1
          simp only [sumN, Nat.mul_add]
          omega
        · rw [e9, nI_1, nI_clamp (by omega), nI_clamp (by omega)]; omega
    · refine br_t rfl (fun v8 e8 => ?_)
      obtain ⟨h1, h2⟩ := (hr.2 i (by omega)).2 hT
      rw [e8, nI_1]
      refine ih _ _ _ _ ⟨i + 1, upd f i (-2), by omega, rfl, by rw [h2], ?_, rfl, fun j hj => ?_⟩ ?_
      · rw [op_wb0 (T := thB P S vals) (fun c _ _ _ => rfl) (fun c _ _ hP => thB_no h1 hP), op_rs0 (by omega) hT]
      · by_cases hji : j = i
        · subst hji; simp [upd, h1, enc]
        · simp only [upd, hji, if_false]; exact hf j (by omega)
      · rw [ei, nI_clamp (by omega)]; omega
end SC
