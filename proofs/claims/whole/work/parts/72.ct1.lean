/-! a constructor -/
def shX1 (g : uG) (h0 : Nat) (w : va_W) : Prop := ∃ (q22 : Nat) (q23 : Nat), w = ((h0, .inr (1, [.int 0, .long 0, .ref q22, .ref q23, .int 0, .int 0, .int 0, .int 0, .int 0, .int 0])) :: ((([] : va_W) ++ [(q22, .inl (g.2.2 0, 60, .inl (fun _ => 0)))]) ++ [(q23, .inl (g.2.2 0, 60, .inl (fun _ => 0)))]))
abbrev rmX1_init : Room := { frames := 1, cells := 2, slots := 120, locals := 12 }
theorem hX1_init_X1 : ∀ w ∈ wsX10, w ∈ wsX1_init := fun w h => List.mem_cons_of_mem _ (List.mem_append_right _ h)
set_option maxHeartbeats 4000000 in
set_option maxRecDepth 100000 in
theorem c_X1_init (l : Launch) (g : uG) (h0 sz : Nat) : Met l yX1_init wsX1_init rmX1_init (va_Pc [.ref h0] (fun U => U.heap.size = sz ∧ va_P g.1 vwCl [(h0, .inr (1, [.int 0, .long 0, .null, .null, .int 0, .int 0, .int 0, .int 0, .int 0, .int 0]))] U.heap ∧ CK g U ∧ va_D (fun _ => True) [(h0, .inr (1, [.int 0, .long 0, .null, .null, .int 0, .int 0, .int 0, .int 0, .int 0, .int 0]))])) (va_Qv (fun w : va_W => shX1 g h0 w) (fun w t => va_P g.1 vwCl w t.heap ∧ va_D (va_A [(h0, .inr (1, [.int 0, .long 0, .null, .null, .int 0, .int 0, .int 0, .int 0, .int 0, .int 0]))] sz) w) (va_A [(h0, .inr (1, [.int 0, .long 0, .null, .null, .int 0, .int 0, .int 0, .int 0, .int 0, .int 0]))] sz)) 2 120 (va_A [(h0, .inr (1, [.int 0, .long 0, .null, .null, .int 0, .int 0, .int 0, .int 0, .int 0, .int 0]))] sz) := by
  refine Met.ofW (cc := cX1_init) (maxL := 1) (ret := none) (by decide) rfl ?_
  intro p e s m args below meth c s₁ B hml hv
  obtain ⟨rfl, hsz, hP, hK, hD0⟩ := hv
  have hx := B.exec
  have hb := B.bytes
  have hr := B.returns
  have hts := atoms_spec (ws := wsX1_init) B.pre
  have hown : s.vm.findClass RX1 = some m.cls := findClass_of_methodNamed B.named
  have hlocks := B.notSynchronized
  have hin : meth.name = "<init>" := (name_of_methodNamed B.named B.method).1
  subst hsz
  have hD := hD0.self (sz := s.heap.size)
  generalize hAe : va_A [(h0, .inr (1, [.int 0, .long 0, .null, .null, .int 0, .int 0, .int 0, .int 0, .int 0, .int 0]))] s.heap.size = A at hD ⊢
  have hA : ∀ q : Nat, s.heap.size ≤ q → A q := fun q h => by rw [← hAe]; exact Or.inr h
  have hS : va_S A s.heap s.heap [] := va_S.rf
  have hl := lv_entry ([.ref h0]) (n := 1) (Nat.le_of_ble_eq_true rfl)
  rw [lg_entry_eq]
  generalize (lg_sl ([.ref h0]) ++ List.replicate (1 - (lg_sl ([.ref h0])).length) Slot.unset).toArray = ls at hl ⊢
  have hl : lv_has ls 1 [(0, .ref h0)] := hl
  refine lv_aload_n hx hb dX1_init_0 rfl (lv_at hl 0 rfl) ?_
  refine W.objInit hx hb hown (hts (.methodLink RX1 3 objectInit) (by decide +kernel)) (hts (.instanceMethod objectInit) (by decide +kernel)) (hts (.code objectInit ⟨#[0xb1]⟩ 1 none) (by decide +kernel)) rfl (by rw [hml]; exact hl.1) rfl dX1_init_1 (Nat.le_of_ble_eq_true rfl) (Nat.le_of_ble_eq_true rfl) ?_
  refine W.eq (g2 := F0 m 4 ls []) rfl ?_
  refine lv_aload_n hx hb dX1_init_4 rfl (lv_at hl 0 rfl) ?_
  refine lv_iconst (v := 0) hx hb dX1_init_5 (by decide) ?_
  refine va_put (D := g.1) (ci := 1) (v := .int 0) (ty := .boolean) (C := RX1) (T := TX1) (N := 10) hx hb hts hX1_init_X1 tyX1 tyX1_ok nmX1 hown hK.1 hP hD hS 0 rfl rfl 0 (by decide) (hts (.fieldLink RX1 9 "TrialSearch$Rounds" "started" "Z") (by decide +kernel)) (fun _ h9 => h9) rfl (by decide +kernel) (by decide +kernel) (by decide +kernel) (Nat.le_of_ble_eq_true rfl) dX1_init_6 (fun H locs hP hD hS => ?_)
  have hP : va_P g.1 vwCl ((h0, .inr (1, [.int 0, .long 0, .null, .null, .int 0, .int 0, .int 0, .int 0, .int 0, .int 0])) :: ([] : va_W)) H := hP
  have hD : va_D A ((h0, .inr (1, [.int 0, .long 0, .null, .null, .int 0, .int 0, .int 0, .int 0, .int 0, .int 0])) :: ([] : va_W)) := hD
  refine lv_aload_n hx hb dX1_init_9 rfl (lv_at hl 0 rfl) ?_
  refine lv_lconst (v := 0) hx hb dX1_init_10 (by decide) ?_
  refine va_put (D := g.1) (ci := 1) (v := .long 0) (ty := .long) (C := RX1) (T := TX1) (N := 10) hx hb hts hX1_init_X1 tyX1 tyX1_ok nmX1 hown hK.1 hP hD hS 0 rfl rfl 1 (by decide) (hts (.fieldLink RX1 15 "TrialSearch$Rounds" "spent" "J") (by decide +kernel)) (fun _ h9 => h9) rfl (by decide +kernel) rfl rfl (Nat.le_of_ble_eq_true rfl) dX1_init_11 (fun H locs hP hD hS => ?_)
  have hP : va_P g.1 vwCl ((h0, .inr (1, [.int 0, .long 0, .null, .null, .int 0, .int 0, .int 0, .int 0, .int 0, .int 0])) :: ([] : va_W)) H := hP
  have hD : va_D A ((h0, .inr (1, [.int 0, .long 0, .null, .null, .int 0, .int 0, .int 0, .int 0, .int 0, .int 0])) :: ([] : va_W)) := hD
  refine lv_aload_n hx hb dX1_init_14 rfl (lv_at hl 0 rfl) ?_
  refine lv_bipush (v := 60) hx hb dX1_init_15 (by decide) ?_
  refine cw_newa (atype := .int) (ty := .int) (n := 60) (N' := 60) (a0 := (60, .inl (fun _ => 0))) hx hb rfl (hts (.arrayClass .int) (by decide +kernel)) 0 rfl (fun _ h => h) hK hP hD hS hA (fun _ => rfl) (by decide) (by decide) (by decide) (Nat.le_of_ble_eq_true rfl) (Nat.le_of_ble_eq_true rfl) dX1_init_17 (fun q22 H hP hD hS => ?_)
  refine W.widen (k := 1) (n := 60) (Nat.le_of_ble_eq_true rfl) (Nat.le_of_ble_eq_true rfl) ?_
  obtain ⟨t1, et1⟩ : ∃ t : va_W, t = ([] : va_W) ++ [(q22, .inl (g.2.2 0, 60, .inl (fun _ => 0)))] := ⟨_, rfl⟩
  have hP : va_P g.1 vwCl ((h0, .inr (1, [.int 0, .long 0, .null, .null, .int 0, .int 0, .int 0, .int 0, .int 0, .int 0])) :: (([] : va_W) ++ [(q22, .inl (g.2.2 0, 60, .inl (fun _ => 0)))])) H := hP
  have hD : va_D A ((h0, .inr (1, [.int 0, .long 0, .null, .null, .int 0, .int 0, .int 0, .int 0, .int 0, .int 0])) :: (([] : va_W) ++ [(q22, .inl (g.2.2 0, 60, .inl (fun _ => 0)))])) := hD
  rw [← et1] at hP hD
  refine va_putF (D := g.1) (ci := 1) (v := .ref q22) (ty := .array .int) (C := RX1) (T := TX1) (N := 10) hx hb hts hX1_init_X1 tyX1 tyX1_ok nmX1 hown hK.1 hP hD hS 0 rfl rfl 2 (by decide) (hts (.fieldLink RX1 19 "TrialSearch$Rounds" "marks" "[I") (by decide +kernel)) (fun _ h9 => h9) rfl hin rfl (by decide +kernel) rfl rfl (Nat.le_of_ble_eq_true rfl) dX1_init_19 (fun H locs hP hD hS => ?_)
  have hP : va_P g.1 vwCl ((h0, .inr (1, [.int 0, .long 0, .ref q22, .null, .int 0, .int 0, .int 0, .int 0, .int 0, .int 0])) :: t1) H := hP
  have hD : va_D A ((h0, .inr (1, [.int 0, .long 0, .ref q22, .null, .int 0, .int 0, .int 0, .int 0, .int 0, .int 0])) :: t1) := hD
  refine lv_aload_n hx hb dX1_init_22 rfl (lv_at hl 0 rfl) ?_
  refine lv_bipush (v := 60) hx hb dX1_init_23 (by decide) ?_
  refine cw_newa (atype := .int) (ty := .int) (n := 60) (N' := 60) (a0 := (60, .inl (fun _ => 0))) hx hb rfl (hts (.arrayClass .int) (by decide +kernel)) 0 rfl (fun _ h => h) hK hP hD hS hA (fun _ => rfl) (by decide) (by decide) (by decide) (Nat.le_of_ble_eq_true rfl) (Nat.le_of_ble_eq_true rfl) dX1_init_25 (fun q23 H hP hD hS => ?_)
  refine W.widen (k := 2) (n := 120) (Nat.le_of_ble_eq_true rfl) (Nat.le_of_ble_eq_true rfl) ?_
  obtain ⟨t2, et2⟩ : ∃ t : va_W, t = t1 ++ [(q23, .inl (g.2.2 0, 60, .inl (fun _ => 0)))] := ⟨_, rfl⟩
  have hP : va_P g.1 vwCl ((h0, .inr (1, [.int 0, .long 0, .ref q22, .null, .int 0, .int 0, .int 0, .int 0, .int 0, .int 0])) :: (t1 ++ [(q23, .inl (g.2.2 0, 60, .inl (fun _ => 0)))])) H := hP
  have hD : va_D A ((h0, .inr (1, [.int 0, .long 0, .ref q22, .null, .int 0, .int 0, .int 0, .int 0, .int 0, .int 0])) :: (t1 ++ [(q23, .inl (g.2.2 0, 60, .inl (fun _ => 0)))])) := hD
  rw [← et2] at hP hD
  refine va_putF (D := g.1) (ci := 1) (v := .ref q23) (ty := .array .int) (C := RX1) (T := TX1) (N := 10) hx hb hts hX1_init_X1 tyX1 tyX1_ok nmX1 hown hK.1 hP hD hS 0 rfl rfl 3 (by decide) (hts (.fieldLink RX1 23 "TrialSearch$Rounds" "stands" "[I") (by decide +kernel)) (fun _ h9 => h9) rfl hin rfl (by decide +kernel) rfl rfl (Nat.le_of_ble_eq_true rfl) dX1_init_27 (fun H locs hP hD hS => ?_)
  have hP : va_P g.1 vwCl ((h0, .inr (1, [.int 0, .long 0, .ref q22, .ref q23, .int 0, .int 0, .int 0, .int 0, .int 0, .int 0])) :: t2) H := hP
  have hD : va_D A ((h0, .inr (1, [.int 0, .long 0, .ref q22, .ref q23, .int 0, .int 0, .int 0, .int 0, .int 0, .int 0])) :: t2) := hD
  exact W.vret hx hb hr (fun t ht hW => ⟨⟨_, rfl, ⟨q22, q23, by rw [et2, et1]⟩, by rw [ht]; exact hP, hD⟩, hS.F ht⟩) hS.2.2 dX1_init_30
