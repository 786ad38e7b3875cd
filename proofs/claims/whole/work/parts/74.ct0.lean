/-! a constructor -/
def shX0 (g : uG) (h0 : Nat) (w : va_W) : Prop := ∃ (q24 : Nat) (q25 : Nat) (q26 : Nat) (q27 : Nat) (r27 : Nat → Nat) (fc27 : Nat → Option Nat) (q28 : Nat), (∀ i, i < 10 → fc27 i = some (r27 i)) ∧ w = ((h0, .inr (0, [.int 0, .int 0, .int 0, .ref q24, .ref q25, .ref q26, .ref q27, .ref q28])) :: (((((([] : va_W) ++ [(q24, .inl (g.2.2 0, 200, .inl (fun _ => 0)))]) ++ [(q25, .inl (g.2.2 0, 200, .inl (fun _ => 0)))]) ++ [(q26, .inl (g.2.2 0, 10, .inl (fun _ => 0)))]) ++ ((q27, .inl (g.2.2 4, 10, .inr (.inr (.inr (.inr fc27))))) :: (List.range 10).map (fun i => (r27 i, .inl (g.2.2 0, 10, .inl (fun _ => 0)))))) ++ [(q28, .inl (g.2.2 1, 200, .inr (.inl (fun _ => 0))))]))
abbrev rmX0_init : Room := { frames := 1, cells := 15, slots := 720, locals := 12 }
theorem hX0_init_X0 : ∀ w ∈ wsX00, w ∈ wsX0_init := fun w h => List.mem_cons_of_mem _ (List.mem_append_right _ h)
set_option maxHeartbeats 4000000 in
set_option maxRecDepth 100000 in
theorem c_X0_init (l : Launch) (g : uG) (h0 sz : Nat) : Met l yX0_init wsX0_init rmX0_init (va_Pc [.ref h0] (fun U => U.heap.size = sz ∧ va_P g.1 vwCl [(h0, .inr (0, [.int 0, .int 0, .int 0, .null, .null, .null, .null, .null]))] U.heap ∧ CK g U ∧ va_D (fun _ => True) [(h0, .inr (0, [.int 0, .int 0, .int 0, .null, .null, .null, .null, .null]))])) (va_Qv (fun w : va_W => shX0 g h0 w) (fun w t => va_P g.1 vwCl w t.heap ∧ va_D (va_A [(h0, .inr (0, [.int 0, .int 0, .int 0, .null, .null, .null, .null, .null]))] sz) w) (va_A [(h0, .inr (0, [.int 0, .int 0, .int 0, .null, .null, .null, .null, .null]))] sz)) 15 720 (va_A [(h0, .inr (0, [.int 0, .int 0, .int 0, .null, .null, .null, .null, .null]))] sz) := by
  refine Met.ofW (cc := cX0_init) (maxL := 1) (ret := none) (by decide) rfl ?_
  intro p e s m args below meth c s₁ B hml hv
  obtain ⟨rfl, hsz, hP, hK, hD0⟩ := hv
  have hx := B.exec
  have hb := B.bytes
  have hr := B.returns
  have hts := atoms_spec (ws := wsX0_init) B.pre
  have hown : s.vm.findClass RX0 = some m.cls := findClass_of_methodNamed B.named
  have hlocks := B.notSynchronized
  have hin : meth.name = "<init>" := (name_of_methodNamed B.named B.method).1
  subst hsz
  have hD := hD0.self (sz := s.heap.size)
  generalize hAe : va_A [(h0, .inr (0, [.int 0, .int 0, .int 0, .null, .null, .null, .null, .null]))] s.heap.size = A at hD ⊢
  have hA : ∀ q : Nat, s.heap.size ≤ q → A q := fun q h => by rw [← hAe]; exact Or.inr h
  have hS : va_S A s.heap s.heap [] := va_S.rf
  have hl := lv_entry ([.ref h0]) (n := 1) (Nat.le_of_ble_eq_true rfl)
  rw [lg_entry_eq]
  generalize (lg_sl ([.ref h0]) ++ List.replicate (1 - (lg_sl ([.ref h0])).length) Slot.unset).toArray = ls at hl ⊢
  have hl : lv_has ls 1 [(0, .ref h0)] := hl
  refine lv_aload_n hx hb dX0_init_0 rfl (lv_at hl 0 rfl) ?_
  refine W.objInit hx hb hown (hts (.methodLink RX0 3 objectInit) (by decide +kernel)) (hts (.instanceMethod objectInit) (by decide +kernel)) (hts (.code objectInit ⟨#[0xb1]⟩ 1 none) (by decide +kernel)) rfl (by rw [hml]; exact hl.1) rfl dX0_init_1 (Nat.le_of_ble_eq_true rfl) (Nat.le_of_ble_eq_true rfl) ?_
  refine W.eq (g2 := F0 m 4 ls []) rfl ?_
  refine lv_aload_n hx hb dX0_init_4 rfl (lv_at hl 0 rfl) ?_
  refine lv_iconst (v := 0) hx hb dX0_init_5 (by decide) ?_
  refine va_put (D := g.1) (ci := 0) (v := .int 0) (ty := .int) (C := RX0) (T := TX0) (N := 8) hx hb hts hX0_init_X0 tyX0 tyX0_ok nmX0 hown hK.1 hP hD hS 0 rfl rfl 0 (by decide) (hts (.fieldLink RX0 9 "TrialSearch$Folds" "rows" "I") (by decide +kernel)) (fun _ h9 => h9) rfl (by decide +kernel) rfl rfl (Nat.le_of_ble_eq_true rfl) dX0_init_6 (fun H locs hP hD hS => ?_)
  have hP : va_P g.1 vwCl ((h0, .inr (0, [.int 0, .int 0, .int 0, .null, .null, .null, .null, .null])) :: ([] : va_W)) H := hP
  have hD : va_D A ((h0, .inr (0, [.int 0, .int 0, .int 0, .null, .null, .null, .null, .null])) :: ([] : va_W)) := hD
  refine lv_aload_n hx hb dX0_init_9 rfl (lv_at hl 0 rfl) ?_
  refine lv_iconst (v := 0) hx hb dX0_init_10 (by decide) ?_
  refine va_put (D := g.1) (ci := 0) (v := .int 0) (ty := .int) (C := RX0) (T := TX0) (N := 8) hx hb hts hX0_init_X0 tyX0 tyX0_ok nmX0 hown hK.1 hP hD hS 0 rfl rfl 1 (by decide) (hts (.fieldLink RX0 15 "TrialSearch$Folds" "outer" "I") (by decide +kernel)) (fun _ h9 => h9) rfl (by decide +kernel) rfl rfl (Nat.le_of_ble_eq_true rfl) dX0_init_11 (fun H locs hP hD hS => ?_)
  have hP : va_P g.1 vwCl ((h0, .inr (0, [.int 0, .int 0, .int 0, .null, .null, .null, .null, .null])) :: ([] : va_W)) H := hP
  have hD : va_D A ((h0, .inr (0, [.int 0, .int 0, .int 0, .null, .null, .null, .null, .null])) :: ([] : va_W)) := hD
  refine lv_aload_n hx hb dX0_init_14 rfl (lv_at hl 0 rfl) ?_
  refine lv_iconst (v := 0) hx hb dX0_init_15 (by decide) ?_
  refine va_put (D := g.1) (ci := 0) (v := .int 0) (ty := .int) (C := RX0) (T := TX0) (N := 8) hx hb hts hX0_init_X0 tyX0 tyX0_ok nmX0 hown hK.1 hP hD hS 0 rfl rfl 2 (by decide) (hts (.fieldLink RX0 18 "TrialSearch$Folds" "inner" "I") (by decide +kernel)) (fun _ h9 => h9) rfl (by decide +kernel) rfl rfl (Nat.le_of_ble_eq_true rfl) dX0_init_16 (fun H locs hP hD hS => ?_)
  have hP : va_P g.1 vwCl ((h0, .inr (0, [.int 0, .int 0, .int 0, .null, .null, .null, .null, .null])) :: ([] : va_W)) H := hP
  have hD : va_D A ((h0, .inr (0, [.int 0, .int 0, .int 0, .null, .null, .null, .null, .null])) :: ([] : va_W)) := hD
  refine lv_aload_n hx hb dX0_init_19 rfl (lv_at hl 0 rfl) ?_
  refine lv_sipush (v := 200) hx hb dX0_init_20 (by decide) ?_
  refine cw_newa (atype := .int) (ty := .int) (n := 200) (N' := 200) (a0 := (200, .inl (fun _ => 0))) hx hb rfl (hts (.arrayClass .int) (by decide +kernel)) 0 rfl (fun _ h => h) hK hP hD hS hA (fun _ => rfl) (by decide) (by decide) (by decide) (Nat.le_of_ble_eq_true rfl) (Nat.le_of_ble_eq_true rfl) dX0_init_23 (fun q24 H hP hD hS => ?_)
  refine W.widen (k := 1) (n := 200) (Nat.le_of_ble_eq_true rfl) (Nat.le_of_ble_eq_true rfl) ?_
  obtain ⟨t1, et1⟩ : ∃ t : va_W, t = ([] : va_W) ++ [(q24, .inl (g.2.2 0, 200, .inl (fun _ => 0)))] := ⟨_, rfl⟩
  have hP : va_P g.1 vwCl ((h0, .inr (0, [.int 0, .int 0, .int 0, .null, .null, .null, .null, .null])) :: (([] : va_W) ++ [(q24, .inl (g.2.2 0, 200, .inl (fun _ => 0)))])) H := hP
  have hD : va_D A ((h0, .inr (0, [.int 0, .int 0, .int 0, .null, .null, .null, .null, .null])) :: (([] : va_W) ++ [(q24, .inl (g.2.2 0, 200, .inl (fun _ => 0)))])) := hD
  rw [← et1] at hP hD
  refine va_putF (D := g.1) (ci := 0) (v := .ref q24) (ty := .array .int) (C := RX0) (T := TX0) (N := 8) hx hb hts hX0_init_X0 tyX0 tyX0_ok nmX0 hown hK.1 hP hD hS 0 rfl rfl 3 (by decide) (hts (.fieldLink RX0 21 "TrialSearch$Folds" "outerOf" "[I") (by decide +kernel)) (fun _ h9 => h9) rfl hin rfl (by decide +kernel) rfl rfl (Nat.le_of_ble_eq_true rfl) dX0_init_25 (fun H locs hP hD hS => ?_)
  have hP : va_P g.1 vwCl ((h0, .inr (0, [.int 0, .int 0, .int 0, .ref q24, .null, .null, .null, .null])) :: t1) H := hP
  have hD : va_D A ((h0, .inr (0, [.int 0, .int 0, .int 0, .ref q24, .null, .null, .null, .null])) :: t1) := hD
  refine lv_aload_n hx hb dX0_init_28 rfl (lv_at hl 0 rfl) ?_
  refine lv_sipush (v := 200) hx hb dX0_init_29 (by decide) ?_
  refine cw_newa (atype := .int) (ty := .int) (n := 200) (N' := 200) (a0 := (200, .inl (fun _ => 0))) hx hb rfl (hts (.arrayClass .int) (by decide +kernel)) 0 rfl (fun _ h => h) hK hP hD hS hA (fun _ => rfl) (by decide) (by decide) (by decide) (Nat.le_of_ble_eq_true rfl) (Nat.le_of_ble_eq_true rfl) dX0_init_32 (fun q25 H hP hD hS => ?_)
  refine W.widen (k := 2) (n := 400) (Nat.le_of_ble_eq_true rfl) (Nat.le_of_ble_eq_true rfl) ?_
  obtain ⟨t2, et2⟩ : ∃ t : va_W, t = t1 ++ [(q25, .inl (g.2.2 0, 200, .inl (fun _ => 0)))] := ⟨_, rfl⟩
  have hP : va_P g.1 vwCl ((h0, .inr (0, [.int 0, .int 0, .int 0, .ref q24, .null, .null, .null, .null])) :: (t1 ++ [(q25, .inl (g.2.2 0, 200, .inl (fun _ => 0)))])) H := hP
  have hD : va_D A ((h0, .inr (0, [.int 0, .int 0, .int 0, .ref q24, .null, .null, .null, .null])) :: (t1 ++ [(q25, .inl (g.2.2 0, 200, .inl (fun _ => 0)))])) := hD
  rw [← et2] at hP hD
  refine va_putF (D := g.1) (ci := 0) (v := .ref q25) (ty := .array .int) (C := RX0) (T := TX0) (N := 8) hx hb hts hX0_init_X0 tyX0 tyX0_ok nmX0 hown hK.1 hP hD hS 0 rfl rfl 4 (by decide) (hts (.fieldLink RX0 25 "TrialSearch$Folds" "innerOf" "[I") (by decide +kernel)) (fun _ h9 => h9) rfl hin rfl (by decide +kernel) rfl rfl (Nat.le_of_ble_eq_true rfl) dX0_init_34 (fun H locs hP hD hS => ?_)
  have hP : va_P g.1 vwCl ((h0, .inr (0, [.int 0, .int 0, .int 0, .ref q24, .ref q25, .null, .null, .null])) :: t2) H := hP
  have hD : va_D A ((h0, .inr (0, [.int 0, .int 0, .int 0, .ref q24, .ref q25, .null, .null, .null])) :: t2) := hD
  refine lv_aload_n hx hb dX0_init_37 rfl (lv_at hl 0 rfl) ?_
  refine lv_bipush (v := 10) hx hb dX0_init_38 (by decide) ?_
  refine cw_newa (atype := .int) (ty := .int) (n := 10) (N' := 10) (a0 := (10, .inl (fun _ => 0))) hx hb rfl (hts (.arrayClass .int) (by decide +kernel)) 0 rfl (fun _ h => h) hK hP hD hS hA (fun _ => rfl) (by decide) (by decide) (by decide) (Nat.le_of_ble_eq_true rfl) (Nat.le_of_ble_eq_true rfl) dX0_init_40 (fun q26 H hP hD hS => ?_)
  refine W.widen (k := 3) (n := 410) (Nat.le_of_ble_eq_true rfl) (Nat.le_of_ble_eq_true rfl) ?_
  obtain ⟨t3, et3⟩ : ∃ t : va_W, t = t2 ++ [(q26, .inl (g.2.2 0, 10, .inl (fun _ => 0)))] := ⟨_, rfl⟩
  have hP : va_P g.1 vwCl ((h0, .inr (0, [.int 0, .int 0, .int 0, .ref q24, .ref q25, .null, .null, .null])) :: (t2 ++ [(q26, .inl (g.2.2 0, 10, .inl (fun _ => 0)))])) H := hP
  have hD : va_D A ((h0, .inr (0, [.int 0, .int 0, .int 0, .ref q24, .ref q25, .null, .null, .null])) :: (t2 ++ [(q26, .inl (g.2.2 0, 10, .inl (fun _ => 0)))])) := hD
  rw [← et3] at hP hD
  refine va_putF (D := g.1) (ci := 0) (v := .ref q26) (ty := .array .int) (C := RX0) (T := TX0) (N := 8) hx hb hts hX0_init_X0 tyX0 tyX0_ok nmX0 hown hK.1 hP hD hS 0 rfl rfl 5 (by decide) (hts (.fieldLink RX0 28 "TrialSearch$Folds" "tested" "[I") (by decide +kernel)) (fun _ h9 => h9) rfl hin rfl (by decide +kernel) rfl rfl (Nat.le_of_ble_eq_true rfl) dX0_init_42 (fun H locs hP hD hS => ?_)
  have hP : va_P g.1 vwCl ((h0, .inr (0, [.int 0, .int 0, .int 0, .ref q24, .ref q25, .ref q26, .null, .null])) :: t3) H := hP
  have hD : va_D A ((h0, .inr (0, [.int 0, .int 0, .int 0, .ref q24, .ref q25, .ref q26, .null, .null])) :: t3) := hD
  refine lv_aload_n hx hb dX0_init_45 rfl (lv_at hl 0 rfl) ?_
  refine lv_bipush (v := 10) hx hb dX0_init_46 (by decide) ?_
  refine lv_bipush (v := 10) hx hb dX0_init_48 (by decide) ?_
  refine cw_mna (own := RX0) (index := 31) (n := 10) (k := 10) (N' := 10) (K' := 10) (ty := .int) (z := (10, .inl (fun _ => 0))) hx hb hown (by have h9 := hts (.classLink RX0 31 "[[I") (by decide +kernel); rw [show ("[" ++ (FieldType.array FieldType.int).toString) = "[[I" by decide +kernel]; exact h9) (uAO.at hK.2.1 _) (hts (.arrayClass .int) (by decide +kernel)) 0 4 rfl rfl (fun _ h => h) hK hP hD hS hA (by decide) (by decide) rfl rfl (by decide) (by decide) (by decide) rfl rfl (Nat.le_of_ble_eq_true rfl) (Nat.le_of_ble_eq_true rfl) (fun c => arrV_new c 10 (.int 0)) dX0_init_50 (fun q27 r27 fc27 H hfc27 hP hD hS => ?_)
  refine W.widen (k := 14) (n := 520) (Nat.le_of_ble_eq_true rfl) (Nat.le_of_ble_eq_true rfl) ?_
  obtain ⟨t4, et4⟩ : ∃ t : va_W, t = t3 ++ ((q27, .inl (g.2.2 4, 10, .inr (.inr (.inr (.inr fc27))))) :: (List.range 10).map (fun i => (r27 i, .inl (g.2.2 0, 10, .inl (fun _ => 0))))) := ⟨_, rfl⟩
  have hP : va_P g.1 vwCl ((h0, .inr (0, [.int 0, .int 0, .int 0, .ref q24, .ref q25, .ref q26, .null, .null])) :: (t3 ++ ((q27, .inl (g.2.2 4, 10, .inr (.inr (.inr (.inr fc27))))) :: (List.range 10).map (fun i => (r27 i, .inl (g.2.2 0, 10, .inl (fun _ => 0))))))) H := hP
  have hD : va_D A ((h0, .inr (0, [.int 0, .int 0, .int 0, .ref q24, .ref q25, .ref q26, .null, .null])) :: (t3 ++ ((q27, .inl (g.2.2 4, 10, .inr (.inr (.inr (.inr fc27))))) :: (List.range 10).map (fun i => (r27 i, .inl (g.2.2 0, 10, .inl (fun _ => 0))))))) := hD
  rw [← et4] at hP hD
  refine va_putF (D := g.1) (ci := 0) (v := .ref q27) (ty := .array (.array .int)) (C := RX0) (T := TX0) (N := 8) hx hb hts hX0_init_X0 tyX0 tyX0_ok nmX0 hown hK.1 hP hD hS 0 rfl rfl 6 (by decide) (hts (.fieldLink RX0 33 "TrialSearch$Folds" "chosen" "[[I") (by decide +kernel)) (fun _ h9 => h9) rfl hin rfl (by decide +kernel) rfl rfl (Nat.le_of_ble_eq_true rfl) dX0_init_54 (fun H locs hP hD hS => ?_)
  have hP : va_P g.1 vwCl ((h0, .inr (0, [.int 0, .int 0, .int 0, .ref q24, .ref q25, .ref q26, .ref q27, .null])) :: t4) H := hP
  have hD : va_D A ((h0, .inr (0, [.int 0, .int 0, .int 0, .ref q24, .ref q25, .ref q26, .ref q27, .null])) :: t4) := hD
  refine lv_aload_n hx hb dX0_init_57 rfl (lv_at hl 0 rfl) ?_
  refine lv_sipush (v := 200) hx hb dX0_init_58 (by decide) ?_
  refine cw_newa (atype := .long) (ty := .long) (n := 200) (N' := 200) (a0 := (200, .inr (.inl (fun _ => 0)))) hx hb rfl (hts (.arrayClass .long) (by decide +kernel)) 1 rfl (fun _ h => h) hK hP hD hS hA (fun _ => rfl) (by decide) (by decide) (by decide) (Nat.le_of_ble_eq_true rfl) (Nat.le_of_ble_eq_true rfl) dX0_init_61 (fun q28 H hP hD hS => ?_)
  refine W.widen (k := 15) (n := 720) (Nat.le_of_ble_eq_true rfl) (Nat.le_of_ble_eq_true rfl) ?_
  obtain ⟨t5, et5⟩ : ∃ t : va_W, t = t4 ++ [(q28, .inl (g.2.2 1, 200, .inr (.inl (fun _ => 0))))] := ⟨_, rfl⟩
  have hP : va_P g.1 vwCl ((h0, .inr (0, [.int 0, .int 0, .int 0, .ref q24, .ref q25, .ref q26, .ref q27, .null])) :: (t4 ++ [(q28, .inl (g.2.2 1, 200, .inr (.inl (fun _ => 0))))])) H := hP
  have hD : va_D A ((h0, .inr (0, [.int 0, .int 0, .int 0, .ref q24, .ref q25, .ref q26, .ref q27, .null])) :: (t4 ++ [(q28, .inl (g.2.2 1, 200, .inr (.inl (fun _ => 0))))])) := hD
  rw [← et5] at hP hD
  refine va_putF (D := g.1) (ci := 0) (v := .ref q28) (ty := .array .long) (C := RX0) (T := TX0) (N := 8) hx hb hts hX0_init_X0 tyX0 tyX0_ok nmX0 hown hK.1 hP hD hS 0 rfl rfl 7 (by decide) (hts (.fieldLink RX0 36 "TrialSearch$Folds" "order" "[J") (by decide +kernel)) (fun _ h9 => h9) rfl hin rfl (by decide +kernel) rfl rfl (Nat.le_of_ble_eq_true rfl) dX0_init_63 (fun H locs hP hD hS => ?_)
  have hP : va_P g.1 vwCl ((h0, .inr (0, [.int 0, .int 0, .int 0, .ref q24, .ref q25, .ref q26, .ref q27, .ref q28])) :: t5) H := hP
  have hD : va_D A ((h0, .inr (0, [.int 0, .int 0, .int 0, .ref q24, .ref q25, .ref q26, .ref q27, .ref q28])) :: t5) := hD
  exact W.vret hx hb hr (fun t ht hW => ⟨⟨_, rfl, ⟨q24, q25, q26, q27, r27, fc27, q28, hfc27, by rw [et5, et4, et3, et2, et1]⟩, by rw [ht]; exact hP, hD⟩, hS.F ht⟩) hS.2.2 dX0_init_66
