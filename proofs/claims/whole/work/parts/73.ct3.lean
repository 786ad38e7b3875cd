/-! a constructor -/
def shX3 (g : uG) (h0 : Nat) (w : va_W) : Prop := ∃ (q6 : Nat) (q7 : Nat) (q8 : Nat) (q9 : Nat) (q10 : Nat) (q11 : Nat) (q12 : Nat) (r12 : Nat → Nat) (fc12 : Nat → Option Nat), (∀ i, i < 8 → fc12 i = some (r12 i)) ∧ w = ((h0, .inr (2, [.int 0, .long 1, .ref q6, .ref q7, .ref q8, .ref q9, .ref q10, .ref q11, .ref q12])) :: (((((((([] : va_W) ++ [(q6, .inl (g.2.2 0, 8, .inl (fun _ => 0)))]) ++ [(q7, .inl (g.2.2 0, 8, .inl (fun _ => 0)))]) ++ [(q8, .inl (g.2.2 0, 8, .inl (fun _ => 0)))]) ++ [(q9, .inl (g.2.2 0, 8, .inl (fun _ => 0)))]) ++ [(q10, .inl (g.2.2 0, 8, .inl (fun _ => 0)))]) ++ [(q11, .inl (g.2.2 1, 8, .inr (.inl (fun _ => 0))))]) ++ ((q12, .inl (g.2.2 3, 8, .inr (.inr (.inr (.inr fc12))))) :: (List.range 8).map (fun i => (r12 i, .inl (g.2.2 1, 30, .inr (.inl (fun _ => 0))))))))
abbrev rmX3_init : Room := { frames := 1, cells := 15, slots := 296, locals := 12 }
theorem hX3_init_X3 : ∀ w ∈ wsX30, w ∈ wsX3_init := fun w h => List.mem_cons_of_mem _ (List.mem_append_right _ h)
set_option maxHeartbeats 4000000 in
set_option maxRecDepth 100000 in
theorem c_X3_init (l : Launch) (g : uG) (h0 sz : Nat) : Met l yX3_init wsX3_init rmX3_init (va_Pc [.ref h0] (fun U => U.heap.size = sz ∧ va_P g.1 vwCl [(h0, .inr (2, [.int 0, .long 0, .null, .null, .null, .null, .null, .null, .null]))] U.heap ∧ CK g U ∧ va_D (fun _ => True) [(h0, .inr (2, [.int 0, .long 0, .null, .null, .null, .null, .null, .null, .null]))])) (va_Qv (fun w : va_W => shX3 g h0 w) (fun w t => va_P g.1 vwCl w t.heap ∧ va_D (va_A [(h0, .inr (2, [.int 0, .long 0, .null, .null, .null, .null, .null, .null, .null]))] sz) w) (va_A [(h0, .inr (2, [.int 0, .long 0, .null, .null, .null, .null, .null, .null, .null]))] sz)) 15 296 (va_A [(h0, .inr (2, [.int 0, .long 0, .null, .null, .null, .null, .null, .null, .null]))] sz) := by
  refine Met.ofW (cc := cX3_init) (maxL := 1) (ret := none) (by decide) rfl ?_
  intro p e s m args below meth c s₁ B hml hv
  obtain ⟨rfl, hsz, hP, hK, hD0⟩ := hv
  have hx := B.exec
  have hb := B.bytes
  have hr := B.returns
  have hts := atoms_spec (ws := wsX3_init) B.pre
  have hown : s.vm.findClass RX3 = some m.cls := findClass_of_methodNamed B.named
  have hlocks := B.notSynchronized
  have hin : meth.name = "<init>" := (name_of_methodNamed B.named B.method).1
  subst hsz
  have hD := hD0.self (sz := s.heap.size)
  generalize hAe : va_A [(h0, .inr (2, [.int 0, .long 0, .null, .null, .null, .null, .null, .null, .null]))] s.heap.size = A at hD ⊢
  have hA : ∀ q : Nat, s.heap.size ≤ q → A q := fun q h => by rw [← hAe]; exact Or.inr h
  have hS : va_S A s.heap s.heap [] := va_S.rf
  have hl := lv_entry ([.ref h0]) (n := 1) (Nat.le_of_ble_eq_true rfl)
  rw [lg_entry_eq]
  generalize (lg_sl ([.ref h0]) ++ List.replicate (1 - (lg_sl ([.ref h0])).length) Slot.unset).toArray = ls at hl ⊢
  have hl : lv_has ls 1 [(0, .ref h0)] := hl
  refine lv_aload_n hx hb dX3_init_0 rfl (lv_at hl 0 rfl) ?_
  refine W.objInit hx hb hown (hts (.methodLink RX3 3 objectInit) (by decide +kernel)) (hts (.instanceMethod objectInit) (by decide +kernel)) (hts (.code objectInit ⟨#[0xb1]⟩ 1 none) (by decide +kernel)) rfl (by rw [hml]; exact hl.1) rfl dX3_init_1 (Nat.le_of_ble_eq_true rfl) (Nat.le_of_ble_eq_true rfl) ?_
  refine W.eq (g2 := F0 m 4 ls []) rfl ?_
  refine lv_aload_n hx hb dX3_init_4 rfl (lv_at hl 0 rfl) ?_
  refine lv_iconst (v := 0) hx hb dX3_init_5 (by decide) ?_
  refine va_put (D := g.1) (ci := 2) (v := .int 0) (ty := .int) (C := RX3) (T := TX3) (N := 9) hx hb hts hX3_init_X3 tyX3 tyX3_ok nmX3 hown hK.1 hP hD hS 0 rfl rfl 0 (by decide) (hts (.fieldLink RX3 9 "TrialSearch$Space" "names" "I") (by decide +kernel)) (fun _ h9 => h9) rfl (by decide +kernel) rfl rfl (Nat.le_of_ble_eq_true rfl) dX3_init_6 (fun H locs hP hD hS => ?_)
  have hP : va_P g.1 vwCl ((h0, .inr (2, [.int 0, .long 0, .null, .null, .null, .null, .null, .null, .null])) :: ([] : va_W)) H := hP
  have hD : va_D A ((h0, .inr (2, [.int 0, .long 0, .null, .null, .null, .null, .null, .null, .null])) :: ([] : va_W)) := hD
  refine lv_aload_n hx hb dX3_init_9 rfl (lv_at hl 0 rfl) ?_
  refine lv_lconst (v := 1) hx hb dX3_init_10 (by decide) ?_
  refine va_put (D := g.1) (ci := 2) (v := .long 1) (ty := .long) (C := RX3) (T := TX3) (N := 9) hx hb hts hX3_init_X3 tyX3 tyX3_ok nmX3 hown hK.1 hP hD hS 0 rfl rfl 1 (by decide) (hts (.fieldLink RX3 15 "TrialSearch$Space" "all" "J") (by decide +kernel)) (fun _ h9 => h9) rfl (by decide +kernel) rfl rfl (Nat.le_of_ble_eq_true rfl) dX3_init_11 (fun H locs hP hD hS => ?_)
  have hP : va_P g.1 vwCl ((h0, .inr (2, [.int 0, .long 1, .null, .null, .null, .null, .null, .null, .null])) :: ([] : va_W)) H := hP
  have hD : va_D A ((h0, .inr (2, [.int 0, .long 1, .null, .null, .null, .null, .null, .null, .null])) :: ([] : va_W)) := hD
  refine lv_aload_n hx hb dX3_init_14 rfl (lv_at hl 0 rfl) ?_
  refine lv_bipush (v := 8) hx hb dX3_init_15 (by decide) ?_
  refine cw_newa (atype := .int) (ty := .int) (n := 8) (N' := 8) (a0 := (8, .inl (fun _ => 0))) hx hb rfl (hts (.arrayClass .int) (by decide +kernel)) 0 rfl (fun _ h => h) hK hP hD hS hA (fun _ => rfl) (by decide) (by decide) (by decide) (Nat.le_of_ble_eq_true rfl) (Nat.le_of_ble_eq_true rfl) dX3_init_17 (fun q6 H hP hD hS => ?_)
  refine W.widen (k := 1) (n := 8) (Nat.le_of_ble_eq_true rfl) (Nat.le_of_ble_eq_true rfl) ?_
  obtain ⟨t1, et1⟩ : ∃ t : va_W, t = ([] : va_W) ++ [(q6, .inl (g.2.2 0, 8, .inl (fun _ => 0)))] := ⟨_, rfl⟩
  have hP : va_P g.1 vwCl ((h0, .inr (2, [.int 0, .long 1, .null, .null, .null, .null, .null, .null, .null])) :: (([] : va_W) ++ [(q6, .inl (g.2.2 0, 8, .inl (fun _ => 0)))])) H := hP
  have hD : va_D A ((h0, .inr (2, [.int 0, .long 1, .null, .null, .null, .null, .null, .null, .null])) :: (([] : va_W) ++ [(q6, .inl (g.2.2 0, 8, .inl (fun _ => 0)))])) := hD
  rw [← et1] at hP hD
  refine va_putF (D := g.1) (ci := 2) (v := .ref q6) (ty := .array .int) (C := RX3) (T := TX3) (N := 9) hx hb hts hX3_init_X3 tyX3 tyX3_ok nmX3 hown hK.1 hP hD hS 0 rfl rfl 2 (by decide) (hts (.fieldLink RX3 19 "TrialSearch$Space" "left" "[I") (by decide +kernel)) (fun _ h9 => h9) rfl hin rfl (by decide +kernel) rfl rfl (Nat.le_of_ble_eq_true rfl) dX3_init_19 (fun H locs hP hD hS => ?_)
  have hP : va_P g.1 vwCl ((h0, .inr (2, [.int 0, .long 1, .ref q6, .null, .null, .null, .null, .null, .null])) :: t1) H := hP
  have hD : va_D A ((h0, .inr (2, [.int 0, .long 1, .ref q6, .null, .null, .null, .null, .null, .null])) :: t1) := hD
  refine lv_aload_n hx hb dX3_init_22 rfl (lv_at hl 0 rfl) ?_
  refine lv_bipush (v := 8) hx hb dX3_init_23 (by decide) ?_
  refine cw_newa (atype := .int) (ty := .int) (n := 8) (N' := 8) (a0 := (8, .inl (fun _ => 0))) hx hb rfl (hts (.arrayClass .int) (by decide +kernel)) 0 rfl (fun _ h => h) hK hP hD hS hA (fun _ => rfl) (by decide) (by decide) (by decide) (Nat.le_of_ble_eq_true rfl) (Nat.le_of_ble_eq_true rfl) dX3_init_25 (fun q7 H hP hD hS => ?_)
  refine W.widen (k := 2) (n := 16) (Nat.le_of_ble_eq_true rfl) (Nat.le_of_ble_eq_true rfl) ?_
  obtain ⟨t2, et2⟩ : ∃ t : va_W, t = t1 ++ [(q7, .inl (g.2.2 0, 8, .inl (fun _ => 0)))] := ⟨_, rfl⟩
  have hP : va_P g.1 vwCl ((h0, .inr (2, [.int 0, .long 1, .ref q6, .null, .null, .null, .null, .null, .null])) :: (t1 ++ [(q7, .inl (g.2.2 0, 8, .inl (fun _ => 0)))])) H := hP
  have hD : va_D A ((h0, .inr (2, [.int 0, .long 1, .ref q6, .null, .null, .null, .null, .null, .null])) :: (t1 ++ [(q7, .inl (g.2.2 0, 8, .inl (fun _ => 0)))])) := hD
  rw [← et2] at hP hD
  refine va_putF (D := g.1) (ci := 2) (v := .ref q7) (ty := .array .int) (C := RX3) (T := TX3) (N := 9) hx hb hts hX3_init_X3 tyX3 tyX3_ok nmX3 hown hK.1 hP hD hS 0 rfl rfl 3 (by decide) (hts (.fieldLink RX3 23 "TrialSearch$Space" "right" "[I") (by decide +kernel)) (fun _ h9 => h9) rfl hin rfl (by decide +kernel) rfl rfl (Nat.le_of_ble_eq_true rfl) dX3_init_27 (fun H locs hP hD hS => ?_)
  have hP : va_P g.1 vwCl ((h0, .inr (2, [.int 0, .long 1, .ref q6, .ref q7, .null, .null, .null, .null, .null])) :: t2) H := hP
  have hD : va_D A ((h0, .inr (2, [.int 0, .long 1, .ref q6, .ref q7, .null, .null, .null, .null, .null])) :: t2) := hD
  refine lv_aload_n hx hb dX3_init_30 rfl (lv_at hl 0 rfl) ?_
  refine lv_bipush (v := 8) hx hb dX3_init_31 (by decide) ?_
  refine cw_newa (atype := .int) (ty := .int) (n := 8) (N' := 8) (a0 := (8, .inl (fun _ => 0))) hx hb rfl (hts (.arrayClass .int) (by decide +kernel)) 0 rfl (fun _ h => h) hK hP hD hS hA (fun _ => rfl) (by decide) (by decide) (by decide) (Nat.le_of_ble_eq_true rfl) (Nat.le_of_ble_eq_true rfl) dX3_init_33 (fun q8 H hP hD hS => ?_)
  refine W.widen (k := 3) (n := 24) (Nat.le_of_ble_eq_true rfl) (Nat.le_of_ble_eq_true rfl) ?_
  obtain ⟨t3, et3⟩ : ∃ t : va_W, t = t2 ++ [(q8, .inl (g.2.2 0, 8, .inl (fun _ => 0)))] := ⟨_, rfl⟩
  have hP : va_P g.1 vwCl ((h0, .inr (2, [.int 0, .long 1, .ref q6, .ref q7, .null, .null, .null, .null, .null])) :: (t2 ++ [(q8, .inl (g.2.2 0, 8, .inl (fun _ => 0)))])) H := hP
  have hD : va_D A ((h0, .inr (2, [.int 0, .long 1, .ref q6, .ref q7, .null, .null, .null, .null, .null])) :: (t2 ++ [(q8, .inl (g.2.2 0, 8, .inl (fun _ => 0)))])) := hD
  rw [← et3] at hP hD
  refine va_putF (D := g.1) (ci := 2) (v := .ref q8) (ty := .array .int) (C := RX3) (T := TX3) (N := 9) hx hb hts hX3_init_X3 tyX3 tyX3_ok nmX3 hown hK.1 hP hD hS 0 rfl rfl 4 (by decide) (hts (.fieldLink RX3 26 "TrialSearch$Space" "many" "[I") (by decide +kernel)) (fun _ h9 => h9) rfl hin rfl (by decide +kernel) rfl rfl (Nat.le_of_ble_eq_true rfl) dX3_init_35 (fun H locs hP hD hS => ?_)
  have hP : va_P g.1 vwCl ((h0, .inr (2, [.int 0, .long 1, .ref q6, .ref q7, .ref q8, .null, .null, .null, .null])) :: t3) H := hP
  have hD : va_D A ((h0, .inr (2, [.int 0, .long 1, .ref q6, .ref q7, .ref q8, .null, .null, .null, .null])) :: t3) := hD
  refine lv_aload_n hx hb dX3_init_38 rfl (lv_at hl 0 rfl) ?_
  refine lv_bipush (v := 8) hx hb dX3_init_39 (by decide) ?_
  refine cw_newa (atype := .int) (ty := .int) (n := 8) (N' := 8) (a0 := (8, .inl (fun _ => 0))) hx hb rfl (hts (.arrayClass .int) (by decide +kernel)) 0 rfl (fun _ h => h) hK hP hD hS hA (fun _ => rfl) (by decide) (by decide) (by decide) (Nat.le_of_ble_eq_true rfl) (Nat.le_of_ble_eq_true rfl) dX3_init_41 (fun q9 H hP hD hS => ?_)
  refine W.widen (k := 4) (n := 32) (Nat.le_of_ble_eq_true rfl) (Nat.le_of_ble_eq_true rfl) ?_
  obtain ⟨t4, et4⟩ : ∃ t : va_W, t = t3 ++ [(q9, .inl (g.2.2 0, 8, .inl (fun _ => 0)))] := ⟨_, rfl⟩
  have hP : va_P g.1 vwCl ((h0, .inr (2, [.int 0, .long 1, .ref q6, .ref q7, .ref q8, .null, .null, .null, .null])) :: (t3 ++ [(q9, .inl (g.2.2 0, 8, .inl (fun _ => 0)))])) H := hP
  have hD : va_D A ((h0, .inr (2, [.int 0, .long 1, .ref q6, .ref q7, .ref q8, .null, .null, .null, .null])) :: (t3 ++ [(q9, .inl (g.2.2 0, 8, .inl (fun _ => 0)))])) := hD
  rw [← et4] at hP hD
  refine va_putF (D := g.1) (ci := 2) (v := .ref q9) (ty := .array .int) (C := RX3) (T := TX3) (N := 9) hx hb hts hX3_init_X3 tyX3 tyX3_ok nmX3 hown hK.1 hP hD hS 0 rfl rfl 5 (by decide) (hts (.fieldLink RX3 29 "TrialSearch$Space" "on" "[I") (by decide +kernel)) (fun _ h9 => h9) rfl hin rfl (by decide +kernel) rfl rfl (Nat.le_of_ble_eq_true rfl) dX3_init_43 (fun H locs hP hD hS => ?_)
  have hP : va_P g.1 vwCl ((h0, .inr (2, [.int 0, .long 1, .ref q6, .ref q7, .ref q8, .ref q9, .null, .null, .null])) :: t4) H := hP
  have hD : va_D A ((h0, .inr (2, [.int 0, .long 1, .ref q6, .ref q7, .ref q8, .ref q9, .null, .null, .null])) :: t4) := hD
  refine lv_aload_n hx hb dX3_init_46 rfl (lv_at hl 0 rfl) ?_
  refine lv_bipush (v := 8) hx hb dX3_init_47 (by decide) ?_
  refine cw_newa (atype := .int) (ty := .int) (n := 8) (N' := 8) (a0 := (8, .inl (fun _ => 0))) hx hb rfl (hts (.arrayClass .int) (by decide +kernel)) 0 rfl (fun _ h => h) hK hP hD hS hA (fun _ => rfl) (by decide) (by decide) (by decide) (Nat.le_of_ble_eq_true rfl) (Nat.le_of_ble_eq_true rfl) dX3_init_49 (fun q10 H hP hD hS => ?_)
  refine W.widen (k := 5) (n := 40) (Nat.le_of_ble_eq_true rfl) (Nat.le_of_ble_eq_true rfl) ?_
  obtain ⟨t5, et5⟩ : ∃ t : va_W, t = t4 ++ [(q10, .inl (g.2.2 0, 8, .inl (fun _ => 0)))] := ⟨_, rfl⟩
  have hP : va_P g.1 vwCl ((h0, .inr (2, [.int 0, .long 1, .ref q6, .ref q7, .ref q8, .ref q9, .null, .null, .null])) :: (t4 ++ [(q10, .inl (g.2.2 0, 8, .inl (fun _ => 0)))])) H := hP
  have hD : va_D A ((h0, .inr (2, [.int 0, .long 1, .ref q6, .ref q7, .ref q8, .ref q9, .null, .null, .null])) :: (t4 ++ [(q10, .inl (g.2.2 0, 8, .inl (fun _ => 0)))])) := hD
  rw [← et5] at hP hD
  refine va_putF (D := g.1) (ci := 2) (v := .ref q10) (ty := .array .int) (C := RX3) (T := TX3) (N := 9) hx hb hts hX3_init_X3 tyX3 tyX3_ok nmX3 hown hK.1 hP hD hS 0 rfl rfl 6 (by decide) (hts (.fieldLink RX3 32 "TrialSearch$Space" "set" "[I") (by decide +kernel)) (fun _ h9 => h9) rfl hin rfl (by decide +kernel) rfl rfl (Nat.le_of_ble_eq_true rfl) dX3_init_51 (fun H locs hP hD hS => ?_)
  have hP : va_P g.1 vwCl ((h0, .inr (2, [.int 0, .long 1, .ref q6, .ref q7, .ref q8, .ref q9, .ref q10, .null, .null])) :: t5) H := hP
  have hD : va_D A ((h0, .inr (2, [.int 0, .long 1, .ref q6, .ref q7, .ref q8, .ref q9, .ref q10, .null, .null])) :: t5) := hD
  refine lv_aload_n hx hb dX3_init_54 rfl (lv_at hl 0 rfl) ?_
  refine lv_bipush (v := 8) hx hb dX3_init_55 (by decide) ?_
  refine cw_newa (atype := .long) (ty := .long) (n := 8) (N' := 8) (a0 := (8, .inr (.inl (fun _ => 0)))) hx hb rfl (hts (.arrayClass .long) (by decide +kernel)) 1 rfl (fun _ h => h) hK hP hD hS hA (fun _ => rfl) (by decide) (by decide) (by decide) (Nat.le_of_ble_eq_true rfl) (Nat.le_of_ble_eq_true rfl) dX3_init_57 (fun q11 H hP hD hS => ?_)
  refine W.widen (k := 6) (n := 48) (Nat.le_of_ble_eq_true rfl) (Nat.le_of_ble_eq_true rfl) ?_
  obtain ⟨t6, et6⟩ : ∃ t : va_W, t = t5 ++ [(q11, .inl (g.2.2 1, 8, .inr (.inl (fun _ => 0))))] := ⟨_, rfl⟩
  have hP : va_P g.1 vwCl ((h0, .inr (2, [.int 0, .long 1, .ref q6, .ref q7, .ref q8, .ref q9, .ref q10, .null, .null])) :: (t5 ++ [(q11, .inl (g.2.2 1, 8, .inr (.inl (fun _ => 0))))])) H := hP
  have hD : va_D A ((h0, .inr (2, [.int 0, .long 1, .ref q6, .ref q7, .ref q8, .ref q9, .ref q10, .null, .null])) :: (t5 ++ [(q11, .inl (g.2.2 1, 8, .inr (.inl (fun _ => 0))))])) := hD
  rw [← et6] at hP hD
  refine va_putF (D := g.1) (ci := 2) (v := .ref q11) (ty := .array .long) (C := RX3) (T := TX3) (N := 9) hx hb hts hX3_init_X3 tyX3 tyX3_ok nmX3 hown hK.1 hP hD hS 0 rfl rfl 7 (by decide) (hts (.fieldLink RX3 35 "TrialSearch$Space" "ways" "[J") (by decide +kernel)) (fun _ h9 => h9) rfl hin rfl (by decide +kernel) rfl rfl (Nat.le_of_ble_eq_true rfl) dX3_init_59 (fun H locs hP hD hS => ?_)
  have hP : va_P g.1 vwCl ((h0, .inr (2, [.int 0, .long 1, .ref q6, .ref q7, .ref q8, .ref q9, .ref q10, .ref q11, .null])) :: t6) H := hP
  have hD : va_D A ((h0, .inr (2, [.int 0, .long 1, .ref q6, .ref q7, .ref q8, .ref q9, .ref q10, .ref q11, .null])) :: t6) := hD
  refine lv_aload_n hx hb dX3_init_62 rfl (lv_at hl 0 rfl) ?_
  refine lv_bipush (v := 8) hx hb dX3_init_63 (by decide) ?_
  refine lv_bipush (v := 30) hx hb dX3_init_65 (by decide) ?_
  refine cw_mna (own := RX3) (index := 39) (n := 8) (k := 30) (N' := 8) (K' := 30) (ty := .long) (z := (30, .inr (.inl (fun _ => 0)))) hx hb hown (by have h9 := hts (.classLink RX3 39 "[[J") (by decide +kernel); rw [show ("[" ++ (FieldType.array FieldType.long).toString) = "[[J" by decide +kernel]; exact h9) (uAO.at hK.2.2 _) (hts (.arrayClass .long) (by decide +kernel)) 1 3 rfl rfl (fun _ h => h) hK hP hD hS hA (by decide) (by decide) rfl rfl (by decide) (by decide) (by decide) rfl rfl (Nat.le_of_ble_eq_true rfl) (Nat.le_of_ble_eq_true rfl) (fun c => arrV_new c 30 (.long 0)) dX3_init_67 (fun q12 r12 fc12 H hfc12 hP hD hS => ?_)
  refine W.widen (k := 15) (n := 296) (Nat.le_of_ble_eq_true rfl) (Nat.le_of_ble_eq_true rfl) ?_
  obtain ⟨t7, et7⟩ : ∃ t : va_W, t = t6 ++ ((q12, .inl (g.2.2 3, 8, .inr (.inr (.inr (.inr fc12))))) :: (List.range 8).map (fun i => (r12 i, .inl (g.2.2 1, 30, .inr (.inl (fun _ => 0)))))) := ⟨_, rfl⟩
  have hP : va_P g.1 vwCl ((h0, .inr (2, [.int 0, .long 1, .ref q6, .ref q7, .ref q8, .ref q9, .ref q10, .ref q11, .null])) :: (t6 ++ ((q12, .inl (g.2.2 3, 8, .inr (.inr (.inr (.inr fc12))))) :: (List.range 8).map (fun i => (r12 i, .inl (g.2.2 1, 30, .inr (.inl (fun _ => 0)))))))) H := hP
  have hD : va_D A ((h0, .inr (2, [.int 0, .long 1, .ref q6, .ref q7, .ref q8, .ref q9, .ref q10, .ref q11, .null])) :: (t6 ++ ((q12, .inl (g.2.2 3, 8, .inr (.inr (.inr (.inr fc12))))) :: (List.range 8).map (fun i => (r12 i, .inl (g.2.2 1, 30, .inr (.inl (fun _ => 0)))))))) := hD
  rw [← et7] at hP hD
  refine va_putF (D := g.1) (ci := 2) (v := .ref q12) (ty := .array (.array .long)) (C := RX3) (T := TX3) (N := 9) hx hb hts hX3_init_X3 tyX3 tyX3_ok nmX3 hown hK.1 hP hD hS 0 rfl rfl 8 (by decide) (hts (.fieldLink RX3 41 "TrialSearch$Space" "waysBelow" "[[J") (by decide +kernel)) (fun _ h9 => h9) rfl hin rfl (by decide +kernel) rfl rfl (Nat.le_of_ble_eq_true rfl) dX3_init_71 (fun H locs hP hD hS => ?_)
  have hP : va_P g.1 vwCl ((h0, .inr (2, [.int 0, .long 1, .ref q6, .ref q7, .ref q8, .ref q9, .ref q10, .ref q11, .ref q12])) :: t7) H := hP
  have hD : va_D A ((h0, .inr (2, [.int 0, .long 1, .ref q6, .ref q7, .ref q8, .ref q9, .ref q10, .ref q11, .ref q12])) :: t7) := hD
  exact W.vret hx hb hr (fun t ht hW => ⟨⟨_, rfl, ⟨q6, q7, q8, q9, q10, q11, q12, r12, fc12, hfc12, by rw [et7, et6, et5, et4, et3, et2, et1]⟩, by rw [ht]; exact hP, hD⟩, hS.F ht⟩) hS.2.2 dX3_init_74
