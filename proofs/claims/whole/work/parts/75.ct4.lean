/-! a constructor -/
def shX4 (g : uG) (h0 h1 : Nat) (w : va_W) : Prop := ∃ (q13 : Nat) (q14 : Nat) (q15 : Nat) (q16 : Nat) (q17 : Nat) (r17 : Nat → Nat) (fc17 : Nat → Option Nat) (q18 : Nat) (r18 : Nat → Nat) (fc18 : Nat → Option Nat) (q19 : Nat) (q20 : Nat) (q21 : Nat), (∀ i, i < 60 → fc17 i = some (r17 i)) ∧ (∀ i, i < 60 → fc18 i = some (r18 i)) ∧ w = ((h0, .inr (3, [.int 0, .int 0, .ref q13, .ref q14, .ref q15, .ref q16, .ref q17, .ref h1, .ref q18, .ref q19, .ref q20, .ref q21])) :: (((((((((([] : va_W) ++ [(q13, .inl (g.2.2 1, 60, .inr (.inl (fun _ => 0))))]) ++ [(q14, .inl (g.2.2 0, 60, .inl (fun _ => 0)))]) ++ [(q15, .inl (g.2.2 0, 60, .inl (fun _ => 0)))]) ++ [(q16, .inl (g.2.2 0, 60, .inl (fun _ => 0)))]) ++ ((q17, .inl (g.2.2 4, 60, .inr (.inr (.inr (.inr fc17))))) :: (List.range 60).map (fun i => (r17 i, .inl (g.2.2 0, 20, .inl (fun _ => 0)))))) ++ ((q18, .inl (g.2.2 4, 60, .inr (.inr (.inr (.inr fc18))))) :: (List.range 60).map (fun i => (r18 i, .inl (g.2.2 0, 8, .inl (fun _ => 0)))))) ++ [(q19, .inl (g.2.2 0, 5, .inl (fun _ => 0)))]) ++ [(q20, .inl (g.2.2 0, 5, .inl (fun _ => 0)))]) ++ [(q21, .inl (g.2.2 0, 60, .inl (fun _ => 0)))]))
abbrev rmX4_init : Room := { frames := 1, cells := 129, slots := 2110, locals := 12 }
theorem hX4_init_X4 : ∀ w ∈ wsX40, w ∈ wsX4_init := fun w h => List.mem_cons_of_mem _ (List.mem_append_right _ h)
set_option maxHeartbeats 4000000 in
set_option maxRecDepth 100000 in
theorem c_X4_init (l : Launch) (g : uG) (h0 h1 sz : Nat) : Met l yX4_init wsX4_init rmX4_init (va_Pc [.ref h0, .ref h1] (fun U => U.heap.size = sz ∧ va_P g.1 vwCl [(h0, .inr (3, [.int 0, .int 0, .null, .null, .null, .null, .null, .null, .null, .null, .null, .null]))] U.heap ∧ CK g U ∧ va_D (fun _ => True) [(h0, .inr (3, [.int 0, .int 0, .null, .null, .null, .null, .null, .null, .null, .null, .null, .null]))])) (va_Qv (fun w : va_W => shX4 g h0 h1 w) (fun w t => va_P g.1 vwCl w t.heap ∧ va_D (va_A [(h0, .inr (3, [.int 0, .int 0, .null, .null, .null, .null, .null, .null, .null, .null, .null, .null]))] sz) w) (va_A [(h0, .inr (3, [.int 0, .int 0, .null, .null, .null, .null, .null, .null, .null, .null, .null, .null]))] sz)) 129 2110 (va_A [(h0, .inr (3, [.int 0, .int 0, .null, .null, .null, .null, .null, .null, .null, .null, .null, .null]))] sz) := by
  refine Met.ofW (cc := cX4_init) (maxL := 2) (ret := none) (by decide) rfl ?_
  intro p e s m args below meth c s₁ B hml hv
  obtain ⟨rfl, hsz, hP, hK, hD0⟩ := hv
  have hx := B.exec
  have hb := B.bytes
  have hr := B.returns
  have hts := atoms_spec (ws := wsX4_init) B.pre
  have hown : s.vm.findClass RX4 = some m.cls := findClass_of_methodNamed B.named
  have hlocks := B.notSynchronized
  have hin : meth.name = "<init>" := (name_of_methodNamed B.named B.method).1
  subst hsz
  have hD := hD0.self (sz := s.heap.size)
  generalize hAe : va_A [(h0, .inr (3, [.int 0, .int 0, .null, .null, .null, .null, .null, .null, .null, .null, .null, .null]))] s.heap.size = A at hD ⊢
  have hA : ∀ q : Nat, s.heap.size ≤ q → A q := fun q h => by rw [← hAe]; exact Or.inr h
  have hS : va_S A s.heap s.heap [] := va_S.rf
  have hl := lv_entry ([.ref h0, .ref h1]) (n := 2) (Nat.le_of_ble_eq_true rfl)
  rw [lg_entry_eq]
  generalize (lg_sl ([.ref h0, .ref h1]) ++ List.replicate (2 - (lg_sl ([.ref h0, .ref h1])).length) Slot.unset).toArray = ls at hl ⊢
  have hl : lv_has ls 2 [(0, .ref h0), (1, .ref h1)] := hl
  refine lv_aload_n hx hb dX4_init_0 rfl (lv_at hl 0 rfl) ?_
  refine W.objInit hx hb hown (hts (.methodLink RX4 3 objectInit) (by decide +kernel)) (hts (.instanceMethod objectInit) (by decide +kernel)) (hts (.code objectInit ⟨#[0xb1]⟩ 1 none) (by decide +kernel)) rfl (by rw [hml]; exact hl.1) rfl dX4_init_1 (Nat.le_of_ble_eq_true rfl) (Nat.le_of_ble_eq_true rfl) ?_
  refine W.eq (g2 := F0 m 4 ls []) rfl ?_
  refine lv_aload_n hx hb dX4_init_4 rfl (lv_at hl 0 rfl) ?_
  refine lv_iconst (v := 0) hx hb dX4_init_5 (by decide) ?_
  refine va_put (D := g.1) (ci := 3) (v := .int 0) (ty := .int) (C := RX4) (T := TX4) (N := 12) hx hb hts hX4_init_X4 tyX4 tyX4_ok nmX4 hown hK.1 hP hD hS 0 rfl rfl 0 (by decide) (hts (.fieldLink RX4 9 "TrialSearch$Trials" "made" "I") (by decide +kernel)) (fun _ h9 => h9) rfl (by decide +kernel) rfl rfl (Nat.le_of_ble_eq_true rfl) dX4_init_6 (fun H locs hP hD hS => ?_)
  have hP : va_P g.1 vwCl ((h0, .inr (3, [.int 0, .int 0, .null, .null, .null, .null, .null, .null, .null, .null, .null, .null])) :: ([] : va_W)) H := hP
  have hD : va_D A ((h0, .inr (3, [.int 0, .int 0, .null, .null, .null, .null, .null, .null, .null, .null, .null, .null])) :: ([] : va_W)) := hD
  refine lv_aload_n hx hb dX4_init_9 rfl (lv_at hl 0 rfl) ?_
  refine lv_iconst (v := 0) hx hb dX4_init_10 (by decide) ?_
  refine va_put (D := g.1) (ci := 3) (v := .int 0) (ty := .int) (C := RX4) (T := TX4) (N := 12) hx hb hts hX4_init_X4 tyX4 tyX4_ok nmX4 hown hK.1 hP hD hS 0 rfl rfl 1 (by decide) (hts (.fieldLink RX4 15 "TrialSearch$Trials" "scored" "I") (by decide +kernel)) (fun _ h9 => h9) rfl (by decide +kernel) rfl rfl (Nat.le_of_ble_eq_true rfl) dX4_init_11 (fun H locs hP hD hS => ?_)
  have hP : va_P g.1 vwCl ((h0, .inr (3, [.int 0, .int 0, .null, .null, .null, .null, .null, .null, .null, .null, .null, .null])) :: ([] : va_W)) H := hP
  have hD : va_D A ((h0, .inr (3, [.int 0, .int 0, .null, .null, .null, .null, .null, .null, .null, .null, .null, .null])) :: ([] : va_W)) := hD
  refine lv_aload_n hx hb dX4_init_14 rfl (lv_at hl 0 rfl) ?_
  refine lv_bipush (v := 60) hx hb dX4_init_15 (by decide) ?_
  refine cw_newa (atype := .long) (ty := .long) (n := 60) (N' := 60) (a0 := (60, .inr (.inl (fun _ => 0)))) hx hb rfl (hts (.arrayClass .long) (by decide +kernel)) 1 rfl (fun _ h => h) hK hP hD hS hA (fun _ => rfl) (by decide) (by decide) (by decide) (Nat.le_of_ble_eq_true rfl) (Nat.le_of_ble_eq_true rfl) dX4_init_17 (fun q13 H hP hD hS => ?_)
  refine W.widen (k := 1) (n := 60) (Nat.le_of_ble_eq_true rfl) (Nat.le_of_ble_eq_true rfl) ?_
  obtain ⟨t1, et1⟩ : ∃ t : va_W, t = ([] : va_W) ++ [(q13, .inl (g.2.2 1, 60, .inr (.inl (fun _ => 0))))] := ⟨_, rfl⟩
  have hP : va_P g.1 vwCl ((h0, .inr (3, [.int 0, .int 0, .null, .null, .null, .null, .null, .null, .null, .null, .null, .null])) :: (([] : va_W) ++ [(q13, .inl (g.2.2 1, 60, .inr (.inl (fun _ => 0))))])) H := hP
  have hD : va_D A ((h0, .inr (3, [.int 0, .int 0, .null, .null, .null, .null, .null, .null, .null, .null, .null, .null])) :: (([] : va_W) ++ [(q13, .inl (g.2.2 1, 60, .inr (.inl (fun _ => 0))))])) := hD
  rw [← et1] at hP hD
  refine va_putF (D := g.1) (ci := 3) (v := .ref q13) (ty := .array .long) (C := RX4) (T := TX4) (N := 12) hx hb hts hX4_init_X4 tyX4 tyX4_ok nmX4 hown hK.1 hP hD hS 0 rfl rfl 2 (by decide) (hts (.fieldLink RX4 18 "TrialSearch$Trials" "places" "[J") (by decide +kernel)) (fun _ h9 => h9) rfl hin rfl (by decide +kernel) rfl rfl (Nat.le_of_ble_eq_true rfl) dX4_init_19 (fun H locs hP hD hS => ?_)
  have hP : va_P g.1 vwCl ((h0, .inr (3, [.int 0, .int 0, .ref q13, .null, .null, .null, .null, .null, .null, .null, .null, .null])) :: t1) H := hP
  have hD : va_D A ((h0, .inr (3, [.int 0, .int 0, .ref q13, .null, .null, .null, .null, .null, .null, .null, .null, .null])) :: t1) := hD
  refine lv_aload_n hx hb dX4_init_22 rfl (lv_at hl 0 rfl) ?_
  refine lv_bipush (v := 60) hx hb dX4_init_23 (by decide) ?_
  refine cw_newa (atype := .int) (ty := .int) (n := 60) (N' := 60) (a0 := (60, .inl (fun _ => 0))) hx hb rfl (hts (.arrayClass .int) (by decide +kernel)) 0 rfl (fun _ h => h) hK hP hD hS hA (fun _ => rfl) (by decide) (by decide) (by decide) (Nat.le_of_ble_eq_true rfl) (Nat.le_of_ble_eq_true rfl) dX4_init_25 (fun q14 H hP hD hS => ?_)
  refine W.widen (k := 2) (n := 120) (Nat.le_of_ble_eq_true rfl) (Nat.le_of_ble_eq_true rfl) ?_
  obtain ⟨t2, et2⟩ : ∃ t : va_W, t = t1 ++ [(q14, .inl (g.2.2 0, 60, .inl (fun _ => 0)))] := ⟨_, rfl⟩
  have hP : va_P g.1 vwCl ((h0, .inr (3, [.int 0, .int 0, .ref q13, .null, .null, .null, .null, .null, .null, .null, .null, .null])) :: (t1 ++ [(q14, .inl (g.2.2 0, 60, .inl (fun _ => 0)))])) H := hP
  have hD : va_D A ((h0, .inr (3, [.int 0, .int 0, .ref q13, .null, .null, .null, .null, .null, .null, .null, .null, .null])) :: (t1 ++ [(q14, .inl (g.2.2 0, 60, .inl (fun _ => 0)))])) := hD
  rw [← et2] at hP hD
  refine va_putF (D := g.1) (ci := 3) (v := .ref q14) (ty := .array .int) (C := RX4) (T := TX4) (N := 12) hx hb hts hX4_init_X4 tyX4 tyX4_ok nmX4 hown hK.1 hP hD hS 0 rfl rfl 3 (by decide) (hts (.fieldLink RX4 22 "TrialSearch$Trials" "states" "[I") (by decide +kernel)) (fun _ h9 => h9) rfl hin rfl (by decide +kernel) rfl rfl (Nat.le_of_ble_eq_true rfl) dX4_init_27 (fun H locs hP hD hS => ?_)
  have hP : va_P g.1 vwCl ((h0, .inr (3, [.int 0, .int 0, .ref q13, .ref q14, .null, .null, .null, .null, .null, .null, .null, .null])) :: t2) H := hP
  have hD : va_D A ((h0, .inr (3, [.int 0, .int 0, .ref q13, .ref q14, .null, .null, .null, .null, .null, .null, .null, .null])) :: t2) := hD
  refine lv_aload_n hx hb dX4_init_30 rfl (lv_at hl 0 rfl) ?_
  refine lv_bipush (v := 60) hx hb dX4_init_31 (by decide) ?_
  refine cw_newa (atype := .int) (ty := .int) (n := 60) (N' := 60) (a0 := (60, .inl (fun _ => 0))) hx hb rfl (hts (.arrayClass .int) (by decide +kernel)) 0 rfl (fun _ h => h) hK hP hD hS hA (fun _ => rfl) (by decide) (by decide) (by decide) (Nat.le_of_ble_eq_true rfl) (Nat.le_of_ble_eq_true rfl) dX4_init_33 (fun q15 H hP hD hS => ?_)
  refine W.widen (k := 3) (n := 180) (Nat.le_of_ble_eq_true rfl) (Nat.le_of_ble_eq_true rfl) ?_
  obtain ⟨t3, et3⟩ : ∃ t : va_W, t = t2 ++ [(q15, .inl (g.2.2 0, 60, .inl (fun _ => 0)))] := ⟨_, rfl⟩
  have hP : va_P g.1 vwCl ((h0, .inr (3, [.int 0, .int 0, .ref q13, .ref q14, .null, .null, .null, .null, .null, .null, .null, .null])) :: (t2 ++ [(q15, .inl (g.2.2 0, 60, .inl (fun _ => 0)))])) H := hP
  have hD : va_D A ((h0, .inr (3, [.int 0, .int 0, .ref q13, .ref q14, .null, .null, .null, .null, .null, .null, .null, .null])) :: (t2 ++ [(q15, .inl (g.2.2 0, 60, .inl (fun _ => 0)))])) := hD
  rw [← et3] at hP hD
  refine va_putF (D := g.1) (ci := 3) (v := .ref q15) (ty := .array .int) (C := RX4) (T := TX4) (N := 12) hx hb hts hX4_init_X4 tyX4 tyX4_ok nmX4 hown hK.1 hP hD hS 0 rfl rfl 4 (by decide) (hts (.fieldLink RX4 26 "TrialSearch$Trials" "scores" "[I") (by decide +kernel)) (fun _ h9 => h9) rfl hin rfl (by decide +kernel) rfl rfl (Nat.le_of_ble_eq_true rfl) dX4_init_35 (fun H locs hP hD hS => ?_)
  have hP : va_P g.1 vwCl ((h0, .inr (3, [.int 0, .int 0, .ref q13, .ref q14, .ref q15, .null, .null, .null, .null, .null, .null, .null])) :: t3) H := hP
  have hD : va_D A ((h0, .inr (3, [.int 0, .int 0, .ref q13, .ref q14, .ref q15, .null, .null, .null, .null, .null, .null, .null])) :: t3) := hD
  refine lv_aload_n hx hb dX4_init_38 rfl (lv_at hl 0 rfl) ?_
  refine lv_bipush (v := 60) hx hb dX4_init_39 (by decide) ?_
  refine cw_newa (atype := .int) (ty := .int) (n := 60) (N' := 60) (a0 := (60, .inl (fun _ => 0))) hx hb rfl (hts (.arrayClass .int) (by decide +kernel)) 0 rfl (fun _ h => h) hK hP hD hS hA (fun _ => rfl) (by decide) (by decide) (by decide) (Nat.le_of_ble_eq_true rfl) (Nat.le_of_ble_eq_true rfl) dX4_init_41 (fun q16 H hP hD hS => ?_)
  refine W.widen (k := 4) (n := 240) (Nat.le_of_ble_eq_true rfl) (Nat.le_of_ble_eq_true rfl) ?_
  obtain ⟨t4, et4⟩ : ∃ t : va_W, t = t3 ++ [(q16, .inl (g.2.2 0, 60, .inl (fun _ => 0)))] := ⟨_, rfl⟩
  have hP : va_P g.1 vwCl ((h0, .inr (3, [.int 0, .int 0, .ref q13, .ref q14, .ref q15, .null, .null, .null, .null, .null, .null, .null])) :: (t3 ++ [(q16, .inl (g.2.2 0, 60, .inl (fun _ => 0)))])) H := hP
  have hD : va_D A ((h0, .inr (3, [.int 0, .int 0, .ref q13, .ref q14, .ref q15, .null, .null, .null, .null, .null, .null, .null])) :: (t3 ++ [(q16, .inl (g.2.2 0, 60, .inl (fun _ => 0)))])) := hD
  rw [← et4] at hP hD
  refine va_putF (D := g.1) (ci := 3) (v := .ref q16) (ty := .array .int) (C := RX4) (T := TX4) (N := 12) hx hb hts hX4_init_X4 tyX4 tyX4_ok nmX4 hown hK.1 hP hD hS 0 rfl rfl 5 (by decide) (hts (.fieldLink RX4 29 "TrialSearch$Trials" "steps" "[I") (by decide +kernel)) (fun _ h9 => h9) rfl hin rfl (by decide +kernel) rfl rfl (Nat.le_of_ble_eq_true rfl) dX4_init_43 (fun H locs hP hD hS => ?_)
  have hP : va_P g.1 vwCl ((h0, .inr (3, [.int 0, .int 0, .ref q13, .ref q14, .ref q15, .ref q16, .null, .null, .null, .null, .null, .null])) :: t4) H := hP
  have hD : va_D A ((h0, .inr (3, [.int 0, .int 0, .ref q13, .ref q14, .ref q15, .ref q16, .null, .null, .null, .null, .null, .null])) :: t4) := hD
  refine lv_aload_n hx hb dX4_init_46 rfl (lv_at hl 0 rfl) ?_
  refine lv_bipush (v := 60) hx hb dX4_init_47 (by decide) ?_
  refine lv_bipush (v := 20) hx hb dX4_init_49 (by decide) ?_
  refine cw_mna (own := RX4) (index := 32) (n := 60) (k := 20) (N' := 60) (K' := 20) (ty := .int) (z := (20, .inl (fun _ => 0))) hx hb hown (by have h9 := hts (.classLink RX4 32 "[[I") (by decide +kernel); rw [show ("[" ++ (FieldType.array FieldType.int).toString) = "[[I" by decide +kernel]; exact h9) (uAO.at hK.2.1 _) (hts (.arrayClass .int) (by decide +kernel)) 0 4 rfl rfl (fun _ h => h) hK hP hD hS hA (by decide) (by decide) rfl rfl (by decide) (by decide) (by decide) rfl rfl (Nat.le_of_ble_eq_true rfl) (Nat.le_of_ble_eq_true rfl) (fun c => arrV_new c 20 (.int 0)) dX4_init_51 (fun q17 r17 fc17 H hfc17 hP hD hS => ?_)
  refine W.widen (k := 65) (n := 1500) (Nat.le_of_ble_eq_true rfl) (Nat.le_of_ble_eq_true rfl) ?_
  obtain ⟨t5, et5⟩ : ∃ t : va_W, t = t4 ++ ((q17, .inl (g.2.2 4, 60, .inr (.inr (.inr (.inr fc17))))) :: (List.range 60).map (fun i => (r17 i, .inl (g.2.2 0, 20, .inl (fun _ => 0))))) := ⟨_, rfl⟩
  have hP : va_P g.1 vwCl ((h0, .inr (3, [.int 0, .int 0, .ref q13, .ref q14, .ref q15, .ref q16, .null, .null, .null, .null, .null, .null])) :: (t4 ++ ((q17, .inl (g.2.2 4, 60, .inr (.inr (.inr (.inr fc17))))) :: (List.range 60).map (fun i => (r17 i, .inl (g.2.2 0, 20, .inl (fun _ => 0))))))) H := hP
  have hD : va_D A ((h0, .inr (3, [.int 0, .int 0, .ref q13, .ref q14, .ref q15, .ref q16, .null, .null, .null, .null, .null, .null])) :: (t4 ++ ((q17, .inl (g.2.2 4, 60, .inr (.inr (.inr (.inr fc17))))) :: (List.range 60).map (fun i => (r17 i, .inl (g.2.2 0, 20, .inl (fun _ => 0))))))) := hD
  rw [← et5] at hP hD
  refine va_putF (D := g.1) (ci := 3) (v := .ref q17) (ty := .array (.array .int)) (C := RX4) (T := TX4) (N := 12) hx hb hts hX4_init_X4 tyX4 tyX4_ok nmX4 hown hK.1 hP hD hS 0 rfl rfl 6 (by decide) (hts (.fieldLink RX4 34 "TrialSearch$Trials" "reports" "[[I") (by decide +kernel)) (fun _ h9 => h9) rfl hin rfl (by decide +kernel) rfl rfl (Nat.le_of_ble_eq_true rfl) dX4_init_55 (fun H locs hP hD hS => ?_)
  have hP : va_P g.1 vwCl ((h0, .inr (3, [.int 0, .int 0, .ref q13, .ref q14, .ref q15, .ref q16, .ref q17, .null, .null, .null, .null, .null])) :: t5) H := hP
  have hD : va_D A ((h0, .inr (3, [.int 0, .int 0, .ref q13, .ref q14, .ref q15, .ref q16, .ref q17, .null, .null, .null, .null, .null])) :: t5) := hD
  refine lv_aload_n hx hb dX4_init_58 rfl (lv_at hl 0 rfl) ?_
  refine lv_aload_n hx hb dX4_init_59 rfl (lv_at hl 1 rfl) ?_
  refine va_putF (D := g.1) (ci := 3) (v := .ref h1) (ty := .object "TrialSearch$Space") (C := RX4) (T := TX4) (N := 12) hx hb hts hX4_init_X4 tyX4 tyX4_ok nmX4 hown hK.1 hP hD hS 0 rfl rfl 7 (by decide) (hts (.fieldLink RX4 37 "TrialSearch$Trials" "space" "LTrialSearch$Space;") (by decide +kernel)) (fun _ h9 => h9) rfl hin rfl (by decide +kernel) rfl rfl (Nat.le_of_ble_eq_true rfl) dX4_init_60 (fun H locs hP hD hS => ?_)
  have hP : va_P g.1 vwCl ((h0, .inr (3, [.int 0, .int 0, .ref q13, .ref q14, .ref q15, .ref q16, .ref q17, .ref h1, .null, .null, .null, .null])) :: t5) H := hP
  have hD : va_D A ((h0, .inr (3, [.int 0, .int 0, .ref q13, .ref q14, .ref q15, .ref q16, .ref q17, .ref h1, .null, .null, .null, .null])) :: t5) := hD
  refine lv_aload_n hx hb dX4_init_63 rfl (lv_at hl 0 rfl) ?_
  refine lv_bipush (v := 60) hx hb dX4_init_64 (by decide) ?_
  refine lv_bipush (v := 8) hx hb dX4_init_66 (by decide) ?_
  refine cw_mna (own := RX4) (index := 32) (n := 60) (k := 8) (N' := 60) (K' := 8) (ty := .int) (z := (8, .inl (fun _ => 0))) hx hb hown (by have h9 := hts (.classLink RX4 32 "[[I") (by decide +kernel); rw [show ("[" ++ (FieldType.array FieldType.int).toString) = "[[I" by decide +kernel]; exact h9) (uAO.at hK.2.1 _) (hts (.arrayClass .int) (by decide +kernel)) 0 4 rfl rfl (fun _ h => h) hK hP hD hS hA (by decide) (by decide) rfl rfl (by decide) (by decide) (by decide) rfl rfl (Nat.le_of_ble_eq_true rfl) (Nat.le_of_ble_eq_true rfl) (fun c => arrV_new c 8 (.int 0)) dX4_init_68 (fun q18 r18 fc18 H hfc18 hP hD hS => ?_)
  refine W.widen (k := 126) (n := 2040) (Nat.le_of_ble_eq_true rfl) (Nat.le_of_ble_eq_true rfl) ?_
  obtain ⟨t6, et6⟩ : ∃ t : va_W, t = t5 ++ ((q18, .inl (g.2.2 4, 60, .inr (.inr (.inr (.inr fc18))))) :: (List.range 60).map (fun i => (r18 i, .inl (g.2.2 0, 8, .inl (fun _ => 0))))) := ⟨_, rfl⟩
  have hP : va_P g.1 vwCl ((h0, .inr (3, [.int 0, .int 0, .ref q13, .ref q14, .ref q15, .ref q16, .ref q17, .ref h1, .null, .null, .null, .null])) :: (t5 ++ ((q18, .inl (g.2.2 4, 60, .inr (.inr (.inr (.inr fc18))))) :: (List.range 60).map (fun i => (r18 i, .inl (g.2.2 0, 8, .inl (fun _ => 0))))))) H := hP
  have hD : va_D A ((h0, .inr (3, [.int 0, .int 0, .ref q13, .ref q14, .ref q15, .ref q16, .ref q17, .ref h1, .null, .null, .null, .null])) :: (t5 ++ ((q18, .inl (g.2.2 4, 60, .inr (.inr (.inr (.inr fc18))))) :: (List.range 60).map (fun i => (r18 i, .inl (g.2.2 0, 8, .inl (fun _ => 0))))))) := hD
  rw [← et6] at hP hD
  refine va_putF (D := g.1) (ci := 3) (v := .ref q18) (ty := .array (.array .int)) (C := RX4) (T := TX4) (N := 12) hx hb hts hX4_init_X4 tyX4 tyX4_ok nmX4 hown hK.1 hP hD hS 0 rfl rfl 8 (by decide) (hts (.fieldLink RX4 41 "TrialSearch$Trials" "values" "[[I") (by decide +kernel)) (fun _ h9 => h9) rfl hin rfl (by decide +kernel) rfl rfl (Nat.le_of_ble_eq_true rfl) dX4_init_72 (fun H locs hP hD hS => ?_)
  have hP : va_P g.1 vwCl ((h0, .inr (3, [.int 0, .int 0, .ref q13, .ref q14, .ref q15, .ref q16, .ref q17, .ref h1, .ref q18, .null, .null, .null])) :: t6) H := hP
  have hD : va_D A ((h0, .inr (3, [.int 0, .int 0, .ref q13, .ref q14, .ref q15, .ref q16, .ref q17, .ref h1, .ref q18, .null, .null, .null])) :: t6) := hD
  refine lv_aload_n hx hb dX4_init_75 rfl (lv_at hl 0 rfl) ?_
  refine lv_iconst (v := 5) hx hb dX4_init_76 (by decide) ?_
  refine cw_newa (atype := .int) (ty := .int) (n := 5) (N' := 5) (a0 := (5, .inl (fun _ => 0))) hx hb rfl (hts (.arrayClass .int) (by decide +kernel)) 0 rfl (fun _ h => h) hK hP hD hS hA (fun _ => rfl) (by decide) (by decide) (by decide) (Nat.le_of_ble_eq_true rfl) (Nat.le_of_ble_eq_true rfl) dX4_init_77 (fun q19 H hP hD hS => ?_)
  refine W.widen (k := 127) (n := 2045) (Nat.le_of_ble_eq_true rfl) (Nat.le_of_ble_eq_true rfl) ?_
  obtain ⟨t7, et7⟩ : ∃ t : va_W, t = t6 ++ [(q19, .inl (g.2.2 0, 5, .inl (fun _ => 0)))] := ⟨_, rfl⟩
  have hP : va_P g.1 vwCl ((h0, .inr (3, [.int 0, .int 0, .ref q13, .ref q14, .ref q15, .ref q16, .ref q17, .ref h1, .ref q18, .null, .null, .null])) :: (t6 ++ [(q19, .inl (g.2.2 0, 5, .inl (fun _ => 0)))])) H := hP
  have hD : va_D A ((h0, .inr (3, [.int 0, .int 0, .ref q13, .ref q14, .ref q15, .ref q16, .ref q17, .ref h1, .ref q18, .null, .null, .null])) :: (t6 ++ [(q19, .inl (g.2.2 0, 5, .inl (fun _ => 0)))])) := hD
  rw [← et7] at hP hD
  refine va_putF (D := g.1) (ci := 3) (v := .ref q19) (ty := .array .int) (C := RX4) (T := TX4) (N := 12) hx hb hts hX4_init_X4 tyX4 tyX4_ok nmX4 hown hK.1 hP hD hS 0 rfl rfl 9 (by decide) (hts (.fieldLink RX4 44 "TrialSearch$Trials" "nearGaps" "[I") (by decide +kernel)) (fun _ h9 => h9) rfl hin rfl (by decide +kernel) rfl rfl (Nat.le_of_ble_eq_true rfl) dX4_init_79 (fun H locs hP hD hS => ?_)
  have hP : va_P g.1 vwCl ((h0, .inr (3, [.int 0, .int 0, .ref q13, .ref q14, .ref q15, .ref q16, .ref q17, .ref h1, .ref q18, .ref q19, .null, .null])) :: t7) H := hP
  have hD : va_D A ((h0, .inr (3, [.int 0, .int 0, .ref q13, .ref q14, .ref q15, .ref q16, .ref q17, .ref h1, .ref q18, .ref q19, .null, .null])) :: t7) := hD
  refine lv_aload_n hx hb dX4_init_82 rfl (lv_at hl 0 rfl) ?_
  refine lv_iconst (v := 5) hx hb dX4_init_83 (by decide) ?_
  refine cw_newa (atype := .int) (ty := .int) (n := 5) (N' := 5) (a0 := (5, .inl (fun _ => 0))) hx hb rfl (hts (.arrayClass .int) (by decide +kernel)) 0 rfl (fun _ h => h) hK hP hD hS hA (fun _ => rfl) (by decide) (by decide) (by decide) (Nat.le_of_ble_eq_true rfl) (Nat.le_of_ble_eq_true rfl) dX4_init_84 (fun q20 H hP hD hS => ?_)
  refine W.widen (k := 128) (n := 2050) (Nat.le_of_ble_eq_true rfl) (Nat.le_of_ble_eq_true rfl) ?_
  obtain ⟨t8, et8⟩ : ∃ t : va_W, t = t7 ++ [(q20, .inl (g.2.2 0, 5, .inl (fun _ => 0)))] := ⟨_, rfl⟩
  have hP : va_P g.1 vwCl ((h0, .inr (3, [.int 0, .int 0, .ref q13, .ref q14, .ref q15, .ref q16, .ref q17, .ref h1, .ref q18, .ref q19, .null, .null])) :: (t7 ++ [(q20, .inl (g.2.2 0, 5, .inl (fun _ => 0)))])) H := hP
  have hD : va_D A ((h0, .inr (3, [.int 0, .int 0, .ref q13, .ref q14, .ref q15, .ref q16, .ref q17, .ref h1, .ref q18, .ref q19, .null, .null])) :: (t7 ++ [(q20, .inl (g.2.2 0, 5, .inl (fun _ => 0)))])) := hD
  rw [← et8] at hP hD
  refine va_putF (D := g.1) (ci := 3) (v := .ref q20) (ty := .array .int) (C := RX4) (T := TX4) (N := 12) hx hb hts hX4_init_X4 tyX4 tyX4_ok nmX4 hown hK.1 hP hD hS 0 rfl rfl 10 (by decide) (hts (.fieldLink RX4 47 "TrialSearch$Trials" "nearScores" "[I") (by decide +kernel)) (fun _ h9 => h9) rfl hin rfl (by decide +kernel) rfl rfl (Nat.le_of_ble_eq_true rfl) dX4_init_86 (fun H locs hP hD hS => ?_)
  have hP : va_P g.1 vwCl ((h0, .inr (3, [.int 0, .int 0, .ref q13, .ref q14, .ref q15, .ref q16, .ref q17, .ref h1, .ref q18, .ref q19, .ref q20, .null])) :: t8) H := hP
  have hD : va_D A ((h0, .inr (3, [.int 0, .int 0, .ref q13, .ref q14, .ref q15, .ref q16, .ref q17, .ref h1, .ref q18, .ref q19, .ref q20, .null])) :: t8) := hD
  refine lv_aload_n hx hb dX4_init_89 rfl (lv_at hl 0 rfl) ?_
  refine lv_bipush (v := 60) hx hb dX4_init_90 (by decide) ?_
  refine cw_newa (atype := .int) (ty := .int) (n := 60) (N' := 60) (a0 := (60, .inl (fun _ => 0))) hx hb rfl (hts (.arrayClass .int) (by decide +kernel)) 0 rfl (fun _ h => h) hK hP hD hS hA (fun _ => rfl) (by decide) (by decide) (by decide) (Nat.le_of_ble_eq_true rfl) (Nat.le_of_ble_eq_true rfl) dX4_init_92 (fun q21 H hP hD hS => ?_)
  refine W.widen (k := 129) (n := 2110) (Nat.le_of_ble_eq_true rfl) (Nat.le_of_ble_eq_true rfl) ?_
  obtain ⟨t9, et9⟩ : ∃ t : va_W, t = t8 ++ [(q21, .inl (g.2.2 0, 60, .inl (fun _ => 0)))] := ⟨_, rfl⟩
  have hP : va_P g.1 vwCl ((h0, .inr (3, [.int 0, .int 0, .ref q13, .ref q14, .ref q15, .ref q16, .ref q17, .ref h1, .ref q18, .ref q19, .ref q20, .null])) :: (t8 ++ [(q21, .inl (g.2.2 0, 60, .inl (fun _ => 0)))])) H := hP
  have hD : va_D A ((h0, .inr (3, [.int 0, .int 0, .ref q13, .ref q14, .ref q15, .ref q16, .ref q17, .ref h1, .ref q18, .ref q19, .ref q20, .null])) :: (t8 ++ [(q21, .inl (g.2.2 0, 60, .inl (fun _ => 0)))])) := hD
  rw [← et9] at hP hD
  refine va_putF (D := g.1) (ci := 3) (v := .ref q21) (ty := .array .int) (C := RX4) (T := TX4) (N := 12) hx hb hts hX4_init_X4 tyX4 tyX4_ok nmX4 hown hK.1 hP hD hS 0 rfl rfl 11 (by decide) (hts (.fieldLink RX4 50 "TrialSearch$Trials" "others" "[I") (by decide +kernel)) (fun _ h9 => h9) rfl hin rfl (by decide +kernel) rfl rfl (Nat.le_of_ble_eq_true rfl) dX4_init_94 (fun H locs hP hD hS => ?_)
  have hP : va_P g.1 vwCl ((h0, .inr (3, [.int 0, .int 0, .ref q13, .ref q14, .ref q15, .ref q16, .ref q17, .ref h1, .ref q18, .ref q19, .ref q20, .ref q21])) :: t9) H := hP
  have hD : va_D A ((h0, .inr (3, [.int 0, .int 0, .ref q13, .ref q14, .ref q15, .ref q16, .ref q17, .ref h1, .ref q18, .ref q19, .ref q20, .ref q21])) :: t9) := hD
  exact W.vret hx hb hr (fun t ht hW => ⟨⟨_, rfl, ⟨q13, q14, q15, q16, q17, r17, fc17, q18, r18, fc18, q19, q20, q21, hfc17, hfc18, by rw [et9, et8, et7, et6, et5, et4, et3, et2, et1]⟩, by rw [ht]; exact hP, hD⟩, hS.F ht⟩) hS.2.2 dX4_init_97
