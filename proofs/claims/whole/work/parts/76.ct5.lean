/-! a constructor -/
def shX5 (g : uG) (h0 : Nat) (w : va_W) : Prop := ∃ (q1 : Nat) (w1 : va_W) (q2 : Nat) (w2 : va_W) (q3 : Nat) (w3 : va_W) (q4 : Nat) (w4 : va_W), (shX3 g q1 w1) ∧ (shX4 g q2 q1 w2) ∧ (shX1 g q3 w3) ∧ (shX0 g q4 w4) ∧ w = ((h0, .inr (4, [.ref q1, .ref q2, .ref q3, .ref q4])) :: ((((([] : va_W) ++ w1) ++ w2) ++ w3) ++ w4))
abbrev rmX5_init : Room := { frames := 2, cells := 165, slots := 3285, locals := 40 }
theorem hX5_init_X3 : ∀ w ∈ wsX30, w ∈ wsX5_init := fun w h => List.mem_cons_of_mem _ (List.mem_append_left _ (List.mem_append_left _ (List.mem_append_left _ (List.mem_append_left _ (List.mem_append_right _ h)))))
theorem hX5_init_X5 : ∀ w ∈ wsX50, w ∈ wsX5_init := fun w h => List.mem_cons_of_mem _ (List.mem_append_left _ (List.mem_append_left _ (List.mem_append_left _ (List.mem_append_right _ h))))
theorem hX5_init_X4 : ∀ w ∈ wsX40, w ∈ wsX5_init := fun w h => List.mem_cons_of_mem _ (List.mem_append_left _ (List.mem_append_left _ (List.mem_append_right _ h)))
theorem hX5_init_X1 : ∀ w ∈ wsX10, w ∈ wsX5_init := fun w h => List.mem_cons_of_mem _ (List.mem_append_left _ (List.mem_append_right _ h))
theorem hX5_init_X0 : ∀ w ∈ wsX00, w ∈ wsX5_init := fun w h => List.mem_cons_of_mem _ (List.mem_append_right _ h)
set_option maxHeartbeats 4000000 in
set_option maxRecDepth 100000 in
theorem c_X5_init (l : Launch) (g : uG) (h0 sz : Nat) : Met l yX5_init wsX5_init rmX5_init (va_Pc [.ref h0] (fun U => U.heap.size = sz ∧ va_P g.1 vwCl [(h0, .inr (4, [.null, .null, .null, .null]))] U.heap ∧ CK g U ∧ va_D (fun _ => True) [(h0, .inr (4, [.null, .null, .null, .null]))])) (va_Qv (fun w : va_W => shX5 g h0 w) (fun w t => va_P g.1 vwCl w t.heap ∧ va_D (va_A [(h0, .inr (4, [.null, .null, .null, .null]))] sz) w) (va_A [(h0, .inr (4, [.null, .null, .null, .null]))] sz)) 165 3285 (va_A [(h0, .inr (4, [.null, .null, .null, .null]))] sz) := by
  refine Met.ofW (cc := cX5_init) (maxL := 1) (ret := none) (by decide) rfl ?_
  intro p e s m args below meth c s₁ B hml hv
  obtain ⟨rfl, hsz, hP, hK, hD0⟩ := hv
  have hx := B.exec
  have hb := B.bytes
  have hr := B.returns
  have hts := atoms_spec (ws := wsX5_init) B.pre
  have hown : s.vm.findClass RX5 = some m.cls := findClass_of_methodNamed B.named
  have hlocks := B.notSynchronized
  have hin : meth.name = "<init>" := (name_of_methodNamed B.named B.method).1
  subst hsz
  have hD := hD0.self (sz := s.heap.size)
  generalize hAe : va_A [(h0, .inr (4, [.null, .null, .null, .null]))] s.heap.size = A at hD ⊢
  have hA : ∀ q : Nat, s.heap.size ≤ q → A q := fun q h => by rw [← hAe]; exact Or.inr h
  have hS : va_S A s.heap s.heap [] := va_S.rf
  have hl := lv_entry ([.ref h0]) (n := 1) (Nat.le_of_ble_eq_true rfl)
  rw [lg_entry_eq]
  generalize (lg_sl ([.ref h0]) ++ List.replicate (1 - (lg_sl ([.ref h0])).length) Slot.unset).toArray = ls at hl ⊢
  have hl : lv_has ls 1 [(0, .ref h0)] := hl
  refine lv_aload_n hx hb dX5_init_0 rfl (lv_at hl 0 rfl) ?_
  refine W.objInit hx hb hown (hts (.methodLink RX5 3 objectInit) (by decide +kernel)) (hts (.instanceMethod objectInit) (by decide +kernel)) (hts (.code objectInit ⟨#[0xb1]⟩ 1 none) (by decide +kernel)) rfl (by rw [hml]; exact hl.1) rfl dX5_init_1 (Nat.le_of_ble_eq_true rfl) (Nat.le_of_ble_eq_true rfl) ?_
  refine W.eq (g2 := F0 m 4 ls []) rfl ?_
  refine lv_aload_n hx hb dX5_init_4 rfl (lv_at hl 0 rfl) ?_
  refine va_new (ci := 2) (fs := [.int 0, .long 0, .null, .null, .null, .null, .null, .null, .null]) (C := RX3) (T := TX3) (N := 9) hx hb hts hX5_init_X3 tyX3 tyX3_ok hown (hts (.classLink RX5 9 RX3) (by decide +kernel)) (hts (.instantiable RX3 9) (by decide +kernel)) (hts (.initialized RX3) (by decide +kernel)) hK.1 hP hD hS hA rfl (by decide +kernel) (Nat.le_of_ble_eq_true rfl) (Nat.le_of_ble_eq_true rfl) dX5_init_5 (fun q1 H hP hD hS => ?_)
  refine W.widen (k := 1) (n := 9) (Nat.le_of_ble_eq_true rfl) (Nat.le_of_ble_eq_true rfl) ?_
  refine lv_dup hx hb dX5_init_8 rfl ?_
  have hPc := cw_lastP hP
  have hDc := cw_lastD hD
  have hFc := cw_free hD hS hA
  refine va_callv (va_runI (As := []) (rest := [.ref q1, .ref h0]) ⟨hx, hb, hml, hown, hts⟩ (c_X3_init l g q1 H.size) (cwI 0 hts gX5_init_X3_init rfl rfl rfl (hts (.initialized RX3) (by decide +kernel)) (hts (.methodLink RX5 11 yX3_init) (by decide +kernel)) (hts (.instanceMethod yX3_init) (by decide +kernel)) rfl (by decide +kernel) ⟨Nat.le_of_ble_eq_true rfl, Nat.le_of_ble_eq_true rfl⟩) ⟨fun a U f mk q => by obtain ⟨q0, q1, qP, qK, qD⟩ := q; exact ⟨q0, q1, qP, qK.call f mk a, qD⟩, fun U hU hW => ⟨rfl, by rw [hU], by rw [hU]; exact hPc, hK.alike hW.alike, hDc⟩⟩ rfl rfl hl.1 rfl (lv_room (Nat.le_of_ble_eq_true rfl)) dX5_init_9 ⟨Nat.le_of_ble_eq_true rfl, Nat.le_of_ble_eq_true rfl⟩) hS (fun q _ h => hFc q h) hFc (fun w1 t H1 locs ht hvm hsh1 hB hz1 hk1 hS => ?_)
  obtain ⟨hP1, hD1⟩ := hB
  rw [ht] at hP1
  obtain ⟨hP, hD⟩ := cw_join (pre := ((h0, .inr (4, [.null, .null, .null, .null])) :: ([] : va_W))) hP hD hk1 hFc hP1 hD1
  generalize H1 = H at hP hS ⊢
  refine W.widen (k := 16) (n := 305) (Nat.le_of_ble_eq_true rfl) (Nat.le_of_ble_eq_true rfl) ?_
  obtain ⟨t1, et1⟩ : ∃ t : va_W, t = ([] : va_W) ++ w1 := ⟨_, rfl⟩
  have hP : va_P g.1 vwCl ((h0, .inr (4, [.null, .null, .null, .null])) :: (([] : va_W) ++ w1)) H := hP
  have hD : va_D A ((h0, .inr (4, [.null, .null, .null, .null])) :: (([] : va_W) ++ w1)) := hD
  rw [← et1] at hP hD
  refine va_putF (D := g.1) (ci := 4) (v := .ref q1) (ty := .object "TrialSearch$Space") (C := RX5) (T := TX5) (N := 4) hx hb hts hX5_init_X5 tyX5 tyX5_ok nmX5 hown hK.1 hP hD hS 0 rfl rfl 0 (by decide) (hts (.fieldLink RX5 12 "TrialSearch" "space" "LTrialSearch$Space;") (by decide +kernel)) (fun _ h9 => h9) rfl hin rfl (by decide +kernel) rfl rfl (Nat.le_of_ble_eq_true rfl) dX5_init_12 (fun H locs hP hD hS => ?_)
  have hP : va_P g.1 vwCl ((h0, .inr (4, [.ref q1, .null, .null, .null])) :: t1) H := hP
  have hD : va_D A ((h0, .inr (4, [.ref q1, .null, .null, .null])) :: t1) := hD
  refine lv_aload_n hx hb dX5_init_15 rfl (lv_at hl 0 rfl) ?_
  refine va_new (ci := 3) (fs := [.int 0, .int 0, .null, .null, .null, .null, .null, .null, .null, .null, .null, .null]) (C := RX4) (T := TX4) (N := 12) hx hb hts hX5_init_X4 tyX4 tyX4_ok hown (hts (.classLink RX5 16 RX4) (by decide +kernel)) (hts (.instantiable RX4 12) (by decide +kernel)) (hts (.initialized RX4) (by decide +kernel)) hK.1 hP hD hS hA rfl (by decide +kernel) (Nat.le_of_ble_eq_true rfl) (Nat.le_of_ble_eq_true rfl) dX5_init_16 (fun q2 H hP hD hS => ?_)
  refine W.widen (k := 17) (n := 317) (Nat.le_of_ble_eq_true rfl) (Nat.le_of_ble_eq_true rfl) ?_
  refine lv_dup hx hb dX5_init_19 rfl ?_
  refine lv_aload_n hx hb dX5_init_20 rfl (lv_at hl 0 rfl) ?_
  refine va_get (D := g.1) (ci := 4) (v := .ref q1) (C := RX5) (T := TX5) (N := 4) hx hb hts hX5_init_X5 hown hK.1 hP 0 rfl rfl 0 (by decide) (hts (.fieldLink RX5 12 "TrialSearch" "space" "LTrialSearch$Space;") (by decide +kernel)) (fun _ h9 => h9) rfl dX5_init_21 ?_
  have hPc := cw_lastP hP
  have hDc := cw_lastD hD
  have hFc := cw_free hD hS hA
  refine va_callv (va_runI (As := [.ref q1]) (rest := [.ref q2, .ref h0]) ⟨hx, hb, hml, hown, hts⟩ (c_X4_init l g q2 q1 H.size) (cwI 1 hts gX5_init_X4_init rfl rfl rfl (hts (.initialized RX4) (by decide +kernel)) (hts (.methodLink RX5 18 yX4_init) (by decide +kernel)) (hts (.instanceMethod yX4_init) (by decide +kernel)) rfl (by decide +kernel) ⟨Nat.le_of_ble_eq_true rfl, Nat.le_of_ble_eq_true rfl⟩) ⟨fun a U f mk q => by obtain ⟨q0, q1, qP, qK, qD⟩ := q; exact ⟨q0, q1, qP, qK.call f mk a, qD⟩, fun U hU hW => ⟨rfl, by rw [hU], by rw [hU]; exact hPc, hK.alike hW.alike, hDc⟩⟩ rfl rfl hl.1 rfl (lv_room (Nat.le_of_ble_eq_true rfl)) dX5_init_24 ⟨Nat.le_of_ble_eq_true rfl, Nat.le_of_ble_eq_true rfl⟩) hS (fun q _ h => hFc q h) hFc (fun w2 t H1 locs ht hvm hsh2 hB hz1 hk1 hS => ?_)
  obtain ⟨hP1, hD1⟩ := hB
  rw [ht] at hP1
  obtain ⟨hP, hD⟩ := cw_join (pre := ((h0, .inr (4, [.ref q1, .null, .null, .null])) :: t1)) hP hD hk1 hFc hP1 hD1
  generalize H1 = H at hP hS ⊢
  refine W.widen (k := 146) (n := 2427) (Nat.le_of_ble_eq_true rfl) (Nat.le_of_ble_eq_true rfl) ?_
  obtain ⟨t2, et2⟩ : ∃ t : va_W, t = t1 ++ w2 := ⟨_, rfl⟩
  have hP : va_P g.1 vwCl ((h0, .inr (4, [.ref q1, .null, .null, .null])) :: (t1 ++ w2)) H := hP
  have hD : va_D A ((h0, .inr (4, [.ref q1, .null, .null, .null])) :: (t1 ++ w2)) := hD
  rw [← et2] at hP hD
  refine va_putF (D := g.1) (ci := 4) (v := .ref q2) (ty := .object "TrialSearch$Trials") (C := RX5) (T := TX5) (N := 4) hx hb hts hX5_init_X5 tyX5 tyX5_ok nmX5 hown hK.1 hP hD hS 0 rfl rfl 1 (by decide) (hts (.fieldLink RX5 21 "TrialSearch" "trials" "LTrialSearch$Trials;") (by decide +kernel)) (fun _ h9 => h9) rfl hin rfl (by decide +kernel) rfl rfl (Nat.le_of_ble_eq_true rfl) dX5_init_27 (fun H locs hP hD hS => ?_)
  have hP : va_P g.1 vwCl ((h0, .inr (4, [.ref q1, .ref q2, .null, .null])) :: t2) H := hP
  have hD : va_D A ((h0, .inr (4, [.ref q1, .ref q2, .null, .null])) :: t2) := hD
  refine lv_aload_n hx hb dX5_init_30 rfl (lv_at hl 0 rfl) ?_
  refine va_new (ci := 1) (fs := [.int 0, .long 0, .null, .null, .int 0, .int 0, .int 0, .int 0, .int 0, .int 0]) (C := RX1) (T := TX1) (N := 10) hx hb hts hX5_init_X1 tyX1 tyX1_ok hown (hts (.classLink RX5 25 RX1) (by decide +kernel)) (hts (.instantiable RX1 10) (by decide +kernel)) (hts (.initialized RX1) (by decide +kernel)) hK.1 hP hD hS hA rfl (by decide +kernel) (Nat.le_of_ble_eq_true rfl) (Nat.le_of_ble_eq_true rfl) dX5_init_31 (fun q3 H hP hD hS => ?_)
  refine W.widen (k := 147) (n := 2437) (Nat.le_of_ble_eq_true rfl) (Nat.le_of_ble_eq_true rfl) ?_
  refine lv_dup hx hb dX5_init_34 rfl ?_
  have hPc := cw_lastP hP
  have hDc := cw_lastD hD
  have hFc := cw_free hD hS hA
  refine va_callv (va_runI (As := []) (rest := [.ref q3, .ref h0]) ⟨hx, hb, hml, hown, hts⟩ (c_X1_init l g q3 H.size) (cwI 0 hts gX5_init_X1_init rfl rfl rfl (hts (.initialized RX1) (by decide +kernel)) (hts (.methodLink RX5 27 yX1_init) (by decide +kernel)) (hts (.instanceMethod yX1_init) (by decide +kernel)) rfl (by decide +kernel) ⟨Nat.le_of_ble_eq_true rfl, Nat.le_of_ble_eq_true rfl⟩) ⟨fun a U f mk q => by obtain ⟨q0, q1, qP, qK, qD⟩ := q; exact ⟨q0, q1, qP, qK.call f mk a, qD⟩, fun U hU hW => ⟨rfl, by rw [hU], by rw [hU]; exact hPc, hK.alike hW.alike, hDc⟩⟩ rfl rfl hl.1 rfl (lv_room (Nat.le_of_ble_eq_true rfl)) dX5_init_35 ⟨Nat.le_of_ble_eq_true rfl, Nat.le_of_ble_eq_true rfl⟩) hS (fun q _ h => hFc q h) hFc (fun w3 t H1 locs ht hvm hsh3 hB hz1 hk1 hS => ?_)
  obtain ⟨hP1, hD1⟩ := hB
  rw [ht] at hP1
  obtain ⟨hP, hD⟩ := cw_join (pre := ((h0, .inr (4, [.ref q1, .ref q2, .null, .null])) :: t2)) hP hD hk1 hFc hP1 hD1
  generalize H1 = H at hP hS ⊢
  refine W.widen (k := 149) (n := 2557) (Nat.le_of_ble_eq_true rfl) (Nat.le_of_ble_eq_true rfl) ?_
  obtain ⟨t3, et3⟩ : ∃ t : va_W, t = t2 ++ w3 := ⟨_, rfl⟩
  have hP : va_P g.1 vwCl ((h0, .inr (4, [.ref q1, .ref q2, .null, .null])) :: (t2 ++ w3)) H := hP
  have hD : va_D A ((h0, .inr (4, [.ref q1, .ref q2, .null, .null])) :: (t2 ++ w3)) := hD
  rw [← et3] at hP hD
  refine va_putF (D := g.1) (ci := 4) (v := .ref q3) (ty := .object "TrialSearch$Rounds") (C := RX5) (T := TX5) (N := 4) hx hb hts hX5_init_X5 tyX5 tyX5_ok nmX5 hown hK.1 hP hD hS 0 rfl rfl 2 (by decide) (hts (.fieldLink RX5 28 "TrialSearch" "rounds" "LTrialSearch$Rounds;") (by decide +kernel)) (fun _ h9 => h9) rfl hin rfl (by decide +kernel) rfl rfl (Nat.le_of_ble_eq_true rfl) dX5_init_38 (fun H locs hP hD hS => ?_)
  have hP : va_P g.1 vwCl ((h0, .inr (4, [.ref q1, .ref q2, .ref q3, .null])) :: t3) H := hP
  have hD : va_D A ((h0, .inr (4, [.ref q1, .ref q2, .ref q3, .null])) :: t3) := hD
  refine lv_aload_n hx hb dX5_init_41 rfl (lv_at hl 0 rfl) ?_
  refine va_new (ci := 0) (fs := [.int 0, .int 0, .int 0, .null, .null, .null, .null, .null]) (C := RX0) (T := TX0) (N := 8) hx hb hts hX5_init_X0 tyX0 tyX0_ok hown (hts (.classLink RX5 32 RX0) (by decide +kernel)) (hts (.instantiable RX0 8) (by decide +kernel)) (hts (.initialized RX0) (by decide +kernel)) hK.1 hP hD hS hA rfl (by decide +kernel) (Nat.le_of_ble_eq_true rfl) (Nat.le_of_ble_eq_true rfl) dX5_init_42 (fun q4 H hP hD hS => ?_)
  refine W.widen (k := 150) (n := 2565) (Nat.le_of_ble_eq_true rfl) (Nat.le_of_ble_eq_true rfl) ?_
  refine lv_dup hx hb dX5_init_45 rfl ?_
  have hPc := cw_lastP hP
  have hDc := cw_lastD hD
  have hFc := cw_free hD hS hA
  refine va_callv (va_runI (As := []) (rest := [.ref q4, .ref h0]) ⟨hx, hb, hml, hown, hts⟩ (c_X0_init l g q4 H.size) (cwI 0 hts gX5_init_X0_init rfl rfl rfl (hts (.initialized RX0) (by decide +kernel)) (hts (.methodLink RX5 34 yX0_init) (by decide +kernel)) (hts (.instanceMethod yX0_init) (by decide +kernel)) rfl (by decide +kernel) ⟨Nat.le_of_ble_eq_true rfl, Nat.le_of_ble_eq_true rfl⟩) ⟨fun a U f mk q => by obtain ⟨q0, q1, qP, qK, qD⟩ := q; exact ⟨q0, q1, qP, qK.call f mk a, qD⟩, fun U hU hW => ⟨rfl, by rw [hU], by rw [hU]; exact hPc, hK.alike hW.alike, hDc⟩⟩ rfl rfl hl.1 rfl (lv_room (Nat.le_of_ble_eq_true rfl)) dX5_init_46 ⟨Nat.le_of_ble_eq_true rfl, Nat.le_of_ble_eq_true rfl⟩) hS (fun q _ h => hFc q h) hFc (fun w4 t H1 locs ht hvm hsh4 hB hz1 hk1 hS => ?_)
  obtain ⟨hP1, hD1⟩ := hB
  rw [ht] at hP1
  obtain ⟨hP, hD⟩ := cw_join (pre := ((h0, .inr (4, [.ref q1, .ref q2, .ref q3, .null])) :: t3)) hP hD hk1 hFc hP1 hD1
  generalize H1 = H at hP hS ⊢
  refine W.widen (k := 165) (n := 3285) (Nat.le_of_ble_eq_true rfl) (Nat.le_of_ble_eq_true rfl) ?_
  obtain ⟨t4, et4⟩ : ∃ t : va_W, t = t3 ++ w4 := ⟨_, rfl⟩
  have hP : va_P g.1 vwCl ((h0, .inr (4, [.ref q1, .ref q2, .ref q3, .null])) :: (t3 ++ w4)) H := hP
  have hD : va_D A ((h0, .inr (4, [.ref q1, .ref q2, .ref q3, .null])) :: (t3 ++ w4)) := hD
  rw [← et4] at hP hD
  refine va_putF (D := g.1) (ci := 4) (v := .ref q4) (ty := .object "TrialSearch$Folds") (C := RX5) (T := TX5) (N := 4) hx hb hts hX5_init_X5 tyX5 tyX5_ok nmX5 hown hK.1 hP hD hS 0 rfl rfl 3 (by decide) (hts (.fieldLink RX5 35 "TrialSearch" "parts" "LTrialSearch$Folds;") (by decide +kernel)) (fun _ h9 => h9) rfl hin rfl (by decide +kernel) rfl rfl (Nat.le_of_ble_eq_true rfl) dX5_init_49 (fun H locs hP hD hS => ?_)
  have hP : va_P g.1 vwCl ((h0, .inr (4, [.ref q1, .ref q2, .ref q3, .ref q4])) :: t4) H := hP
  have hD : va_D A ((h0, .inr (4, [.ref q1, .ref q2, .ref q3, .ref q4])) :: t4) := hD
  exact W.vret hx hb hr (fun t ht hW => ⟨⟨_, rfl, ⟨q1, w1, q2, w2, q3, w3, q4, w4, hsh1, hsh2, hsh3, hsh4, by rw [et4, et3, et2, et1]⟩, by rw [ht]; exact hP, hD⟩, hS.F ht⟩) hS.2.2 dX5_init_52
