set_option maxHeartbeats 4000000 in
set_option maxRecDepth 100000 in
theorem c_X4_add {l : Launch} {g : uG} {a0 : Int64} {A : SA} {B : SB} {Q : Int32 → SA → SB → Prop} (hw : wp_X4_add a0 A B Q) : MI l yX4_add wsX4_add rmX4_add g A B [.ref (g.2.1 2), .long a0] Q := by
  refine u_of (cc := cX4_add) (maxL := 4) (ret := (some .int)) (by decide) rfl (Nat.le_of_ble_eq_true rfl) ?_
  intro p e s m below meth c ls C K U hl
  obtain ⟨hx, hb, hml, hown, hts, hr, hlocks⟩ := id C
  have S : CallFix p m c cX4_add 4 s ([.ref (g.2.1 2), .long a0] : List Value).toArray wsX4_add RX4 := ⟨hx, hb, hml, hown, hts⟩
  have hl : lv_has ls 4 [(0, .ref (g.2.1 2)), (1, .long a0)] := hl
  refine lv_aload_n hx hb dX4_add_0 rfl (lv_at hl 0 rfl) ?_
  refine u_get (C := RX4) (T := TX4) (N := 12) (v := .int (A 2 0)) hx hb hts hX4_add_X4 hown K U 2 3 (by decide) rfl rfl 0 (by decide) (hts (.fieldLink RX4 9 "TrialSearch$Trials" "made" "I") (by decide +kernel)) rfl rfl dX4_add_1 ?_
  refine lv_topi (fun x_1 ex_1 => ?_)
  have hw := hw x_1 ex_1
  refine lv_istore_n (lv' := [(3, .int x_1), (0, .ref (g.2.1 2)), (1, .long a0)]) hx hb dX4_add_4 rfl hl (by decide) rfl (fun ls hl => ?_)
  refine lv_aload_n hx hb dX4_add_5 rfl (lv_at hl 1 rfl) ?_
  refine u_get (C := RX4) (T := TX4) (N := 12) (v := .ref (g.2.1 13)) hx hb hts hX4_add_X4 hown K U 2 3 (by decide) rfl rfl 2 (by decide) (hts (.fieldLink RX4 18 "TrialSearch$Trials" "places" "[J") (by decide +kernel)) rfl rfl dX4_add_6 ?_
  refine lv_iload_n hx hb dX4_add_9 rfl (lv_at hl 0 rfl) ?_
  refine lv_lload_n hx hb dX4_add_10 rfl (lv_at hl 2 rfl) ?_
  obtain ⟨hi_2, hw⟩ := hw
  refine u_last (k := 13) hx hb K U rfl (by decide) rfl hi_2 dX4_add_11 (fun H locs U => ?_)
  refine lv_aload_n hx hb dX4_add_12 rfl (lv_at hl 1 rfl) ?_
  refine u_get (C := RX4) (T := TX4) (N := 12) (v := .ref (g.2.1 14)) hx hb hts hX4_add_X4 hown K U 2 3 (by decide) rfl rfl 3 (by decide) (hts (.fieldLink RX4 22 "TrialSearch$Trials" "states" "[I") (by decide +kernel)) rfl rfl dX4_add_13 ?_
  refine lv_iload_n hx hb dX4_add_16 rfl (lv_at hl 0 rfl) ?_
  refine lv_iconst (v := 0) hx hb dX4_add_17 (by decide) ?_
  obtain ⟨hi_3, hw⟩ := hw
  refine u_iast (k := 14) hx hb K U rfl (by decide) rfl hi_3 dX4_add_18 (fun H locs U => ?_)
  refine lv_aload_n hx hb dX4_add_19 rfl (lv_at hl 1 rfl) ?_
  refine u_get (C := RX4) (T := TX4) (N := 12) (v := .ref (g.2.1 1)) hx hb hts hX4_add_X4 hown K U 2 3 (by decide) rfl rfl 7 (by decide) (hts (.fieldLink RX4 37 "TrialSearch$Trials" "space" "LTrialSearch$Space;") (by decide +kernel)) rfl rfl dX4_add_20 ?_
  refine lv_lload_n hx hb dX4_add_23 rfl (lv_at hl 2 rfl) ?_
  refine lv_aload_n hx hb dX4_add_24 rfl (lv_at hl 1 rfl) ?_
  refine u_get (C := RX4) (T := TX4) (N := 12) (v := .ref (g.2.1 18)) hx hb hts hX4_add_X4 hown K U 2 3 (by decide) rfl rfl 8 (by decide) (hts (.fieldLink RX4 41 "TrialSearch$Trials" "values" "[[I") (by decide +kernel)) rfl rfl dX4_add_25 ?_
  refine lv_iload_n hx hb dX4_add_28 rfl (lv_at hl 0 rfl) ?_
  obtain ⟨hi_4, hw⟩ := hw
  refine u_aald (b := 116) hx hb K U (k := 18) (by decide) (by decide) rfl rfl hi_4 dX4_add_29 ?_
  refine u_cv (u_rV (As := [.long a0, .ref (g.2.1 (116 + x_1.toNatClampNeg))]) (rest := []) (C := RX3) S K U 1 2 (by decide) rfl rfl (c_X3_read hw) (cwV 2 hts gX4_add_X3_read rfl rfl rfl (by decide +kernel) ⟨Nat.le_of_ble_eq_true rfl, Nat.le_of_ble_eq_true rfl⟩) rfl hl.1 rfl (Nat.le_of_ble_eq_true rfl) dX4_add_30 ⟨Nat.zero_le _, Nat.zero_le _⟩) U (fun A_6 B_7 H locs U9 hw => ?_)
  obtain ⟨eB, hw⟩ := hw
  rw [eB] at U9
  have U := U9
  refine lv_aload_n hx hb dX4_add_33 rfl (lv_at hl 1 rfl) ?_
  refine lv_dup hx hb dX4_add_34 rfl ?_
  refine u_get (C := RX4) (T := TX4) (N := 12) (v := .int (A_6 2 0)) hx hb hts hX4_add_X4 hown K U 2 3 (by decide) rfl rfl 0 (by decide) (hts (.fieldLink RX4 9 "TrialSearch$Trials" "made" "I") (by decide +kernel)) rfl rfl dX4_add_35 ?_
  refine lv_iconst (v := 1) hx hb dX4_add_38 (by decide) ?_
  refine lv_iadd hx hb dX4_add_39 ?_
  refine lv_topi (fun x_8 ex_8 => ?_)
  have hw := hw x_8 ex_8
  refine u_puti (ty := .int) (C := RX4) (T := TX4) (N := 12) hx hb hts hX4_add_X4 tyX4 tyX4_ok nmX4 hown K U 2 3 (by decide) rfl rfl 0 (by decide) (hts (.fieldLink RX4 9 "TrialSearch$Trials" "made" "I") (by decide +kernel)) rfl rfl (by decide +kernel) rfl rfl (Nat.le_of_ble_eq_true rfl) rfl dX4_add_40 (fun H locs U => ?_)
  refine lv_iload_n hx hb dX4_add_43 rfl (lv_at hl 0 rfl) ?_
  exact u_iret hx hb hr hlocks U hw dX4_add_44
set_option maxHeartbeats 4000000 in
set_option maxRecDepth 100000 in
theorem t_X4_holdNear_3 {p : Program} {l : Launch} {e : Env} {s : State} {m : MethodId} {args : Array Value} {below : List Frame} {meth : Method} {c : Code} {g : uG} {E27 : Int32 → Prop} {Q : Int32 → SA → Prop} {v1 : Int32} {v2 : Int32} {v3 : Int32} {v4 : Int32} {A : SA} {B : SB} (C : uC p s m args meth c cX4_holdNear 8 RX4 wsX4_holdNear (some .int)) (K : UK g s) :
    ∀ {n : Nat} {v5 : Int32} {H : Heap} {locs : List Loc} {ls : Array Slot}, wp_X4_holdNear_3 E27 Q v1 v2 v3 v4 A B n v5 → UU g A B s.heap H locs → lv_has ls 8 [(0, .ref (g.2.1 2)), (1, .int v1), (2, .int v2), (3, .int v3), (4, .int v4), (5, .int v5)] → (∀ (v5 : Int32) (H : Heap) (locs : List Loc) (ls : Array Slot), UU g A B s.heap H locs → lv_has ls 8 [(0, .ref (g.2.1 2)), (1, .int v1), (2, .int v2), (3, .int v3), (4, .int v4), (5, .int v5)] → E27 v5 → W p l e rmX4_holdNear s m args below meth c H locs 0 0 (MQ below (uQi g (fun r A1 B1 => B1 = B ∧ Q r A1 )) args s 0 0 (FA g)) (F0 m 27 ls [])) → W p l e rmX4_holdNear s m args below meth c H locs 0 0 (MQ below (uQi g (fun r A1 B1 => B1 = B ∧ Q r A1 )) args s 0 0 (FA g)) (F0 m 3 ls []) := by
  obtain ⟨hx, hb, hml, hown, hts, hr, hlocks⟩ := id C
  have S : CallFix p m c cX4_holdNear 8 s args wsX4_holdNear RX4 := ⟨hx, hb, hml, hown, hts⟩
  intro n
  induction n with
  | zero => intro _ _ _ _ hw; exact False.elim hw
  | succ n ih =>
    intro v5 H locs ls hw U hl h27
    refine lv_iload hx hb dX4_holdNear_3 (lv_at hl 5 rfl) ?_
    refine lv_if_le (tgt := 27) hx hb dX4_holdNear_5 (by decide) (fun c_1 => ?_) (fun c_1 => ?_)
    · have hw := hw.1 c_1
      exact h27 _ _ _ _ U (lv_sub hl [0, 1, 2, 3, 4, 5] rfl) hw
    · have hw := hw.2 c_1
      refine lv_aload_n hx hb dX4_holdNear_8 rfl (lv_at hl 0 rfl) ?_
      refine u_get (C := RX4) (T := TX4) (N := 12) (v := .ref (g.2.1 19)) hx hb hts hX4_holdNear_X4 hown K U 2 3 (by decide) rfl rfl 9 (by decide) (hts (.fieldLink RX4 44 "TrialSearch$Trials" "nearGaps" "[I") (by decide +kernel)) rfl rfl dX4_holdNear_9 ?_
      refine lv_iload hx hb dX4_holdNear_12 (lv_at hl 5 rfl) ?_
      refine lv_iconst (v := 1) hx hb dX4_holdNear_14 (by decide) ?_
      refine lv_isub hx hb dX4_holdNear_15 ?_
      refine lv_topi (fun x_2 ex_2 => ?_)
      have hw := hw x_2 ex_2
      obtain ⟨hi_3, hw⟩ := hw
      refine u_iald (k := 19) (v := (A 19 x_2.toNatClampNeg)) hx hb K U rfl (by decide) rfl hi_3 rfl dX4_holdNear_16 ?_
      refine lv_iload_n hx hb dX4_holdNear_17 rfl (lv_at hl 1 rfl) ?_
      refine lv_icmp_le (tgt := 27) hx hb dX4_holdNear_18 (by decide) (fun c_4 => ?_) (fun c_4 => ?_)
      · have hw := hw.1 c_4
        exact h27 _ _ _ _ U (lv_sub hl [0, 1, 2, 3, 4, 5] rfl) hw
      · have hw := hw.2 c_4
        obtain ⟨v5_5, ev5_5⟩ : ∃ y : Int32, y = v5 + (-1) := ⟨_, rfl⟩
        have hw := hw v5_5 ev5_5
        refine lv_iinc (v := v5_5) (lv' := [(5, .int v5_5), (0, .ref (g.2.1 2)), (1, .int v1), (2, .int v2), (3, .int v3), (4, .int v4)]) hx hb dX4_holdNear_21 hl (k := 5) rfl (by rw [ev5_5]; rfl) (by decide) rfl (fun ls hl => ?_)
        refine lv_goto (tgt := 3) hx hb dX4_holdNear_24 (by decide) ?_
        exact ih hw U (lv_sub hl [1, 2, 3, 4, 5, 0] rfl) h27
set_option maxHeartbeats 4000000 in
set_option maxRecDepth 100000 in
theorem t_X4_holdNear_50 {p : Program} {l : Launch} {e : Env} {s : State} {m : MethodId} {args : Array Value} {below : List Frame} {meth : Method} {c : Code} {g : uG} {E95 : SA → Prop} {Q : Int32 → SA → Prop} {v1 : Int32} {v2 : Int32} {v5 : Int32} {v6 : Int32} {B : SB} (C : uC p s m args meth c cX4_holdNear 8 RX4 wsX4_holdNear (some .int)) (K : UK g s) :
    ∀ {n : Nat} {v7 : Int32} {A : SA} {H : Heap} {locs : List Loc} {ls : Array Slot}, wp_X4_holdNear_50 E95 Q v1 v2 v5 v6 B n v7 A → UU g A B s.heap H locs → lv_has ls 8 [(0, .ref (g.2.1 2)), (1, .int v1), (2, .int v2), (5, .int v5), (6, .int v6), (7, .int v7)] → (∀ (A : SA) (H : Heap) (locs : List Loc) (ls : Array Slot), UU g A B s.heap H locs → lv_has ls 8 [(0, .ref (g.2.1 2)), (1, .int v1), (2, .int v2), (5, .int v5), (6, .int v6)] → E95 A → W p l e rmX4_holdNear s m args below meth c H locs 0 0 (MQ below (uQi g (fun r A1 B1 => B1 = B ∧ Q r A1 )) args s 0 0 (FA g)) (F0 m 95 ls [])) → W p l e rmX4_holdNear s m args below meth c H locs 0 0 (MQ below (uQi g (fun r A1 B1 => B1 = B ∧ Q r A1 )) args s 0 0 (FA g)) (F0 m 50 ls []) := by
  obtain ⟨hx, hb, hml, hown, hts, hr, hlocks⟩ := id C
  have S : CallFix p m c cX4_holdNear 8 s args wsX4_holdNear RX4 := ⟨hx, hb, hml, hown, hts⟩
  intro n
  induction n with
  | zero => intro _ _ _ _ _ hw; exact False.elim hw
  | succ n ih =>
    intro v7 A H locs ls hw U hl h95
    refine lv_iload hx hb dX4_holdNear_50 (lv_at hl 5 rfl) ?_
    refine lv_iload hx hb dX4_holdNear_52 (lv_at hl 3 rfl) ?_
    refine lv_icmp_le (tgt := 95) hx hb dX4_holdNear_54 (by decide) (fun c_10 => ?_) (fun c_10 => ?_)
    · have hw := hw.1 c_10
      exact h95 _ _ _ _ U (lv_sub hl [0, 1, 2, 3, 4] rfl) hw
    · have hw := hw.2 c_10
      refine lv_aload_n hx hb dX4_holdNear_57 rfl (lv_at hl 0 rfl) ?_
      refine u_get (C := RX4) (T := TX4) (N := 12) (v := .ref (g.2.1 19)) hx hb hts hX4_holdNear_X4 hown K U 2 3 (by decide) rfl rfl 9 (by decide) (hts (.fieldLink RX4 44 "TrialSearch$Trials" "nearGaps" "[I") (by decide +kernel)) rfl rfl dX4_holdNear_58 ?_
      refine lv_iload hx hb dX4_holdNear_61 (lv_at hl 5 rfl) ?_
      refine lv_aload_n hx hb dX4_holdNear_63 rfl (lv_at hl 0 rfl) ?_
      refine u_get (C := RX4) (T := TX4) (N := 12) (v := .ref (g.2.1 19)) hx hb hts hX4_holdNear_X4 hown K U 2 3 (by decide) rfl rfl 9 (by decide) (hts (.fieldLink RX4 44 "TrialSearch$Trials" "nearGaps" "[I") (by decide +kernel)) rfl rfl dX4_holdNear_64 ?_
      refine lv_iload hx hb dX4_holdNear_67 (lv_at hl 5 rfl) ?_
      refine lv_iconst (v := 1) hx hb dX4_holdNear_69 (by decide) ?_
      refine lv_isub hx hb dX4_holdNear_70 ?_
      refine lv_topi (fun x_11 ex_11 => ?_)
      have hw := hw x_11 ex_11
      obtain ⟨hi_12, hw⟩ := hw
      refine u_iald (k := 19) (v := (A 19 x_11.toNatClampNeg)) hx hb K U rfl (by decide) rfl hi_12 rfl dX4_holdNear_71 ?_
      refine lv_topi (fun x_13 ex_13 => ?_)
      have hw := hw x_13 ex_13
      obtain ⟨hi_14, hw⟩ := hw
      refine u_iast (k := 19) hx hb K U rfl (by decide) rfl hi_14 dX4_holdNear_72 (fun H locs U => ?_)
      refine lv_aload_n hx hb dX4_holdNear_73 rfl (lv_at hl 0 rfl) ?_
      refine u_get (C := RX4) (T := TX4) (N := 12) (v := .ref (g.2.1 20)) hx hb hts hX4_holdNear_X4 hown K U 2 3 (by decide) rfl rfl 10 (by decide) (hts (.fieldLink RX4 47 "TrialSearch$Trials" "nearScores" "[I") (by decide +kernel)) rfl rfl dX4_holdNear_74 ?_
      refine lv_iload hx hb dX4_holdNear_77 (lv_at hl 5 rfl) ?_
      refine lv_aload_n hx hb dX4_holdNear_79 rfl (lv_at hl 0 rfl) ?_
      refine u_get (C := RX4) (T := TX4) (N := 12) (v := .ref (g.2.1 20)) hx hb hts hX4_holdNear_X4 hown K U 2 3 (by decide) rfl rfl 10 (by decide) (hts (.fieldLink RX4 47 "TrialSearch$Trials" "nearScores" "[I") (by decide +kernel)) rfl rfl dX4_holdNear_80 ?_
      refine lv_iload hx hb dX4_holdNear_83 (lv_at hl 5 rfl) ?_
      refine lv_iconst (v := 1) hx hb dX4_holdNear_85 (by decide) ?_
      refine lv_isub hx hb dX4_holdNear_86 ?_
      refine lv_topi (fun x_15 ex_15 => ?_)
      have hw := hw x_15 ex_15
      obtain ⟨hi_16, hw⟩ := hw
      refine u_iald (k := 20) (v := (A 20 x_15.toNatClampNeg)) hx hb K U rfl (by decide) rfl hi_16 rfl dX4_holdNear_87 ?_
      refine lv_topi (fun x_17 ex_17 => ?_)
      have hw := hw x_17 ex_17
      obtain ⟨hi_18, hw⟩ := hw
      refine u_iast (k := 20) hx hb K U rfl (by decide) rfl hi_18 dX4_holdNear_88 (fun H locs U => ?_)
      obtain ⟨v7_19, ev7_19⟩ : ∃ y : Int32, y = v7 + (-1) := ⟨_, rfl⟩
      have hw := hw v7_19 ev7_19
      refine lv_iinc (v := v7_19) (lv' := [(7, .int v7_19), (0, .ref (g.2.1 2)), (1, .int v1), (2, .int v2), (5, .int v5), (6, .int v6)]) hx hb dX4_holdNear_89 hl (k := 5) rfl (by rw [ev7_19]; rfl) (by decide) rfl (fun ls hl => ?_)
      refine lv_goto (tgt := 50) hx hb dX4_holdNear_92 (by decide) ?_
      exact ih hw U (lv_sub hl [1, 2, 3, 4, 5, 0] rfl) h95
set_option maxHeartbeats 4000000 in
set_option maxRecDepth 100000 in
theorem c_X4_holdNear {l : Launch} {g : uG} {a0 : Int32} {a1 : Int32} {a2 : Int32} {a3 : Int32} {A : SA} {B : SB} {Q : Int32 → SA → Prop} (hw : wp_X4_holdNear a0 a1 a2 a3 A B Q) : MI l yX4_holdNear wsX4_holdNear rmX4_holdNear g A B [.ref (g.2.1 2), .int a0, .int a1, .int a2, .int a3] (fun r A1 B1 => B1 = B ∧ Q r A1 ) := by
  refine u_of (cc := cX4_holdNear) (maxL := 8) (ret := (some .int)) (by decide) rfl (Nat.le_of_ble_eq_true rfl) ?_
  intro p e s m below meth c ls C K U hl
  obtain ⟨hx, hb, hml, hown, hts, hr, hlocks⟩ := id C
  have S : CallFix p m c cX4_holdNear 8 s ([.ref (g.2.1 2), .int a0, .int a1, .int a2, .int a3] : List Value).toArray wsX4_holdNear RX4 := ⟨hx, hb, hml, hown, hts⟩
  have hl : lv_has ls 8 [(0, .ref (g.2.1 2)), (1, .int a0), (2, .int a1), (3, .int a2), (4, .int a3)] := hl
  refine lv_iload_n hx hb dX4_holdNear_0 rfl (lv_at hl 3 rfl) ?_
  refine lv_istore (lv' := [(5, .int a2), (0, .ref (g.2.1 2)), (1, .int a0), (2, .int a1), (3, .int a2), (4, .int a3)]) hx hb dX4_holdNear_1 hl (by decide) rfl (fun ls hl => ?_)
  obtain ⟨n_6, hw⟩ := hw
  refine t_X4_holdNear_3 C K hw U (lv_sub hl [1, 2, 3, 4, 5, 0] rfl) (fun v5_7 H locs ls U hl hw => ?_)
  refine lv_iload hx hb dX4_holdNear_27 (lv_at hl 5 rfl) ?_
  refine lv_iload hx hb dX4_holdNear_29 (lv_at hl 4 rfl) ?_
  refine lv_icmp_lt (tgt := 36) hx hb dX4_holdNear_31 (by decide) (fun c_8 => ?_) (fun c_8 => ?_)
  · have hw := hw.1 c_8
    refine lv_iload_n hx hb dX4_holdNear_36 rfl (lv_at hl 3 rfl) ?_
    refine lv_iload hx hb dX4_holdNear_37 (lv_at hl 4 rfl) ?_
    refine lv_iconst (v := 1) hx hb dX4_holdNear_39 (by decide) ?_
    refine lv_isub hx hb dX4_holdNear_40 ?_
    refine va_mmin (rest := []) hx hb (hml.trans hl.1.symm) hown (hts (.methodLink RX4 87 Lib.Math.min.name) (by decide +kernel)) (hts (.static Lib.Math.min.name) (by decide +kernel)) (hts (.initialized "java/lang/Math") (by decide +kernel)) (hts (.code Lib.Math.min.name Lib.Math.min.code 2 (some .int)) (by decide +kernel)) (Nat.le_of_ble_eq_true rfl) (Nat.le_of_ble_eq_true rfl) (Nat.zero_le _) (Nat.zero_le _) dX4_holdNear_41 ?_
    refine lv_topi (fun x_9 ex_9 => ?_)
    have hw := hw x_9 ex_9
    refine lv_istore (lv' := [(6, .int x_9), (0, .ref (g.2.1 2)), (1, .int a0), (2, .int a1), (3, .int a2), (4, .int a3), (5, .int v5_7)]) hx hb dX4_holdNear_44 hl (by decide) rfl (fun ls hl => ?_)
    refine lv_iload hx hb dX4_holdNear_46 (lv_at hl 0 rfl) ?_
    refine lv_istore (lv' := [(7, .int x_9), (6, .int x_9), (0, .ref (g.2.1 2)), (1, .int a0), (2, .int a1), (3, .int a2), (4, .int a3), (5, .int v5_7)]) hx hb dX4_holdNear_48 hl (by decide) rfl (fun ls hl => ?_)
    obtain ⟨n_20, hw⟩ := hw
    refine t_X4_holdNear_50 C K hw U (lv_sub hl [2, 3, 4, 7, 1, 0] rfl) (fun A_21 H locs ls U hl hw => ?_)
    refine lv_aload_n hx hb dX4_holdNear_95 rfl (lv_at hl 0 rfl) ?_
    refine u_get (C := RX4) (T := TX4) (N := 12) (v := .ref (g.2.1 19)) hx hb hts hX4_holdNear_X4 hown K U 2 3 (by decide) rfl rfl 9 (by decide) (hts (.fieldLink RX4 44 "TrialSearch$Trials" "nearGaps" "[I") (by decide +kernel)) rfl rfl dX4_holdNear_96 ?_
    refine lv_iload hx hb dX4_holdNear_99 (lv_at hl 3 rfl) ?_
    refine lv_iload_n hx hb dX4_holdNear_101 rfl (lv_at hl 1 rfl) ?_
    obtain ⟨hi_22, hw⟩ := hw
    refine u_iast (k := 19) hx hb K U rfl (by decide) rfl hi_22 dX4_holdNear_102 (fun H locs U => ?_)
    refine lv_aload_n hx hb dX4_holdNear_103 rfl (lv_at hl 0 rfl) ?_
    refine u_get (C := RX4) (T := TX4) (N := 12) (v := .ref (g.2.1 20)) hx hb hts hX4_holdNear_X4 hown K U 2 3 (by decide) rfl rfl 10 (by decide) (hts (.fieldLink RX4 47 "TrialSearch$Trials" "nearScores" "[I") (by decide +kernel)) rfl rfl dX4_holdNear_104 ?_
    refine lv_iload hx hb dX4_holdNear_107 (lv_at hl 3 rfl) ?_
    refine lv_iload_n hx hb dX4_holdNear_109 rfl (lv_at hl 2 rfl) ?_
    obtain ⟨hi_23, hw⟩ := hw
    refine u_iast (k := 20) hx hb K U rfl (by decide) rfl hi_23 dX4_holdNear_110 (fun H locs U => ?_)
    refine lv_iload hx hb dX4_holdNear_111 (lv_at hl 4 rfl) ?_
    refine lv_iconst (v := 1) hx hb dX4_holdNear_113 (by decide) ?_
    refine lv_iadd hx hb dX4_holdNear_114 ?_
    exact u_iret hx hb hr hlocks U ⟨rfl, hw⟩ dX4_holdNear_115
  · have hw := hw.2 c_8
    refine lv_iload_n hx hb dX4_holdNear_34 rfl (lv_at hl 3 rfl) ?_
    exact u_iret hx hb hr hlocks U ⟨rfl, hw⟩ dX4_holdNear_35
set_option maxHeartbeats 4000000 in
set_option maxRecDepth 100000 in
theorem t_X4_nearSum_21 {p : Program} {l : Launch} {e : Env} {s : State} {m : MethodId} {args : Array Value} {below : List Frame} {meth : Method} {c : Code} {g : uG} {E84 : Int32 → SA → Prop} {Q : Int64 → SA → Prop} {v3 : Int32} {B : SB} (C : uC p s m args meth c cX4_nearSum 8 RX4 wsX4_nearSum (some .long)) (K : UK g s) :
    ∀ {n : Nat} {v4 : Int32} {v5 : Int32} {A : SA} {H : Heap} {locs : List Loc} {ls : Array Slot}, wp_X4_nearSum_21 E84 Q v3 B n v4 v5 A → UU g A B s.heap H locs → lv_has ls 8 [(0, .ref (g.2.1 2)), (3, .int v3), (4, .int v4), (5, .int v5)] → (∀ (v4 : Int32) (A : SA) (H : Heap) (locs : List Loc) (ls : Array Slot), UU g A B s.heap H locs → lv_has ls 8 [(0, .ref (g.2.1 2)), (4, .int v4)] → E84 v4 A → W p l e rmX4_nearSum s m args below meth c H locs 0 0 (MQ below (uQl g (fun r A1 B1 => B1 = B ∧ Q r A1 )) args s 0 0 (FA g)) (F0 m 84 ls [])) → W p l e rmX4_nearSum s m args below meth c H locs 0 0 (MQ below (uQl g (fun r A1 B1 => B1 = B ∧ Q r A1 )) args s 0 0 (FA g)) (F0 m 21 ls []) := by
  obtain ⟨hx, hb, hml, hown, hts, hr, hlocks⟩ := id C
  have S : CallFix p m c cX4_nearSum 8 s args wsX4_nearSum RX4 := ⟨hx, hb, hml, hown, hts⟩
  intro n
  induction n with
  | zero => intro _ _ _ _ _ _ hw; exact False.elim hw
  | succ n ih =>
    intro v4 v5 A H locs ls hw U hl h84
    refine lv_iload hx hb dX4_nearSum_21 (lv_at hl 3 rfl) ?_
    refine lv_aload_n hx hb dX4_nearSum_23 rfl (lv_at hl 0 rfl) ?_
    refine u_get (C := RX4) (T := TX4) (N := 12) (v := .int (A 2 0)) hx hb hts hX4_nearSum_X4 hown K U 2 3 (by decide) rfl rfl 0 (by decide) (hts (.fieldLink RX4 9 "TrialSearch$Trials" "made" "I") (by decide +kernel)) rfl rfl dX4_nearSum_24 ?_
    refine lv_icmp_ge (tgt := 84) hx hb dX4_nearSum_27 (by decide) (fun c_4 => ?_) (fun c_4 => ?_)
    · have hw := hw.1 c_4
      exact h84 _ _ _ _ _ U (lv_sub hl [0, 2] rfl) hw
    · have hw := hw.2 c_4
      refine lv_aload_n hx hb dX4_nearSum_30 rfl (lv_at hl 0 rfl) ?_
      refine u_get (C := RX4) (T := TX4) (N := 12) (v := .ref (g.2.1 14)) hx hb hts hX4_nearSum_X4 hown K U 2 3 (by decide) rfl rfl 3 (by decide) (hts (.fieldLink RX4 22 "TrialSearch$Trials" "states" "[I") (by decide +kernel)) rfl rfl dX4_nearSum_31 ?_
      refine lv_iload hx hb dX4_nearSum_34 (lv_at hl 3 rfl) ?_
      obtain ⟨hi_5, hw⟩ := hw
      refine u_iald (k := 14) (v := (A 14 v5.toNatClampNeg)) hx hb K U rfl (by decide) rfl hi_5 rfl dX4_nearSum_36 ?_
      refine lv_iconst (v := 1) hx hb dX4_nearSum_37 (by decide) ?_
      refine lv_icmp_ne (tgt := 78) hx hb dX4_nearSum_38 (by decide) (fun c_6 => ?_) (fun c_6 => ?_)
      · have hw := hw.1 c_6
        obtain ⟨v5_7, ev5_7⟩ : ∃ y : Int32, y = v5 + 1 := ⟨_, rfl⟩
        have hw := hw v5_7 ev5_7
        refine lv_iinc (v := v5_7) (lv' := [(5, .int v5_7), (0, .ref (g.2.1 2)), (3, .int v3), (4, .int v4)]) hx hb dX4_nearSum_78 hl (k := 3) rfl (by rw [ev5_7]; rfl) (by decide) rfl (fun ls hl => ?_)
        refine lv_goto (tgt := 21) hx hb dX4_nearSum_81 (by decide) ?_
        exact ih hw U (lv_sub hl [1, 2, 3, 0] rfl) h84
      · have hw := hw.2 c_6
        refine lv_aload_n hx hb dX4_nearSum_41 rfl (lv_at hl 0 rfl) ?_
        refine lv_aload_n hx hb dX4_nearSum_42 rfl (lv_at hl 0 rfl) ?_
        refine u_get (C := RX4) (T := TX4) (N := 12) (v := .ref (g.2.1 1)) hx hb hts hX4_nearSum_X4 hown K U 2 3 (by decide) rfl rfl 7 (by decide) (hts (.fieldLink RX4 37 "TrialSearch$Trials" "space" "LTrialSearch$Space;") (by decide +kernel)) rfl rfl dX4_nearSum_43 ?_
        refine lv_aload_n hx hb dX4_nearSum_46 rfl (lv_at hl 0 rfl) ?_
        refine u_get (C := RX4) (T := TX4) (N := 12) (v := .ref (g.2.1 1)) hx hb hts hX4_nearSum_X4 hown K U 2 3 (by decide) rfl rfl 7 (by decide) (hts (.fieldLink RX4 37 "TrialSearch$Trials" "space" "LTrialSearch$Space;") (by decide +kernel)) rfl rfl dX4_nearSum_47 ?_
        refine u_get (C := RX3) (T := TX3) (N := 9) (v := .ref (g.2.1 6)) hx hb hts hX4_nearSum_X3 hown K U 1 2 (by decide) rfl rfl 2 (by decide) (hts (.fieldLink RX4 76 "TrialSearch$Space" "left" "[I") (by decide +kernel)) rfl rfl dX4_nearSum_50 ?_
        refine lv_aload_n hx hb dX4_nearSum_53 rfl (lv_at hl 0 rfl) ?_
        refine u_get (C := RX4) (T := TX4) (N := 12) (v := .ref (g.2.1 18)) hx hb hts hX4_nearSum_X4 hown K U 2 3 (by decide) rfl rfl 8 (by decide) (hts (.fieldLink RX4 41 "TrialSearch$Trials" "values" "[[I") (by decide +kernel)) rfl rfl dX4_nearSum_54 ?_
        refine lv_iload hx hb dX4_nearSum_57 (lv_at hl 3 rfl) ?_
        obtain ⟨hi_8, hw⟩ := hw
        refine u_aald (b := 116) hx hb K U (k := 18) (by decide) (by decide) rfl rfl hi_8 dX4_nearSum_59 ?_
        refine u_ci (u_rV (As := [.ref (g.2.1 6), .ref (g.2.1 (116 + v5.toNatClampNeg))]) (rest := [.ref (g.2.1 2)]) (C := RX3) S K U 1 2 (by decide) rfl rfl (c_X3_apart hw) (cwV 2 hts gX4_nearSum_X3_apart rfl rfl rfl (by decide +kernel) ⟨Nat.le_of_ble_eq_true rfl, Nat.le_of_ble_eq_true rfl⟩) rfl hl.1 rfl (Nat.le_of_ble_eq_true rfl) dX4_nearSum_60 ⟨Nat.zero_le _, Nat.zero_le _⟩) U (fun r_9 A_10 B_11 H locs U9 hw => ?_)
        obtain ⟨eA, eB, hw⟩ := hw
        rw [eA, eB] at U9
        have U := U9
        refine lv_aload_n hx hb dX4_nearSum_63 rfl (lv_at hl 0 rfl) ?_
        refine u_get (C := RX4) (T := TX4) (N := 12) (v := .ref (g.2.1 15)) hx hb hts hX4_nearSum_X4 hown K U 2 3 (by decide) rfl rfl 4 (by decide) (hts (.fieldLink RX4 26 "TrialSearch$Trials" "scores" "[I") (by decide +kernel)) rfl rfl dX4_nearSum_64 ?_
        refine lv_iload hx hb dX4_nearSum_67 (lv_at hl 3 rfl) ?_
        obtain ⟨hi_12, hw⟩ := hw
        refine u_iald (k := 15) (v := (A 15 v5.toNatClampNeg)) hx hb K U rfl (by decide) rfl hi_12 rfl dX4_nearSum_69 ?_
        refine lv_iload hx hb dX4_nearSum_70 (lv_at hl 2 rfl) ?_
        refine lv_iload_n hx hb dX4_nearSum_72 rfl (lv_at hl 1 rfl) ?_
        refine u_ci (u_rV (As := [.int r_9, .int (A 15 v5.toNatClampNeg), .int v4, .int v3]) (rest := []) (C := RX4) S K U 2 3 (by decide) rfl rfl (c_X4_holdNear hw) (cwV 4 hts gX4_nearSum_X4_holdNear rfl rfl rfl (by decide +kernel) ⟨Nat.le_of_ble_eq_true rfl, Nat.le_of_ble_eq_true rfl⟩) rfl hl.1 rfl (Nat.le_of_ble_eq_true rfl) dX4_nearSum_73 ⟨Nat.zero_le _, Nat.zero_le _⟩) U (fun r_13 A_14 B_15 H locs U9 hw => ?_)
        obtain ⟨eB, hw⟩ := hw
        rw [eB] at U9
        have U := U9
        refine lv_istore (lv' := [(4, .int r_13), (0, .ref (g.2.1 2)), (3, .int v3), (5, .int v5)]) hx hb dX4_nearSum_76 hl (by decide) rfl (fun ls hl => ?_)
        obtain ⟨v5_16, ev5_16⟩ : ∃ y : Int32, y = v5 + 1 := ⟨_, rfl⟩
        have hw := hw v5_16 ev5_16
        refine lv_iinc (v := v5_16) (lv' := [(5, .int v5_16), (4, .int r_13), (0, .ref (g.2.1 2)), (3, .int v3)]) hx hb dX4_nearSum_78 hl (k := 3) rfl (by rw [ev5_16]; rfl) (by decide) rfl (fun ls hl => ?_)
        refine lv_goto (tgt := 21) hx hb dX4_nearSum_81 (by decide) ?_
        exact ih hw U (lv_sub hl [2, 3, 1, 0] rfl) h84
set_option maxHeartbeats 4000000 in
set_option maxRecDepth 100000 in
theorem t_X4_nearSum_90 {p : Program} {l : Launch} {e : Env} {s : State} {m : MethodId} {args : Array Value} {below : List Frame} {meth : Method} {c : Code} {g : uG} {E116 : Int64 → Prop} {Q : Int64 → SA → Prop} {v4 : Int32} {A : SA} {B : SB} (C : uC p s m args meth c cX4_nearSum 8 RX4 wsX4_nearSum (some .long)) (K : UK g s) :
    ∀ {n : Nat} {v5 : Int64} {v7 : Int32} {H : Heap} {locs : List Loc} {ls : Array Slot}, wp_X4_nearSum_90 E116 Q v4 A B n v5 v7 → UU g A B s.heap H locs → lv_has ls 8 [(0, .ref (g.2.1 2)), (4, .int v4), (5, .long v5), (7, .int v7)] → (∀ (v5 : Int64) (H : Heap) (locs : List Loc) (ls : Array Slot), UU g A B s.heap H locs → lv_has ls 8 [(5, .long v5)] → E116 v5 → W p l e rmX4_nearSum s m args below meth c H locs 0 0 (MQ below (uQl g (fun r A1 B1 => B1 = B ∧ Q r A1 )) args s 0 0 (FA g)) (F0 m 116 ls [])) → W p l e rmX4_nearSum s m args below meth c H locs 0 0 (MQ below (uQl g (fun r A1 B1 => B1 = B ∧ Q r A1 )) args s 0 0 (FA g)) (F0 m 90 ls []) := by
  obtain ⟨hx, hb, hml, hown, hts, hr, hlocks⟩ := id C
  have S : CallFix p m c cX4_nearSum 8 s args wsX4_nearSum RX4 := ⟨hx, hb, hml, hown, hts⟩
  intro n
  induction n with
  | zero => intro _ _ _ _ _ hw; exact False.elim hw
  | succ n ih =>
    intro v5 v7 H locs ls hw U hl h116
    refine lv_iload hx hb dX4_nearSum_90 (lv_at hl 3 rfl) ?_
    refine lv_iload hx hb dX4_nearSum_92 (lv_at hl 1 rfl) ?_
    refine lv_icmp_ge (tgt := 116) hx hb dX4_nearSum_94 (by decide) (fun c_20 => ?_) (fun c_20 => ?_)
    · have hw := hw.1 c_20
      exact h116 _ _ _ _ U (lv_sub hl [2] rfl) hw
    · have hw := hw.2 c_20
      refine lv_lload hx hb dX4_nearSum_97 (lv_at hl 2 rfl) ?_
      refine lv_aload_n hx hb dX4_nearSum_99 rfl (lv_at hl 0 rfl) ?_
      refine u_get (C := RX4) (T := TX4) (N := 12) (v := .ref (g.2.1 20)) hx hb hts hX4_nearSum_X4 hown K U 2 3 (by decide) rfl rfl 10 (by decide) (hts (.fieldLink RX4 47 "TrialSearch$Trials" "nearScores" "[I") (by decide +kernel)) rfl rfl dX4_nearSum_100 ?_
      refine lv_iload hx hb dX4_nearSum_103 (lv_at hl 3 rfl) ?_
      obtain ⟨hi_21, hw⟩ := hw
      refine u_iald (k := 20) (v := (A 20 v7.toNatClampNeg)) hx hb K U rfl (by decide) rfl hi_21 rfl dX4_nearSum_105 ?_
      refine lv_i2l hx hb dX4_nearSum_106 rfl ?_
      refine lv_ladd hx hb dX4_nearSum_107 ?_
      refine lv_topl (fun x_22 ex_22 => ?_)
      have hw := hw x_22 ex_22
      refine lv_lstore (lv' := [(5, .long x_22), (0, .ref (g.2.1 2)), (4, .int v4), (7, .int v7)]) hx hb dX4_nearSum_108 hl (by decide) rfl (fun ls hl => ?_)
      obtain ⟨v7_23, ev7_23⟩ : ∃ y : Int32, y = v7 + 1 := ⟨_, rfl⟩
      have hw := hw v7_23 ev7_23
      refine lv_iinc (v := v7_23) (lv' := [(7, .int v7_23), (5, .long x_22), (0, .ref (g.2.1 2)), (4, .int v4)]) hx hb dX4_nearSum_110 hl (k := 3) rfl (by rw [ev7_23]; rfl) (by decide) rfl (fun ls hl => ?_)
      refine lv_goto (tgt := 90) hx hb dX4_nearSum_113 (by decide) ?_
      exact ih hw U (lv_sub hl [2, 3, 1, 0] rfl) h116
set_option maxHeartbeats 4000000 in
set_option maxRecDepth 100000 in
theorem c_X4_nearSum {l : Launch} {g : uG} {a0 : Int64} {a1 : Int32} {A : SA} {B : SB} {Q : Int64 → SA → Prop} (hw : wp_X4_nearSum a0 a1 A B Q) : ML l yX4_nearSum wsX4_nearSum rmX4_nearSum g A B [.ref (g.2.1 2), .long a0, .int a1] (fun r A1 B1 => B1 = B ∧ Q r A1 ) := by
  refine u_of (cc := cX4_nearSum) (maxL := 8) (ret := (some .long)) (by decide) rfl (Nat.le_of_ble_eq_true rfl) ?_
  intro p e s m below meth c ls C K U hl
  obtain ⟨hx, hb, hml, hown, hts, hr, hlocks⟩ := id C
  have S : CallFix p m c cX4_nearSum 8 s ([.ref (g.2.1 2), .long a0, .int a1] : List Value).toArray wsX4_nearSum RX4 := ⟨hx, hb, hml, hown, hts⟩
  have hl : lv_has ls 8 [(0, .ref (g.2.1 2)), (1, .long a0), (3, .int a1)] := hl
  refine lv_aload_n hx hb dX4_nearSum_0 rfl (lv_at hl 0 rfl) ?_
  refine u_get (C := RX4) (T := TX4) (N := 12) (v := .ref (g.2.1 1)) hx hb hts hX4_nearSum_X4 hown K U 2 3 (by decide) rfl rfl 7 (by decide) (hts (.fieldLink RX4 37 "TrialSearch$Trials" "space" "LTrialSearch$Space;") (by decide +kernel)) rfl rfl dX4_nearSum_1 ?_
  refine lv_lload_n hx hb dX4_nearSum_4 rfl (lv_at hl 1 rfl) ?_
  refine lv_aload_n hx hb dX4_nearSum_5 rfl (lv_at hl 0 rfl) ?_
  refine u_get (C := RX4) (T := TX4) (N := 12) (v := .ref (g.2.1 1)) hx hb hts hX4_nearSum_X4 hown K U 2 3 (by decide) rfl rfl 7 (by decide) (hts (.fieldLink RX4 37 "TrialSearch$Trials" "space" "LTrialSearch$Space;") (by decide +kernel)) rfl rfl dX4_nearSum_6 ?_
  refine u_get (C := RX3) (T := TX3) (N := 9) (v := .ref (g.2.1 6)) hx hb hts hX4_nearSum_X3 hown K U 1 2 (by decide) rfl rfl 2 (by decide) (hts (.fieldLink RX4 76 "TrialSearch$Space" "left" "[I") (by decide +kernel)) rfl rfl dX4_nearSum_9 ?_
  refine u_cv (u_rV (As := [.long a0, .ref (g.2.1 6)]) (rest := []) (C := RX3) S K U 1 2 (by decide) rfl rfl (c_X3_read hw) (cwV 2 hts gX4_nearSum_X3_read rfl rfl rfl (by decide +kernel) ⟨Nat.le_of_ble_eq_true rfl, Nat.le_of_ble_eq_true rfl⟩) rfl hl.1 rfl (Nat.le_of_ble_eq_true rfl) dX4_nearSum_12 ⟨Nat.zero_le _, Nat.zero_le _⟩) U (fun A_2 B_3 H locs U9 hw => ?_)
  obtain ⟨eB, hw⟩ := hw
  rw [eB] at U9
  have U := U9
  refine lv_iconst (v := 0) hx hb dX4_nearSum_15 (by decide) ?_
  refine lv_istore (lv' := [(4, .int (0 : Int32)), (0, .ref (g.2.1 2)), (1, .long a0), (3, .int a1)]) hx hb dX4_nearSum_16 hl (by decide) rfl (fun ls hl => ?_)
  refine lv_iconst (v := 0) hx hb dX4_nearSum_18 (by decide) ?_
  refine lv_istore (lv' := [(5, .int (0 : Int32)), (4, .int (0 : Int32)), (0, .ref (g.2.1 2)), (1, .long a0), (3, .int a1)]) hx hb dX4_nearSum_19 hl (by decide) rfl (fun ls hl => ?_)
  obtain ⟨n_17, hw⟩ := hw
  refine t_X4_nearSum_21 C K hw U (lv_sub hl [2, 4, 1, 0] rfl) (fun v4_18 A_19 H locs ls U hl hw => ?_)
  refine lv_lconst (v := 0) hx hb dX4_nearSum_84 (by decide) ?_
  refine lv_lstore (lv' := [(5, .long (0 : Int64)), (0, .ref (g.2.1 2)), (4, .int v4_18)]) hx hb dX4_nearSum_85 hl (by decide) rfl (fun ls hl => ?_)
  refine lv_iconst (v := 0) hx hb dX4_nearSum_87 (by decide) ?_
  refine lv_istore (lv' := [(7, .int (0 : Int32)), (5, .long (0 : Int64)), (0, .ref (g.2.1 2)), (4, .int v4_18)]) hx hb dX4_nearSum_88 hl (by decide) rfl (fun ls hl => ?_)
  obtain ⟨n_24, hw⟩ := hw
  refine t_X4_nearSum_90 C K hw U (lv_sub hl [2, 3, 1, 0] rfl) (fun v5_25 H locs ls U hl hw => ?_)
  refine lv_lload hx hb dX4_nearSum_116 (lv_at hl 0 rfl) ?_
  exact u_lret hx hb hr hlocks U ⟨rfl, hw⟩ dX4_nearSum_118
set_option maxHeartbeats 4000000 in
set_option maxRecDepth 100000 in
theorem t_X4_bestCandidate_39 {p : Program} {l : Launch} {e : Env} {s : State} {m : MethodId} {args : Array Value} {below : List Frame} {meth : Method} {c : Code} {g : uG} {E94 : Int64 → SA → Prop} {Q : Int64 → SA → Prop} {v1 : Int32} {v2 : Int32} {v3 : Int32} {B : SB} (C : uC p s m args meth c cX4_bestCandidate 13 RX4 wsX4_bestCandidate (some .long)) (K : UK g s) :
    ∀ {n : Nat} {v4 : Int64} {v6 : Int64} {v8 : Int32} {A : SA} {H : Heap} {locs : List Loc} {ls : Array Slot}, wp_X4_bestCandidate_39 E94 Q v1 v2 v3 B n v4 v6 v8 A → UU g A B s.heap H locs → lv_has ls 13 [(0, .ref (g.2.1 2)), (1, .int v1), (2, .int v2), (3, .int v3), (4, .long v4), (6, .long v6), (8, .int v8)] → (∀ (v4 : Int64) (A : SA) (H : Heap) (locs : List Loc) (ls : Array Slot), UU g A B s.heap H locs → lv_has ls 13 [(4, .long v4)] → E94 v4 A → W p l e rmX4_bestCandidate s m args below meth c H locs 0 0 (MQ below (uQl g (fun r A1 B1 => B1 = B ∧ Q r A1 )) args s 0 0 (FA g)) (F0 m 94 ls [])) → W p l e rmX4_bestCandidate s m args below meth c H locs 0 0 (MQ below (uQl g (fun r A1 B1 => B1 = B ∧ Q r A1 )) args s 0 0 (FA g)) (F0 m 39 ls []) := by
  obtain ⟨hx, hb, hml, hown, hts, hr, hlocks⟩ := id C
  have S : CallFix p m c cX4_bestCandidate 13 s args wsX4_bestCandidate RX4 := ⟨hx, hb, hml, hown, hts⟩
  intro n
  induction n with
  | zero => intro _ _ _ _ _ _ _ hw; exact False.elim hw
  | succ n ih =>
    intro v4 v6 v8 A H locs ls hw U hl h94
    refine lv_iload hx hb dX4_bestCandidate_39 (lv_at hl 6 rfl) ?_
    refine lv_iload_n hx hb dX4_bestCandidate_41 rfl (lv_at hl 2 rfl) ?_
    refine lv_icmp_ge (tgt := 94) hx hb dX4_bestCandidate_42 (by decide) (fun c_11 => ?_) (fun c_11 => ?_)
    · have hw := hw.1 c_11
      exact h94 _ _ _ _ _ U (lv_sub hl [4] rfl) hw
    · have hw := hw.2 c_11
      refine lv_aload_n hx hb dX4_bestCandidate_45 rfl (lv_at hl 0 rfl) ?_
      refine u_get (C := RX4) (T := TX4) (N := 12) (v := .ref (g.2.1 1)) hx hb hts hX4_bestCandidate_X4 hown K U 2 3 (by decide) rfl rfl 7 (by decide) (hts (.fieldLink RX4 37 "TrialSearch$Trials" "space" "LTrialSearch$Space;") (by decide +kernel)) rfl rfl dX4_bestCandidate_46 ?_
      refine u_get (C := RX3) (T := TX3) (N := 9) (v := .long (B 1 1)) hx hb hts hX4_bestCandidate_X3 hown K U 1 2 (by decide) rfl rfl 1 (by decide) (hts (.fieldLink RX4 59 "TrialSearch$Space" "all" "J") (by decide +kernel)) rfl rfl dX4_bestCandidate_49 ?_
      refine lv_iload_n hx hb dX4_bestCandidate_52 rfl (lv_at hl 1 rfl) ?_
      refine lv_iload hx hb dX4_bestCandidate_53 (lv_at hl 6 rfl) ?_
      refine u_ci (u_rS (As := [.int v1, .int v8]) (rest := [.long (B 1 1)]) S K U (c_X2_hash hw) (va_cwS 2 hts gX4_bestCandidate_X2_hash rfl rfl rfl (by decide +kernel) ⟨Nat.le_of_ble_eq_true rfl, Nat.le_of_ble_eq_true rfl⟩) rfl hl.1 rfl (Nat.le_of_ble_eq_true rfl) dX4_bestCandidate_55 ⟨Nat.zero_le _, Nat.zero_le _⟩) U (fun r_12 A_13 B_14 H locs U9 hw => ?_)
      obtain ⟨eA, eB, hw⟩ := hw
      rw [eA, eB] at U9
      have U := U9
      refine u_cl (u_rS (As := [.long (B 1 1), .int r_12]) (rest := []) S K U (c_X2_pick hw) (va_cwS 2 hts gX4_bestCandidate_X2_pick rfl rfl rfl (by decide +kernel) ⟨Nat.le_of_ble_eq_true rfl, Nat.le_of_ble_eq_true rfl⟩) rfl hl.1 rfl (Nat.le_of_ble_eq_true rfl) dX4_bestCandidate_58 ⟨Nat.zero_le _, Nat.zero_le _⟩) U (fun r_15 A_16 B_17 H locs U9 hw => ?_)
      obtain ⟨eA, eB, hw⟩ := hw
      rw [eA, eB] at U9
      have U := U9
      refine lv_lstore (lv' := [(9, .long r_15), (0, .ref (g.2.1 2)), (1, .int v1), (2, .int v2), (3, .int v3), (4, .long v4), (6, .long v6), (8, .int v8)]) hx hb dX4_bestCandidate_61 hl (by decide) rfl (fun ls hl => ?_)
      refine lv_aload_n hx hb dX4_bestCandidate_63 rfl (lv_at hl 1 rfl) ?_
      refine lv_lload hx hb dX4_bestCandidate_64 (lv_at hl 0 rfl) ?_
      refine lv_iload_n hx hb dX4_bestCandidate_66 rfl (lv_at hl 4 rfl) ?_
      refine u_cl (u_rV (As := [.long r_15, .int v3]) (rest := []) (C := RX4) S K U 2 3 (by decide) rfl rfl (c_X4_nearSum hw) (cwV 2 hts gX4_bestCandidate_X4_nearSum rfl rfl rfl (by decide +kernel) ⟨Nat.le_of_ble_eq_true rfl, Nat.le_of_ble_eq_true rfl⟩) rfl hl.1 rfl (Nat.le_of_ble_eq_true rfl) dX4_bestCandidate_67 ⟨Nat.zero_le _, Nat.zero_le _⟩) U (fun r_18 A_19 B_20 H locs U9 hw => ?_)
      obtain ⟨eB, hw⟩ := hw
      rw [eB] at U9
      have U := U9
      refine lv_lstore (lv' := [(11, .long r_18), (9, .long r_15), (0, .ref (g.2.1 2)), (1, .int v1), (2, .int v2), (3, .int v3), (4, .long v4), (6, .long v6), (8, .int v8)]) hx hb dX4_bestCandidate_70 hl (by decide) rfl (fun ls hl => ?_)
      refine lv_lload hx hb dX4_bestCandidate_72 (lv_at hl 0 rfl) ?_
      refine lv_lload hx hb dX4_bestCandidate_74 (lv_at hl 7 rfl) ?_
      refine u_lc_le (tgt := 88) hx hb dX4_bestCandidate_76 dX4_bestCandidate_77 (by decide) (fun c_21 => ?_) (fun c_21 => ?_)
      · have hw := hw.1 c_21
        obtain ⟨v8_22, ev8_22⟩ : ∃ y : Int32, y = v8 + 1 := ⟨_, rfl⟩
        have hw := hw v8_22 ev8_22
        refine lv_iinc (v := v8_22) (lv' := [(8, .int v8_22), (11, .long r_18), (9, .long r_15), (0, .ref (g.2.1 2)), (1, .int v1), (2, .int v2), (3, .int v3), (4, .long v4), (6, .long v6)]) hx hb dX4_bestCandidate_88 hl (k := 8) rfl (by rw [ev8_22]; rfl) (by decide) rfl (fun ls hl => ?_)
        refine lv_goto (tgt := 39) hx hb dX4_bestCandidate_91 (by decide) ?_
        exact ih hw U (lv_sub hl [3, 4, 5, 6, 7, 8, 0] rfl) h94
      · have hw := hw.2 c_21
        refine lv_lload hx hb dX4_bestCandidate_80 (lv_at hl 1 rfl) ?_
        refine lv_lstore (lv' := [(4, .long r_15), (11, .long r_18), (9, .long r_15), (0, .ref (g.2.1 2)), (1, .int v1), (2, .int v2), (3, .int v3), (6, .long v6), (8, .int v8)]) hx hb dX4_bestCandidate_82 hl (by decide) rfl (fun ls hl => ?_)
        refine lv_lload hx hb dX4_bestCandidate_84 (lv_at hl 1 rfl) ?_
        refine lv_lstore (lv' := [(6, .long r_18), (4, .long r_15), (11, .long r_18), (9, .long r_15), (0, .ref (g.2.1 2)), (1, .int v1), (2, .int v2), (3, .int v3), (8, .int v8)]) hx hb dX4_bestCandidate_86 hl (by decide) rfl (fun ls hl => ?_)
        obtain ⟨v8_23, ev8_23⟩ : ∃ y : Int32, y = v8 + 1 := ⟨_, rfl⟩
        have hw := hw v8_23 ev8_23
        refine lv_iinc (v := v8_23) (lv' := [(8, .int v8_23), (6, .long r_18), (4, .long r_15), (11, .long r_18), (9, .long r_15), (0, .ref (g.2.1 2)), (1, .int v1), (2, .int v2), (3, .int v3)]) hx hb dX4_bestCandidate_88 hl (k := 8) rfl (by rw [ev8_23]; rfl) (by decide) rfl (fun ls hl => ?_)
        refine lv_goto (tgt := 39) hx hb dX4_bestCandidate_91 (by decide) ?_
        exact ih hw U (lv_sub hl [5, 6, 7, 8, 2, 1, 0] rfl) h94
set_option maxHeartbeats 4000000 in
set_option maxRecDepth 100000 in
theorem c_X4_bestCandidate {l : Launch} {g : uG} {a0 : Int32} {a1 : Int32} {a2 : Int32} {A : SA} {B : SB} {Q : Int64 → SA → Prop} (hw : wp_X4_bestCandidate a0 a1 a2 A B Q) : ML l yX4_bestCandidate wsX4_bestCandidate rmX4_bestCandidate g A B [.ref (g.2.1 2), .int a0, .int a1, .int a2] (fun r A1 B1 => B1 = B ∧ Q r A1 ) := by
  refine u_of (cc := cX4_bestCandidate) (maxL := 13) (ret := (some .long)) (by decide) rfl (Nat.le_of_ble_eq_true rfl) ?_
  intro p e s m below meth c ls C K U hl
  obtain ⟨hx, hb, hml, hown, hts, hr, hlocks⟩ := id C
  have S : CallFix p m c cX4_bestCandidate 13 s ([.ref (g.2.1 2), .int a0, .int a1, .int a2] : List Value).toArray wsX4_bestCandidate RX4 := ⟨hx, hb, hml, hown, hts⟩
  have hl : lv_has ls 13 [(0, .ref (g.2.1 2)), (1, .int a0), (2, .int a1), (3, .int a2)] := hl
  refine lv_aload_n hx hb dX4_bestCandidate_0 rfl (lv_at hl 0 rfl) ?_
  refine u_get (C := RX4) (T := TX4) (N := 12) (v := .ref (g.2.1 1)) hx hb hts hX4_bestCandidate_X4 hown K U 2 3 (by decide) rfl rfl 7 (by decide) (hts (.fieldLink RX4 37 "TrialSearch$Trials" "space" "LTrialSearch$Space;") (by decide +kernel)) rfl rfl dX4_bestCandidate_1 ?_
  refine u_get (C := RX3) (T := TX3) (N := 9) (v := .long (B 1 1)) hx hb hts hX4_bestCandidate_X3 hown K U 1 2 (by decide) rfl rfl 1 (by decide) (hts (.fieldLink RX4 59 "TrialSearch$Space" "all" "J") (by decide +kernel)) rfl rfl dX4_bestCandidate_4 ?_
  refine lv_iload_n hx hb dX4_bestCandidate_7 rfl (lv_at hl 1 rfl) ?_
  refine lv_iconst (v := 0) hx hb dX4_bestCandidate_8 (by decide) ?_
  refine u_ci (u_rS (As := [.int a0, .int (0 : Int32)]) (rest := [.long (B 1 1)]) S K U (c_X2_hash hw) (va_cwS 2 hts gX4_bestCandidate_X2_hash rfl rfl rfl (by decide +kernel) ⟨Nat.le_of_ble_eq_true rfl, Nat.le_of_ble_eq_true rfl⟩) rfl hl.1 rfl (Nat.le_of_ble_eq_true rfl) dX4_bestCandidate_9 ⟨Nat.zero_le _, Nat.zero_le _⟩) U (fun r_1 A_2 B_3 H locs U9 hw => ?_)
  obtain ⟨eA, eB, hw⟩ := hw
  rw [eA, eB] at U9
  have U := U9
  refine u_cl (u_rS (As := [.long (B 1 1), .int r_1]) (rest := []) S K U (c_X2_pick hw) (va_cwS 2 hts gX4_bestCandidate_X2_pick rfl rfl rfl (by decide +kernel) ⟨Nat.le_of_ble_eq_true rfl, Nat.le_of_ble_eq_true rfl⟩) rfl hl.1 rfl (Nat.le_of_ble_eq_true rfl) dX4_bestCandidate_12 ⟨Nat.zero_le _, Nat.zero_le _⟩) U (fun r_4 A_5 B_6 H locs U9 hw => ?_)
  obtain ⟨eA, eB, hw⟩ := hw
  rw [eA, eB] at U9
  have U := U9
  refine lv_lstore (lv' := [(4, .long r_4), (0, .ref (g.2.1 2)), (1, .int a0), (2, .int a1), (3, .int a2)]) hx hb dX4_bestCandidate_15 hl (by decide) rfl (fun ls hl => ?_)
  refine lv_aload_n hx hb dX4_bestCandidate_17 rfl (lv_at hl 1 rfl) ?_
  refine u_get (C := RX4) (T := TX4) (N := 12) (v := .int (A 2 1)) hx hb hts hX4_bestCandidate_X4 hown K U 2 3 (by decide) rfl rfl 1 (by decide) (hts (.fieldLink RX4 15 "TrialSearch$Trials" "scored" "I") (by decide +kernel)) rfl rfl dX4_bestCandidate_18 ?_
  refine lv_if_ne (tgt := 27) hx hb dX4_bestCandidate_21 (by decide) (fun c_7 => ?_) (fun c_7 => ?_)
  · have hw := hw.1 c_7
    refine lv_aload_n hx hb dX4_bestCandidate_27 rfl (lv_at hl 1 rfl) ?_
    refine lv_lload hx hb dX4_bestCandidate_28 (lv_at hl 0 rfl) ?_
    refine lv_iload_n hx hb dX4_bestCandidate_30 rfl (lv_at hl 4 rfl) ?_
    refine u_cl (u_rV (As := [.long r_4, .int a2]) (rest := []) (C := RX4) S K U 2 3 (by decide) rfl rfl (c_X4_nearSum hw) (cwV 2 hts gX4_bestCandidate_X4_nearSum rfl rfl rfl (by decide +kernel) ⟨Nat.le_of_ble_eq_true rfl, Nat.le_of_ble_eq_true rfl⟩) rfl hl.1 rfl (Nat.le_of_ble_eq_true rfl) dX4_bestCandidate_31 ⟨Nat.zero_le _, Nat.zero_le _⟩) U (fun r_8 A_9 B_10 H locs U9 hw => ?_)
    obtain ⟨eB, hw⟩ := hw
    rw [eB] at U9
    have U := U9
    refine lv_lstore (lv' := [(6, .long r_8), (4, .long r_4), (0, .ref (g.2.1 2)), (1, .int a0), (2, .int a1), (3, .int a2)]) hx hb dX4_bestCandidate_34 hl (by decide) rfl (fun ls hl => ?_)
    refine lv_iconst (v := 1) hx hb dX4_bestCandidate_36 (by decide) ?_
    refine lv_istore (lv' := [(8, .int (1 : Int32)), (6, .long r_8), (4, .long r_4), (0, .ref (g.2.1 2)), (1, .int a0), (2, .int a1), (3, .int a2)]) hx hb dX4_bestCandidate_37 hl (by decide) rfl (fun ls hl => ?_)
    obtain ⟨n_24, hw⟩ := hw
    refine t_X4_bestCandidate_39 C K hw U (lv_sub hl [3, 4, 5, 6, 2, 1, 0] rfl) (fun v4_25 A_26 H locs ls U hl hw => ?_)
    refine lv_lload hx hb dX4_bestCandidate_94 (lv_at hl 0 rfl) ?_
    exact u_lret hx hb hr hlocks U ⟨rfl, hw⟩ dX4_bestCandidate_96
  · have hw := hw.2 c_7
    refine lv_lload hx hb dX4_bestCandidate_24 (lv_at hl 0 rfl) ?_
    exact u_lret hx hb hr hlocks U ⟨rfl, hw⟩ dX4_bestCandidate_26
set_option maxHeartbeats 4000000 in
set_option maxRecDepth 100000 in
theorem c_X4_close {l : Launch} {g : uG} {a0 : Int32} {a1 : Int32} {a2 : Int32} {A : SA} {B : SB} {Q : Int32 → SA → Prop} (hw : wp_X4_close a0 a1 a2 A B Q) : MI l yX4_close wsX4_close rmX4_close g A B [.ref (g.2.1 2), .int a0, .int a1, .int a2] (fun r A1 B1 => B1 = B ∧ Q r A1 ) := by
  refine u_of (cc := cX4_close) (maxL := 4) (ret := (some .int)) (by decide) rfl (Nat.le_of_ble_eq_true rfl) ?_
  intro p e s m below meth c ls C K U hl
  obtain ⟨hx, hb, hml, hown, hts, hr, hlocks⟩ := id C
  have S : CallFix p m c cX4_close 4 s ([.ref (g.2.1 2), .int a0, .int a1, .int a2] : List Value).toArray wsX4_close RX4 := ⟨hx, hb, hml, hown, hts⟩
  have hl : lv_has ls 4 [(0, .ref (g.2.1 2)), (1, .int a0), (2, .int a1), (3, .int a2)] := hl
  refine lv_aload_n hx hb dX4_close_0 rfl (lv_at hl 0 rfl) ?_
  refine u_get (C := RX4) (T := TX4) (N := 12) (v := .ref (g.2.1 14)) hx hb hts hX4_close_X4 hown K U 2 3 (by decide) rfl rfl 3 (by decide) (hts (.fieldLink RX4 22 "TrialSearch$Trials" "states" "[I") (by decide +kernel)) rfl rfl dX4_close_1 ?_
  refine lv_iload_n hx hb dX4_close_4 rfl (lv_at hl 1 rfl) ?_
  refine lv_iload_n hx hb dX4_close_5 rfl (lv_at hl 3 rfl) ?_
  refine lv_if_eq (tgt := 13) hx hb dX4_close_6 (by decide) (fun c_1 => ?_) (fun c_1 => ?_)
  · have hw := hw.1 c_1
    refine lv_iconst (v := 2) hx hb dX4_close_13 (by decide) ?_
    obtain ⟨hi_2, hw⟩ := hw
    refine u_iast (k := 14) hx hb K U rfl (by decide) rfl hi_2 dX4_close_14 (fun H locs U => ?_)
    refine lv_iload_n hx hb dX4_close_15 rfl (lv_at hl 3 rfl) ?_
    refine lv_if_eq (tgt := 36) hx hb dX4_close_16 (by decide) (fun c_3 => ?_) (fun c_3 => ?_)
    · have hw := hw.1 c_3
      refine lv_aload_n hx hb dX4_close_36 rfl (lv_at hl 0 rfl) ?_
      refine u_get (C := RX4) (T := TX4) (N := 12) (v := .int (A 2 1)) hx hb hts hX4_close_X4 hown K U 2 3 (by decide) rfl rfl 1 (by decide) (hts (.fieldLink RX4 15 "TrialSearch$Trials" "scored" "I") (by decide +kernel)) rfl rfl dX4_close_37 ?_
      exact u_iret hx hb hr hlocks U ⟨rfl, hw⟩ dX4_close_40
    · have hw := hw.2 c_3
      refine lv_aload_n hx hb dX4_close_19 rfl (lv_at hl 0 rfl) ?_
      refine u_get (C := RX4) (T := TX4) (N := 12) (v := .ref (g.2.1 15)) hx hb hts hX4_close_X4 hown K U 2 3 (by decide) rfl rfl 4 (by decide) (hts (.fieldLink RX4 26 "TrialSearch$Trials" "scores" "[I") (by decide +kernel)) rfl rfl dX4_close_20 ?_
      refine lv_iload_n hx hb dX4_close_23 rfl (lv_at hl 1 rfl) ?_
      refine lv_iload_n hx hb dX4_close_24 rfl (lv_at hl 2 rfl) ?_
      obtain ⟨hi_4, hw⟩ := hw
      refine u_iast (k := 15) hx hb K U rfl (by decide) rfl hi_4 dX4_close_25 (fun H locs U => ?_)
      refine lv_aload_n hx hb dX4_close_26 rfl (lv_at hl 0 rfl) ?_
      refine lv_dup hx hb dX4_close_27 rfl ?_
      refine u_get (C := RX4) (T := TX4) (N := 12) (v := .int (A 2 1)) hx hb hts hX4_close_X4 hown K U 2 3 (by decide) rfl rfl 1 (by decide) (hts (.fieldLink RX4 15 "TrialSearch$Trials" "scored" "I") (by decide +kernel)) rfl rfl dX4_close_28 ?_
      refine lv_iconst (v := 1) hx hb dX4_close_31 (by decide) ?_
      refine lv_iadd hx hb dX4_close_32 ?_
      refine lv_topi (fun x_5 ex_5 => ?_)
      have hw := hw x_5 ex_5
      refine u_puti (ty := .int) (C := RX4) (T := TX4) (N := 12) hx hb hts hX4_close_X4 tyX4 tyX4_ok nmX4 hown K U 2 3 (by decide) rfl rfl 1 (by decide) (hts (.fieldLink RX4 15 "TrialSearch$Trials" "scored" "I") (by decide +kernel)) rfl rfl (by decide +kernel) rfl rfl (Nat.le_of_ble_eq_true rfl) rfl dX4_close_33 (fun H locs U => ?_)
      refine lv_aload_n hx hb dX4_close_36 rfl (lv_at hl 0 rfl) ?_
      refine u_get (C := RX4) (T := TX4) (N := 12) (v := .int x_5) hx hb hts hX4_close_X4 hown K U 2 3 (by decide) rfl rfl 1 (by decide) (hts (.fieldLink RX4 15 "TrialSearch$Trials" "scored" "I") (by decide +kernel)) rfl rfl dX4_close_37 ?_
      exact u_iret hx hb hr hlocks U ⟨rfl, hw⟩ dX4_close_40
  · have hw := hw.2 c_1
    refine lv_iconst (v := 1) hx hb dX4_close_9 (by decide) ?_
    refine lv_goto (tgt := 14) hx hb dX4_close_10 (by decide) ?_
    obtain ⟨hi_6, hw⟩ := hw
    refine u_iast (k := 14) hx hb K U rfl (by decide) rfl hi_6 dX4_close_14 (fun H locs U => ?_)
    refine lv_iload_n hx hb dX4_close_15 rfl (lv_at hl 3 rfl) ?_
    refine lv_if_eq (tgt := 36) hx hb dX4_close_16 (by decide) (fun c_7 => ?_) (fun c_7 => ?_)
    · have hw := hw.1 c_7
      refine lv_aload_n hx hb dX4_close_36 rfl (lv_at hl 0 rfl) ?_
      refine u_get (C := RX4) (T := TX4) (N := 12) (v := .int (A 2 1)) hx hb hts hX4_close_X4 hown K U 2 3 (by decide) rfl rfl 1 (by decide) (hts (.fieldLink RX4 15 "TrialSearch$Trials" "scored" "I") (by decide +kernel)) rfl rfl dX4_close_37 ?_
      exact u_iret hx hb hr hlocks U ⟨rfl, hw⟩ dX4_close_40
    · have hw := hw.2 c_7
      refine lv_aload_n hx hb dX4_close_19 rfl (lv_at hl 0 rfl) ?_
      refine u_get (C := RX4) (T := TX4) (N := 12) (v := .ref (g.2.1 15)) hx hb hts hX4_close_X4 hown K U 2 3 (by decide) rfl rfl 4 (by decide) (hts (.fieldLink RX4 26 "TrialSearch$Trials" "scores" "[I") (by decide +kernel)) rfl rfl dX4_close_20 ?_
      refine lv_iload_n hx hb dX4_close_23 rfl (lv_at hl 1 rfl) ?_
      refine lv_iload_n hx hb dX4_close_24 rfl (lv_at hl 2 rfl) ?_
      obtain ⟨hi_8, hw⟩ := hw
      refine u_iast (k := 15) hx hb K U rfl (by decide) rfl hi_8 dX4_close_25 (fun H locs U => ?_)
      refine lv_aload_n hx hb dX4_close_26 rfl (lv_at hl 0 rfl) ?_
      refine lv_dup hx hb dX4_close_27 rfl ?_
      refine u_get (C := RX4) (T := TX4) (N := 12) (v := .int (A 2 1)) hx hb hts hX4_close_X4 hown K U 2 3 (by decide) rfl rfl 1 (by decide) (hts (.fieldLink RX4 15 "TrialSearch$Trials" "scored" "I") (by decide +kernel)) rfl rfl dX4_close_28 ?_
      refine lv_iconst (v := 1) hx hb dX4_close_31 (by decide) ?_
      refine lv_iadd hx hb dX4_close_32 ?_
      refine lv_topi (fun x_9 ex_9 => ?_)
      have hw := hw x_9 ex_9
      refine u_puti (ty := .int) (C := RX4) (T := TX4) (N := 12) hx hb hts hX4_close_X4 tyX4 tyX4_ok nmX4 hown K U 2 3 (by decide) rfl rfl 1 (by decide) (hts (.fieldLink RX4 15 "TrialSearch$Trials" "scored" "I") (by decide +kernel)) rfl rfl (by decide +kernel) rfl rfl (Nat.le_of_ble_eq_true rfl) rfl dX4_close_33 (fun H locs U => ?_)
      refine lv_aload_n hx hb dX4_close_36 rfl (lv_at hl 0 rfl) ?_
      refine u_get (C := RX4) (T := TX4) (N := 12) (v := .int x_9) hx hb hts hX4_close_X4 hown K U 2 3 (by decide) rfl rfl 1 (by decide) (hts (.fieldLink RX4 15 "TrialSearch$Trials" "scored" "I") (by decide +kernel)) rfl rfl dX4_close_37 ?_
      exact u_iret hx hb hr hlocks U ⟨rfl, hw⟩ dX4_close_40
set_option maxHeartbeats 4000000 in
set_option maxRecDepth 100000 in
theorem t_X4_sortIn_2 {p : Program} {l : Launch} {e : Env} {s : State} {m : MethodId} {args : Array Value} {below : List Frame} {meth : Method} {c : Code} {g : uG} {E38 : Int32 → SA → Prop} {Q : SA → Prop} {v1 : Int32} {B : SB} (C : uC p s m args meth c cX4_sortIn 4 RX4 wsX4_sortIn none) (K : UK g s) :
    ∀ {n : Nat} {v3 : Int32} {A : SA} {H : Heap} {locs : List Loc} {ls : Array Slot}, wp_X4_sortIn_2 E38 Q v1 B n v3 A → UU g A B s.heap H locs → lv_has ls 4 [(0, .ref (g.2.1 2)), (1, .int v1), (3, .int v3)] → (∀ (v3 : Int32) (A : SA) (H : Heap) (locs : List Loc) (ls : Array Slot), UU g A B s.heap H locs → lv_has ls 4 [(0, .ref (g.2.1 2)), (1, .int v1), (3, .int v3)] → E38 v3 A → W p l e rmX4_sortIn s m args below meth c H locs 0 0 (MQ below (uQv g (fun A1 B1 => B1 = B ∧ Q A1 )) args s 0 0 (FA g)) (F0 m 38 ls [])) → W p l e rmX4_sortIn s m args below meth c H locs 0 0 (MQ below (uQv g (fun A1 B1 => B1 = B ∧ Q A1 )) args s 0 0 (FA g)) (F0 m 2 ls []) := by
  obtain ⟨hx, hb, hml, hown, hts, hr, hlocks⟩ := id C
  have S : CallFix p m c cX4_sortIn 4 s args wsX4_sortIn RX4 := ⟨hx, hb, hml, hown, hts⟩
  intro n
  induction n with
  | zero => intro _ _ _ _ _ hw; exact False.elim hw
  | succ n ih =>
    intro v3 A H locs ls hw U hl h38
    refine lv_iload_n hx hb dX4_sortIn_2 rfl (lv_at hl 2 rfl) ?_
    refine lv_if_le (tgt := 38) hx hb dX4_sortIn_3 (by decide) (fun c_1 => ?_) (fun c_1 => ?_)
    · have hw := hw.1 c_1
      exact h38 _ _ _ _ _ U (lv_sub hl [0, 1, 2] rfl) hw
    · have hw := hw.2 c_1
      refine lv_aload_n hx hb dX4_sortIn_6 rfl (lv_at hl 0 rfl) ?_
      refine u_get (C := RX4) (T := TX4) (N := 12) (v := .ref (g.2.1 21)) hx hb hts hX4_sortIn_X4 hown K U 2 3 (by decide) rfl rfl 11 (by decide) (hts (.fieldLink RX4 50 "TrialSearch$Trials" "others" "[I") (by decide +kernel)) rfl rfl dX4_sortIn_7 ?_
      refine lv_iload_n hx hb dX4_sortIn_10 rfl (lv_at hl 2 rfl) ?_
      refine lv_iconst (v := 1) hx hb dX4_sortIn_11 (by decide) ?_
      refine lv_isub hx hb dX4_sortIn_12 ?_
      refine lv_topi (fun x_2 ex_2 => ?_)
      have hw := hw x_2 ex_2
      obtain ⟨hi_3, hw⟩ := hw
      refine u_iald (k := 21) (v := (A 21 x_2.toNatClampNeg)) hx hb K U rfl (by decide) rfl hi_3 rfl dX4_sortIn_13 ?_
      refine lv_iload_n hx hb dX4_sortIn_14 rfl (lv_at hl 1 rfl) ?_
      refine lv_icmp_le (tgt := 38) hx hb dX4_sortIn_15 (by decide) (fun c_4 => ?_) (fun c_4 => ?_)
      · have hw := hw.1 c_4
        exact h38 _ _ _ _ _ U (lv_sub hl [0, 1, 2] rfl) hw
      · have hw := hw.2 c_4
        refine lv_aload_n hx hb dX4_sortIn_18 rfl (lv_at hl 0 rfl) ?_
        refine u_get (C := RX4) (T := TX4) (N := 12) (v := .ref (g.2.1 21)) hx hb hts hX4_sortIn_X4 hown K U 2 3 (by decide) rfl rfl 11 (by decide) (hts (.fieldLink RX4 50 "TrialSearch$Trials" "others" "[I") (by decide +kernel)) rfl rfl dX4_sortIn_19 ?_
        refine lv_iload_n hx hb dX4_sortIn_22 rfl (lv_at hl 2 rfl) ?_
        refine lv_aload_n hx hb dX4_sortIn_23 rfl (lv_at hl 0 rfl) ?_
        refine u_get (C := RX4) (T := TX4) (N := 12) (v := .ref (g.2.1 21)) hx hb hts hX4_sortIn_X4 hown K U 2 3 (by decide) rfl rfl 11 (by decide) (hts (.fieldLink RX4 50 "TrialSearch$Trials" "others" "[I") (by decide +kernel)) rfl rfl dX4_sortIn_24 ?_
        refine lv_iload_n hx hb dX4_sortIn_27 rfl (lv_at hl 2 rfl) ?_
        refine lv_iconst (v := 1) hx hb dX4_sortIn_28 (by decide) ?_
        refine lv_isub hx hb dX4_sortIn_29 ?_
        refine lv_topi (fun x_5 ex_5 => ?_)
        have hw := hw x_5 ex_5
        obtain ⟨hi_6, hw⟩ := hw
        refine u_iald (k := 21) (v := (A 21 x_5.toNatClampNeg)) hx hb K U rfl (by decide) rfl hi_6 rfl dX4_sortIn_30 ?_
        refine lv_topi (fun x_7 ex_7 => ?_)
        have hw := hw x_7 ex_7
        obtain ⟨hi_8, hw⟩ := hw
        refine u_iast (k := 21) hx hb K U rfl (by decide) rfl hi_8 dX4_sortIn_31 (fun H locs U => ?_)
        obtain ⟨v3_9, ev3_9⟩ : ∃ y : Int32, y = v3 + (-1) := ⟨_, rfl⟩
        have hw := hw v3_9 ev3_9
        refine lv_iinc (v := v3_9) (lv' := [(3, .int v3_9), (0, .ref (g.2.1 2)), (1, .int v1)]) hx hb dX4_sortIn_32 hl (k := 2) rfl (by rw [ev3_9]; rfl) (by decide) rfl (fun ls hl => ?_)
        refine lv_goto (tgt := 2) hx hb dX4_sortIn_35 (by decide) ?_
        exact ih hw U (lv_sub hl [1, 2, 0] rfl) h38
set_option maxHeartbeats 4000000 in
set_option maxRecDepth 100000 in
theorem c_X4_sortIn {l : Launch} {g : uG} {a0 : Int32} {a1 : Int32} {A : SA} {B : SB} {Q : SA → Prop} (hw : wp_X4_sortIn a0 a1 A B Q) : MV l yX4_sortIn wsX4_sortIn rmX4_sortIn g A B [.ref (g.2.1 2), .int a0, .int a1] (fun A1 B1 => B1 = B ∧ Q A1 ) := by
  refine u_of (cc := cX4_sortIn) (maxL := 4) (ret := none) (by decide) rfl (Nat.le_of_ble_eq_true rfl) ?_
  intro p e s m below meth c ls C K U hl
  obtain ⟨hx, hb, hml, hown, hts, hr, hlocks⟩ := id C
  have S : CallFix p m c cX4_sortIn 4 s ([.ref (g.2.1 2), .int a0, .int a1] : List Value).toArray wsX4_sortIn RX4 := ⟨hx, hb, hml, hown, hts⟩
  have hl : lv_has ls 4 [(0, .ref (g.2.1 2)), (1, .int a0), (2, .int a1)] := hl
  refine lv_iload_n hx hb dX4_sortIn_0 rfl (lv_at hl 2 rfl) ?_
  refine lv_istore_n (lv' := [(3, .int a1), (0, .ref (g.2.1 2)), (1, .int a0), (2, .int a1)]) hx hb dX4_sortIn_1 rfl hl (by decide) rfl (fun ls hl => ?_)
  obtain ⟨n_10, hw⟩ := hw
  refine t_X4_sortIn_2 C K hw U (lv_sub hl [1, 2, 0] rfl) (fun v3_11 A_12 H locs ls U hl hw => ?_)
  refine lv_aload_n hx hb dX4_sortIn_38 rfl (lv_at hl 0 rfl) ?_
  refine u_get (C := RX4) (T := TX4) (N := 12) (v := .ref (g.2.1 21)) hx hb hts hX4_sortIn_X4 hown K U 2 3 (by decide) rfl rfl 11 (by decide) (hts (.fieldLink RX4 50 "TrialSearch$Trials" "others" "[I") (by decide +kernel)) rfl rfl dX4_sortIn_39 ?_
  refine lv_iload_n hx hb dX4_sortIn_42 rfl (lv_at hl 2 rfl) ?_
  refine lv_iload_n hx hb dX4_sortIn_43 rfl (lv_at hl 1 rfl) ?_
  obtain ⟨hi_13, hw⟩ := hw
  refine u_iast (k := 21) hx hb K U rfl (by decide) rfl hi_13 dX4_sortIn_44 (fun H locs U => ?_)
  exact u_vret hx hb hr hlocks U ⟨rfl, hw⟩ dX4_sortIn_45
set_option maxHeartbeats 4000000 in
set_option maxRecDepth 100000 in
theorem t_X4_isBelowMiddle_6 {p : Program} {l : Launch} {e : Env} {s : State} {m : MethodId} {args : Array Value} {below : List Frame} {meth : Method} {c : Code} {g : uG} {E56 : Int32 → SA → Prop} {Q : Int32 → SA → Prop} {v1 : Int32} {v2 : Int32} {v3 : Int32} {v4 : Int32} {B : SB} (C : uC p s m args meth c cX4_isBelowMiddle 7 RX4 wsX4_isBelowMiddle (some .boolean)) (K : UK g s) :
    ∀ {n : Nat} {v5 : Int32} {v6 : Int32} {A : SA} {H : Heap} {locs : List Loc} {ls : Array Slot}, wp_X4_isBelowMiddle_6 E56 Q v1 v2 v3 v4 B n v5 v6 A → UU g A B s.heap H locs → lv_has ls 7 [(0, .ref (g.2.1 2)), (1, .int v1), (2, .int v2), (3, .int v3), (4, .int v4), (5, .int v5), (6, .int v6)] → (∀ (v5 : Int32) (A : SA) (H : Heap) (locs : List Loc) (ls : Array Slot), UU g A B s.heap H locs → lv_has ls 7 [(0, .ref (g.2.1 2)), (3, .int v3), (4, .int v4), (5, .int v5)] → E56 v5 A → W p l e rmX4_isBelowMiddle s m args below meth c H locs 0 0 (MQ below (uQi g (fun r A1 B1 => B1 = B ∧ Q r A1 )) args s 0 0 (FA g)) (F0 m 56 ls [])) → W p l e rmX4_isBelowMiddle s m args below meth c H locs 0 0 (MQ below (uQi g (fun r A1 B1 => B1 = B ∧ Q r A1 )) args s 0 0 (FA g)) (F0 m 6 ls []) := by
  obtain ⟨hx, hb, hml, hown, hts, hr, hlocks⟩ := id C
  have S : CallFix p m c cX4_isBelowMiddle 7 s args wsX4_isBelowMiddle RX4 := ⟨hx, hb, hml, hown, hts⟩
  intro n
  induction n with
  | zero => intro _ _ _ _ _ _ hw; exact False.elim hw
  | succ n ih =>
    intro v5 v6 A H locs ls hw U hl h56
    refine lv_iload hx hb dX4_isBelowMiddle_6 (lv_at hl 6 rfl) ?_
    refine lv_aload_n hx hb dX4_isBelowMiddle_8 rfl (lv_at hl 0 rfl) ?_
    refine u_get (C := RX4) (T := TX4) (N := 12) (v := .int (A 2 0)) hx hb hts hX4_isBelowMiddle_X4 hown K U 2 3 (by decide) rfl rfl 0 (by decide) (hts (.fieldLink RX4 9 "TrialSearch$Trials" "made" "I") (by decide +kernel)) rfl rfl dX4_isBelowMiddle_9 ?_
    refine lv_icmp_ge (tgt := 56) hx hb dX4_isBelowMiddle_12 (by decide) (fun c_1 => ?_) (fun c_1 => ?_)
    · have hw := hw.1 c_1
      exact h56 _ _ _ _ _ U (lv_sub hl [0, 3, 4, 5] rfl) hw
    · have hw := hw.2 c_1
      refine lv_iload hx hb dX4_isBelowMiddle_15 (lv_at hl 6 rfl) ?_
      refine lv_iload_n hx hb dX4_isBelowMiddle_17 rfl (lv_at hl 1 rfl) ?_
      refine lv_icmp_eq (tgt := 50) hx hb dX4_isBelowMiddle_18 (by decide) (fun c_2 => ?_) (fun c_2 => ?_)
      · have hw := hw.1 c_2
        obtain ⟨v6_3, ev6_3⟩ : ∃ y : Int32, y = v6 + 1 := ⟨_, rfl⟩
        have hw := hw v6_3 ev6_3
        refine lv_iinc (v := v6_3) (lv' := [(6, .int v6_3), (0, .ref (g.2.1 2)), (1, .int v1), (2, .int v2), (3, .int v3), (4, .int v4), (5, .int v5)]) hx hb dX4_isBelowMiddle_50 hl (k := 6) rfl (by rw [ev6_3]; rfl) (by decide) rfl (fun ls hl => ?_)
        refine lv_goto (tgt := 6) hx hb dX4_isBelowMiddle_53 (by decide) ?_
        exact ih hw U (lv_sub hl [1, 2, 3, 4, 5, 6, 0] rfl) h56
      · have hw := hw.2 c_2
        refine lv_aload_n hx hb dX4_isBelowMiddle_21 rfl (lv_at hl 0 rfl) ?_
        refine u_get (C := RX4) (T := TX4) (N := 12) (v := .ref (g.2.1 16)) hx hb hts hX4_isBelowMiddle_X4 hown K U 2 3 (by decide) rfl rfl 5 (by decide) (hts (.fieldLink RX4 29 "TrialSearch$Trials" "steps" "[I") (by decide +kernel)) rfl rfl dX4_isBelowMiddle_22 ?_
        refine lv_iload hx hb dX4_isBelowMiddle_25 (lv_at hl 6 rfl) ?_
        obtain ⟨hi_4, hw⟩ := hw
        refine u_iald (k := 16) (v := (A 16 v6.toNatClampNeg)) hx hb K U rfl (by decide) rfl hi_4 rfl dX4_isBelowMiddle_27 ?_
        refine lv_iload_n hx hb dX4_isBelowMiddle_28 rfl (lv_at hl 2 rfl) ?_
        refine lv_icmp_le (tgt := 50) hx hb dX4_isBelowMiddle_29 (by decide) (fun c_5 => ?_) (fun c_5 => ?_)
        · have hw := hw.1 c_5
          obtain ⟨v6_6, ev6_6⟩ : ∃ y : Int32, y = v6 + 1 := ⟨_, rfl⟩
          have hw := hw v6_6 ev6_6
          refine lv_iinc (v := v6_6) (lv' := [(6, .int v6_6), (0, .ref (g.2.1 2)), (1, .int v1), (2, .int v2), (3, .int v3), (4, .int v4), (5, .int v5)]) hx hb dX4_isBelowMiddle_50 hl (k := 6) rfl (by rw [ev6_6]; rfl) (by decide) rfl (fun ls hl => ?_)
          refine lv_goto (tgt := 6) hx hb dX4_isBelowMiddle_53 (by decide) ?_
          exact ih hw U (lv_sub hl [1, 2, 3, 4, 5, 6, 0] rfl) h56
        · have hw := hw.2 c_5
          refine lv_aload_n hx hb dX4_isBelowMiddle_32 rfl (lv_at hl 0 rfl) ?_
          refine lv_aload_n hx hb dX4_isBelowMiddle_33 rfl (lv_at hl 0 rfl) ?_
          refine u_get (C := RX4) (T := TX4) (N := 12) (v := .ref (g.2.1 17)) hx hb hts hX4_isBelowMiddle_X4 hown K U 2 3 (by decide) rfl rfl 6 (by decide) (hts (.fieldLink RX4 34 "TrialSearch$Trials" "reports" "[[I") (by decide +kernel)) rfl rfl dX4_isBelowMiddle_34 ?_
          refine lv_iload hx hb dX4_isBelowMiddle_37 (lv_at hl 6 rfl) ?_
          obtain ⟨hi_7, hw⟩ := hw
          refine u_aald (b := 56) hx hb K U (k := 17) (by decide) (by decide) rfl rfl hi_7 dX4_isBelowMiddle_39 ?_
          refine lv_iload_n hx hb dX4_isBelowMiddle_40 rfl (lv_at hl 2 rfl) ?_
          obtain ⟨hi_8, hw⟩ := hw
          refine u_iald (k := (56 + v6.toNatClampNeg)) (v := (A (56 + v6.toNatClampNeg) v2.toNatClampNeg)) hx hb K U (urow_56 hi_7).1 (urow_56 hi_7).2.1 (urow_56 hi_7).2.2 hi_8 rfl dX4_isBelowMiddle_41 ?_
          refine lv_iload hx hb dX4_isBelowMiddle_42 (lv_at hl 5 rfl) ?_
          refine u_cv (u_rV (As := [.int (A (56 + v6.toNatClampNeg) v2.toNatClampNeg), .int v5]) (rest := []) (C := RX4) S K U 2 3 (by decide) rfl rfl (c_X4_sortIn hw) (cwV 2 hts gX4_isBelowMiddle_X4_sortIn rfl rfl rfl (by decide +kernel) ⟨Nat.le_of_ble_eq_true rfl, Nat.le_of_ble_eq_true rfl⟩) rfl hl.1 rfl (Nat.le_of_ble_eq_true rfl) dX4_isBelowMiddle_44 ⟨Nat.zero_le _, Nat.zero_le _⟩) U (fun A_10 B_11 H locs U9 hw => ?_)
          obtain ⟨eB, hw⟩ := hw
          rw [eB] at U9
          have U := U9
          obtain ⟨v5_12, ev5_12⟩ : ∃ y : Int32, y = v5 + 1 := ⟨_, rfl⟩
          have hw := hw v5_12 ev5_12
          refine lv_iinc (v := v5_12) (lv' := [(5, .int v5_12), (0, .ref (g.2.1 2)), (1, .int v1), (2, .int v2), (3, .int v3), (4, .int v4), (6, .int v6)]) hx hb dX4_isBelowMiddle_47 hl (k := 5) rfl (by rw [ev5_12]; rfl) (by decide) rfl (fun ls hl => ?_)
          obtain ⟨v6_13, ev6_13⟩ : ∃ y : Int32, y = v6 + 1 := ⟨_, rfl⟩
          have hw := hw v6_13 ev6_13
          refine lv_iinc (v := v6_13) (lv' := [(6, .int v6_13), (5, .int v5_12), (0, .ref (g.2.1 2)), (1, .int v1), (2, .int v2), (3, .int v3), (4, .int v4)]) hx hb dX4_isBelowMiddle_50 hl (k := 6) rfl (by rw [ev6_13]; rfl) (by decide) rfl (fun ls hl => ?_)
          refine lv_goto (tgt := 6) hx hb dX4_isBelowMiddle_53 (by decide) ?_
          exact ih hw U (lv_sub hl [2, 3, 4, 5, 6, 1, 0] rfl) h56
set_option maxHeartbeats 4000000 in
set_option maxRecDepth 100000 in
theorem c_X4_isBelowMiddle {l : Launch} {g : uG} {a0 : Int32} {a1 : Int32} {a2 : Int32} {a3 : Int32} {A : SA} {B : SB} {Q : Int32 → SA → Prop} (hw : wp_X4_isBelowMiddle a0 a1 a2 a3 A B Q) : MI l yX4_isBelowMiddle wsX4_isBelowMiddle rmX4_isBelowMiddle g A B [.ref (g.2.1 2), .int a0, .int a1, .int a2, .int a3] (fun r A1 B1 => B1 = B ∧ Q r A1 ) := by
  refine u_of (cc := cX4_isBelowMiddle) (maxL := 7) (ret := (some .boolean)) (by decide) rfl (Nat.le_of_ble_eq_true rfl) ?_
  intro p e s m below meth c ls C K U hl
  obtain ⟨hx, hb, hml, hown, hts, hr, hlocks⟩ := id C
  have S : CallFix p m c cX4_isBelowMiddle 7 s ([.ref (g.2.1 2), .int a0, .int a1, .int a2, .int a3] : List Value).toArray wsX4_isBelowMiddle RX4 := ⟨hx, hb, hml, hown, hts⟩
  have hl : lv_has ls 7 [(0, .ref (g.2.1 2)), (1, .int a0), (2, .int a1), (3, .int a2), (4, .int a3)] := hl
  refine lv_iconst (v := 0) hx hb dX4_isBelowMiddle_0 (by decide) ?_
  refine lv_istore (lv' := [(5, .int (0 : Int32)), (0, .ref (g.2.1 2)), (1, .int a0), (2, .int a1), (3, .int a2), (4, .int a3)]) hx hb dX4_isBelowMiddle_1 hl (by decide) rfl (fun ls hl => ?_)
  refine lv_iconst (v := 0) hx hb dX4_isBelowMiddle_3 (by decide) ?_
  refine lv_istore (lv' := [(6, .int (0 : Int32)), (5, .int (0 : Int32)), (0, .ref (g.2.1 2)), (1, .int a0), (2, .int a1), (3, .int a2), (4, .int a3)]) hx hb dX4_isBelowMiddle_4 hl (by decide) rfl (fun ls hl => ?_)
  obtain ⟨n_14, hw⟩ := hw
  refine t_X4_isBelowMiddle_6 C K hw U (lv_sub hl [2, 3, 4, 5, 6, 1, 0] rfl) (fun v5_15 A_16 H locs ls U hl hw => ?_)
  refine lv_iload hx hb dX4_isBelowMiddle_56 (lv_at hl 3 rfl) ?_
  refine lv_iload hx hb dX4_isBelowMiddle_58 (lv_at hl 2 rfl) ?_
  refine lv_icmp_lt (tgt := 82) hx hb dX4_isBelowMiddle_60 (by decide) (fun c_17 => ?_) (fun c_17 => ?_)
  · have hw := hw.1 c_17
    refine lv_iconst (v := 0) hx hb dX4_isBelowMiddle_82 (by decide) ?_
    exact u_zret hx hb hr hlocks U (by decide +kernel) ⟨rfl, hw⟩ dX4_isBelowMiddle_83
  · have hw := hw.2 c_17
    refine lv_iload_n hx hb dX4_isBelowMiddle_63 rfl (lv_at hl 1 rfl) ?_
    refine lv_aload_n hx hb dX4_isBelowMiddle_64 rfl (lv_at hl 0 rfl) ?_
    refine u_get (C := RX4) (T := TX4) (N := 12) (v := .ref (g.2.1 21)) hx hb hts hX4_isBelowMiddle_X4 hown K U 2 3 (by decide) rfl rfl 11 (by decide) (hts (.fieldLink RX4 50 "TrialSearch$Trials" "others" "[I") (by decide +kernel)) rfl rfl dX4_isBelowMiddle_65 ?_
    refine lv_iload hx hb dX4_isBelowMiddle_68 (lv_at hl 3 rfl) ?_
    refine lv_iconst (v := 1) hx hb dX4_isBelowMiddle_70 (by decide) ?_
    refine lv_isub hx hb dX4_isBelowMiddle_71 ?_
    refine lv_iconst (v := 2) hx hb dX4_isBelowMiddle_72 (by decide) ?_
    refine lv_idiv hx hb dX4_isBelowMiddle_73 (by decide) ?_
    refine lv_topi (fun x_18 ex_18 => ?_)
    have hw := hw x_18 ex_18
    obtain ⟨hi_19, hw⟩ := hw
    refine u_iald (k := 21) (v := (A_16 21 x_18.toNatClampNeg)) hx hb K U rfl (by decide) rfl hi_19 rfl dX4_isBelowMiddle_74 ?_
    refine lv_icmp_ge (tgt := 82) hx hb dX4_isBelowMiddle_75 (by decide) (fun c_20 => ?_) (fun c_20 => ?_)
    · have hw := hw.1 c_20
      refine lv_iconst (v := 0) hx hb dX4_isBelowMiddle_82 (by decide) ?_
      exact u_zret hx hb hr hlocks U (by decide +kernel) ⟨rfl, hw⟩ dX4_isBelowMiddle_83
    · have hw := hw.2 c_20
      refine lv_iconst (v := 1) hx hb dX4_isBelowMiddle_78 (by decide) ?_
      refine lv_goto (tgt := 83) hx hb dX4_isBelowMiddle_79 (by decide) ?_
      exact u_zret hx hb hr hlocks U (by decide +kernel) ⟨rfl, hw⟩ dX4_isBelowMiddle_83
set_option maxHeartbeats 4000000 in
set_option maxRecDepth 100000 in
theorem c_X4_addReport {l : Launch} {g : uG} {a0 : Int32} {a1 : Int32} {a2 : Int32} {A : SA} {B : SB} {Q : Int32 → SA → Prop} (hw : wp_X4_addReport a0 a1 a2 A B Q) : MI l yX4_addReport wsX4_addReport rmX4_addReport g A B [.ref (g.2.1 2), .int a0, .int a1, .int a2] (fun r A1 B1 => B1 = B ∧ Q r A1 ) := by
  refine u_of (cc := cX4_addReport) (maxL := 6) (ret := (some .int)) (by decide) rfl (Nat.le_of_ble_eq_true rfl) ?_
  intro p e s m below meth c ls C K U hl
  obtain ⟨hx, hb, hml, hown, hts, hr, hlocks⟩ := id C
  have S : CallFix p m c cX4_addReport 6 s ([.ref (g.2.1 2), .int a0, .int a1, .int a2] : List Value).toArray wsX4_addReport RX4 := ⟨hx, hb, hml, hown, hts⟩
  have hl : lv_has ls 6 [(0, .ref (g.2.1 2)), (1, .int a0), (2, .int a1), (3, .int a2)] := hl
  refine lv_aload_n hx hb dX4_addReport_0 rfl (lv_at hl 0 rfl) ?_
  refine u_get (C := RX4) (T := TX4) (N := 12) (v := .ref (g.2.1 16)) hx hb hts hX4_addReport_X4 hown K U 2 3 (by decide) rfl rfl 5 (by decide) (hts (.fieldLink RX4 29 "TrialSearch$Trials" "steps" "[I") (by decide +kernel)) rfl rfl dX4_addReport_1 ?_
  refine lv_iload_n hx hb dX4_addReport_4 rfl (lv_at hl 1 rfl) ?_
  obtain ⟨hi_1, hw⟩ := hw
  refine u_iald (k := 16) (v := (A 16 a0.toNatClampNeg)) hx hb K U rfl (by decide) rfl hi_1 rfl dX4_addReport_5 ?_
  refine lv_topi (fun x_2 ex_2 => ?_)
  have hw := hw x_2 ex_2
  refine lv_istore (lv' := [(4, .int x_2), (0, .ref (g.2.1 2)), (1, .int a0), (2, .int a1), (3, .int a2)]) hx hb dX4_addReport_6 hl (by decide) rfl (fun ls hl => ?_)
  refine lv_iload_n hx hb dX4_addReport_8 rfl (lv_at hl 4 rfl) ?_
  refine lv_if_le (tgt := 28) hx hb dX4_addReport_9 (by decide) (fun c_3 => ?_) (fun c_3 => ?_)
  · have hw := hw.1 c_3
    refine lv_iconst (v := 0) hx hb dX4_addReport_28 (by decide) ?_
    refine lv_istore (lv' := [(5, .int (0 : Int32)), (4, .int x_2), (0, .ref (g.2.1 2)), (1, .int a0), (2, .int a1), (3, .int a2)]) hx hb dX4_addReport_29 hl (by decide) rfl (fun ls hl => ?_)
    refine lv_aload_n hx hb dX4_addReport_31 rfl (lv_at hl 2 rfl) ?_
    refine u_get (C := RX4) (T := TX4) (N := 12) (v := .ref (g.2.1 17)) hx hb hts hX4_addReport_X4 hown K U 2 3 (by decide) rfl rfl 6 (by decide) (hts (.fieldLink RX4 34 "TrialSearch$Trials" "reports" "[[I") (by decide +kernel)) rfl rfl dX4_addReport_32 ?_
    refine lv_iload_n hx hb dX4_addReport_35 rfl (lv_at hl 3 rfl) ?_
    obtain ⟨hi_4, hw⟩ := hw
    refine u_aald (b := 56) hx hb K U (k := 17) (by decide) (by decide) rfl rfl hi_4 dX4_addReport_36 ?_
    refine lv_iload hx hb dX4_addReport_37 (lv_at hl 1 rfl) ?_
    refine lv_iload_n hx hb dX4_addReport_39 rfl (lv_at hl 4 rfl) ?_
    obtain ⟨hi_5, hw⟩ := hw
    refine u_iast (k := (56 + a0.toNatClampNeg)) hx hb K U (urow_56 hi_4).1 (urow_56 hi_4).2.1 (urow_56 hi_4).2.2 hi_5 dX4_addReport_40 (fun H locs U => ?_)
    refine lv_aload_n hx hb dX4_addReport_41 rfl (lv_at hl 2 rfl) ?_
    refine u_get (C := RX4) (T := TX4) (N := 12) (v := .ref (g.2.1 16)) hx hb hts hX4_addReport_X4 hown K U 2 3 (by decide) rfl rfl 5 (by decide) (hts (.fieldLink RX4 29 "TrialSearch$Trials" "steps" "[I") (by decide +kernel)) rfl rfl dX4_addReport_42 ?_
    refine lv_iload_n hx hb dX4_addReport_45 rfl (lv_at hl 3 rfl) ?_
    refine lv_dup2_11 hx hb dX4_addReport_46 rfl rfl ?_
    obtain ⟨hi_6, hw⟩ := hw
    refine u_iald (k := 16) (v := ((u2 A (56 + a0.toNatClampNeg) x_2.toNatClampNeg a1) 16 a0.toNatClampNeg)) hx hb K U rfl (by decide) rfl hi_6 rfl dX4_addReport_47 ?_
    refine lv_iconst (v := 1) hx hb dX4_addReport_48 (by decide) ?_
    refine lv_iadd hx hb dX4_addReport_49 ?_
    refine lv_topi (fun x_7 ex_7 => ?_)
    have hw := hw x_7 ex_7
    obtain ⟨hi_8, hw⟩ := hw
    refine u_iast (k := 16) hx hb K U rfl (by decide) rfl hi_8 dX4_addReport_50 (fun H locs U => ?_)
    refine lv_iload hx hb dX4_addReport_51 (lv_at hl 0 rfl) ?_
    refine lv_if_eq (tgt := 69) hx hb dX4_addReport_53 (by decide) (fun _ => ?_) (fun c_9 => absurd c_9 (by decide))
    refine lv_iload hx hb dX4_addReport_69 (lv_at hl 1 rfl) ?_
    exact u_iret hx hb hr hlocks U ⟨rfl, hw⟩ dX4_addReport_71
  · have hw := hw.2 c_3
    refine lv_aload_n hx hb dX4_addReport_12 rfl (lv_at hl 1 rfl) ?_
    refine lv_iload_n hx hb dX4_addReport_13 rfl (lv_at hl 2 rfl) ?_
    refine lv_iload hx hb dX4_addReport_14 (lv_at hl 0 rfl) ?_
    refine lv_iload_n hx hb dX4_addReport_16 rfl (lv_at hl 3 rfl) ?_
    refine lv_iload_n hx hb dX4_addReport_17 rfl (lv_at hl 4 rfl) ?_
    refine u_ci (u_rV (As := [.int a0, .int x_2, .int a1, .int a2]) (rest := []) (C := RX4) S K U 2 3 (by decide) rfl rfl (c_X4_isBelowMiddle hw) (cwV 4 hts gX4_addReport_X4_isBelowMiddle rfl rfl rfl (by decide +kernel) ⟨Nat.le_of_ble_eq_true rfl, Nat.le_of_ble_eq_true rfl⟩) rfl hl.1 rfl (Nat.le_of_ble_eq_true rfl) dX4_addReport_18 ⟨Nat.zero_le _, Nat.zero_le _⟩) U (fun r_10 A_11 B_12 H locs U9 hw => ?_)
    obtain ⟨eB, hw⟩ := hw
    rw [eB] at U9
    have U := U9
    refine lv_if_eq (tgt := 28) hx hb dX4_addReport_21 (by decide) (fun c_13 => ?_) (fun c_13 => ?_)
    · have hw := hw.1 c_13
      refine lv_iconst (v := 0) hx hb dX4_addReport_28 (by decide) ?_
      refine lv_istore (lv' := [(5, .int (0 : Int32)), (4, .int x_2), (0, .ref (g.2.1 2)), (1, .int a0), (2, .int a1), (3, .int a2)]) hx hb dX4_addReport_29 hl (by decide) rfl (fun ls hl => ?_)
      refine lv_aload_n hx hb dX4_addReport_31 rfl (lv_at hl 2 rfl) ?_
      refine u_get (C := RX4) (T := TX4) (N := 12) (v := .ref (g.2.1 17)) hx hb hts hX4_addReport_X4 hown K U 2 3 (by decide) rfl rfl 6 (by decide) (hts (.fieldLink RX4 34 "TrialSearch$Trials" "reports" "[[I") (by decide +kernel)) rfl rfl dX4_addReport_32 ?_
      refine lv_iload_n hx hb dX4_addReport_35 rfl (lv_at hl 3 rfl) ?_
      obtain ⟨hi_14, hw⟩ := hw
      refine u_aald (b := 56) hx hb K U (k := 17) (by decide) (by decide) rfl rfl hi_14 dX4_addReport_36 ?_
      refine lv_iload hx hb dX4_addReport_37 (lv_at hl 1 rfl) ?_
      refine lv_iload_n hx hb dX4_addReport_39 rfl (lv_at hl 4 rfl) ?_
      obtain ⟨hi_15, hw⟩ := hw
      refine u_iast (k := (56 + a0.toNatClampNeg)) hx hb K U (urow_56 hi_14).1 (urow_56 hi_14).2.1 (urow_56 hi_14).2.2 hi_15 dX4_addReport_40 (fun H locs U => ?_)
      refine lv_aload_n hx hb dX4_addReport_41 rfl (lv_at hl 2 rfl) ?_
      refine u_get (C := RX4) (T := TX4) (N := 12) (v := .ref (g.2.1 16)) hx hb hts hX4_addReport_X4 hown K U 2 3 (by decide) rfl rfl 5 (by decide) (hts (.fieldLink RX4 29 "TrialSearch$Trials" "steps" "[I") (by decide +kernel)) rfl rfl dX4_addReport_42 ?_
      refine lv_iload_n hx hb dX4_addReport_45 rfl (lv_at hl 3 rfl) ?_
      refine lv_dup2_11 hx hb dX4_addReport_46 rfl rfl ?_
      obtain ⟨hi_16, hw⟩ := hw
      refine u_iald (k := 16) (v := ((u2 A_11 (56 + a0.toNatClampNeg) x_2.toNatClampNeg a1) 16 a0.toNatClampNeg)) hx hb K U rfl (by decide) rfl hi_16 rfl dX4_addReport_47 ?_
      refine lv_iconst (v := 1) hx hb dX4_addReport_48 (by decide) ?_
      refine lv_iadd hx hb dX4_addReport_49 ?_
      refine lv_topi (fun x_17 ex_17 => ?_)
      have hw := hw x_17 ex_17
      obtain ⟨hi_18, hw⟩ := hw
      refine u_iast (k := 16) hx hb K U rfl (by decide) rfl hi_18 dX4_addReport_50 (fun H locs U => ?_)
      refine lv_iload hx hb dX4_addReport_51 (lv_at hl 0 rfl) ?_
      refine lv_if_eq (tgt := 69) hx hb dX4_addReport_53 (by decide) (fun _ => ?_) (fun c_19 => absurd c_19 (by decide))
      refine lv_iload hx hb dX4_addReport_69 (lv_at hl 1 rfl) ?_
      exact u_iret hx hb hr hlocks U ⟨rfl, hw⟩ dX4_addReport_71
    · have hw := hw.2 c_13
      refine lv_iconst (v := 1) hx hb dX4_addReport_24 (by decide) ?_
      refine lv_goto (tgt := 29) hx hb dX4_addReport_25 (by decide) ?_
      refine lv_istore (lv' := [(5, .int (1 : Int32)), (4, .int x_2), (0, .ref (g.2.1 2)), (1, .int a0), (2, .int a1), (3, .int a2)]) hx hb dX4_addReport_29 hl (by decide) rfl (fun ls hl => ?_)
      refine lv_aload_n hx hb dX4_addReport_31 rfl (lv_at hl 2 rfl) ?_
      refine u_get (C := RX4) (T := TX4) (N := 12) (v := .ref (g.2.1 17)) hx hb hts hX4_addReport_X4 hown K U 2 3 (by decide) rfl rfl 6 (by decide) (hts (.fieldLink RX4 34 "TrialSearch$Trials" "reports" "[[I") (by decide +kernel)) rfl rfl dX4_addReport_32 ?_
      refine lv_iload_n hx hb dX4_addReport_35 rfl (lv_at hl 3 rfl) ?_
      obtain ⟨hi_20, hw⟩ := hw
      refine u_aald (b := 56) hx hb K U (k := 17) (by decide) (by decide) rfl rfl hi_20 dX4_addReport_36 ?_
      refine lv_iload hx hb dX4_addReport_37 (lv_at hl 1 rfl) ?_
      refine lv_iload_n hx hb dX4_addReport_39 rfl (lv_at hl 4 rfl) ?_
      obtain ⟨hi_21, hw⟩ := hw
      refine u_iast (k := (56 + a0.toNatClampNeg)) hx hb K U (urow_56 hi_20).1 (urow_56 hi_20).2.1 (urow_56 hi_20).2.2 hi_21 dX4_addReport_40 (fun H locs U => ?_)
      refine lv_aload_n hx hb dX4_addReport_41 rfl (lv_at hl 2 rfl) ?_
      refine u_get (C := RX4) (T := TX4) (N := 12) (v := .ref (g.2.1 16)) hx hb hts hX4_addReport_X4 hown K U 2 3 (by decide) rfl rfl 5 (by decide) (hts (.fieldLink RX4 29 "TrialSearch$Trials" "steps" "[I") (by decide +kernel)) rfl rfl dX4_addReport_42 ?_
      refine lv_iload_n hx hb dX4_addReport_45 rfl (lv_at hl 3 rfl) ?_
      refine lv_dup2_11 hx hb dX4_addReport_46 rfl rfl ?_
      obtain ⟨hi_22, hw⟩ := hw
      refine u_iald (k := 16) (v := ((u2 A_11 (56 + a0.toNatClampNeg) x_2.toNatClampNeg a1) 16 a0.toNatClampNeg)) hx hb K U rfl (by decide) rfl hi_22 rfl dX4_addReport_47 ?_
      refine lv_iconst (v := 1) hx hb dX4_addReport_48 (by decide) ?_
      refine lv_iadd hx hb dX4_addReport_49 ?_
      refine lv_topi (fun x_23 ex_23 => ?_)
      have hw := hw x_23 ex_23
      obtain ⟨hi_24, hw⟩ := hw
      refine u_iast (k := 16) hx hb K U rfl (by decide) rfl hi_24 dX4_addReport_50 (fun H locs U => ?_)
      refine lv_iload hx hb dX4_addReport_51 (lv_at hl 0 rfl) ?_
      refine lv_if_eq (tgt := 69) hx hb dX4_addReport_53 (by decide) (fun c_25 => absurd c_25 (by decide)) (fun _ => ?_)
      refine lv_aload_n hx hb dX4_addReport_56 rfl (lv_at hl 2 rfl) ?_
      refine u_get (C := RX4) (T := TX4) (N := 12) (v := .ref (g.2.1 14)) hx hb hts hX4_addReport_X4 hown K U 2 3 (by decide) rfl rfl 3 (by decide) (hts (.fieldLink RX4 22 "TrialSearch$Trials" "states" "[I") (by decide +kernel)) rfl rfl dX4_addReport_57 ?_
      refine lv_iload_n hx hb dX4_addReport_60 rfl (lv_at hl 3 rfl) ?_
      refine lv_iconst (v := 3) hx hb dX4_addReport_61 (by decide) ?_
      obtain ⟨hi_26, hw⟩ := hw
      refine u_iast (k := 14) hx hb K U rfl (by decide) rfl hi_26 dX4_addReport_62 (fun H locs U => ?_)
      refine lv_bipush (v := -10) hx hb dX4_addReport_63 (by decide) ?_
      refine lv_iload hx hb dX4_addReport_65 (lv_at hl 1 rfl) ?_
      refine lv_isub hx hb dX4_addReport_67 ?_
      exact u_iret hx hb hr hlocks U ⟨rfl, hw⟩ dX4_addReport_68
set_option maxHeartbeats 4000000 in
set_option maxRecDepth 100000 in
theorem t_X4_firstGreatest_5 {p : Program} {l : Launch} {e : Env} {s : State} {m : MethodId} {args : Array Value} {below : List Frame} {meth : Method} {c : Code} {g : uG} {E50 : Int32 → Prop} {Q : Int32 → Prop} {A : SA} {B : SB} (C : uC p s m args meth c cX4_firstGreatest 3 RX4 wsX4_firstGreatest (some .int)) (K : UK g s) :
    ∀ {n : Nat} {v1 : Int32} {v2 : Int32} {H : Heap} {locs : List Loc} {ls : Array Slot}, wp_X4_firstGreatest_5 E50 Q A B n v1 v2 → UU g A B s.heap H locs → lv_has ls 3 [(0, .ref (g.2.1 2)), (1, .int v1), (2, .int v2)] → (∀ (v1 : Int32) (H : Heap) (locs : List Loc) (ls : Array Slot), UU g A B s.heap H locs → lv_has ls 3 [(1, .int v1)] → E50 v1 → W p l e rmX4_firstGreatest s m args below meth c H locs 0 0 (MQ below (uQi g (fun r A1 B1 => A1 = A ∧ B1 = B ∧ Q r )) args s 0 0 (FA g)) (F0 m 50 ls [])) → W p l e rmX4_firstGreatest s m args below meth c H locs 0 0 (MQ below (uQi g (fun r A1 B1 => A1 = A ∧ B1 = B ∧ Q r )) args s 0 0 (FA g)) (F0 m 5 ls []) := by
  obtain ⟨hx, hb, hml, hown, hts, hr, hlocks⟩ := id C
  have S : CallFix p m c cX4_firstGreatest 3 s args wsX4_firstGreatest RX4 := ⟨hx, hb, hml, hown, hts⟩
  intro n
  induction n with
  | zero => intro _ _ _ _ _ hw; exact False.elim hw
  | succ n ih =>
    intro v1 v2 H locs ls hw U hl h50
    refine lv_iload_n hx hb dX4_firstGreatest_5 rfl (lv_at hl 2 rfl) ?_
    refine lv_aload_n hx hb dX4_firstGreatest_6 rfl (lv_at hl 0 rfl) ?_
    refine u_get (C := RX4) (T := TX4) (N := 12) (v := .int (A 2 0)) hx hb hts hX4_firstGreatest_X4 hown K U 2 3 (by decide) rfl rfl 0 (by decide) (hts (.fieldLink RX4 9 "TrialSearch$Trials" "made" "I") (by decide +kernel)) rfl rfl dX4_firstGreatest_7 ?_
    refine lv_icmp_ge (tgt := 50) hx hb dX4_firstGreatest_10 (by decide) (fun c_1 => ?_) (fun c_1 => ?_)
    · have hw := hw.1 c_1
      exact h50 _ _ _ _ U (lv_sub hl [1] rfl) hw
    · have hw := hw.2 c_1
      refine lv_aload_n hx hb dX4_firstGreatest_13 rfl (lv_at hl 0 rfl) ?_
      refine u_get (C := RX4) (T := TX4) (N := 12) (v := .ref (g.2.1 14)) hx hb hts hX4_firstGreatest_X4 hown K U 2 3 (by decide) rfl rfl 3 (by decide) (hts (.fieldLink RX4 22 "TrialSearch$Trials" "states" "[I") (by decide +kernel)) rfl rfl dX4_firstGreatest_14 ?_
      refine lv_iload_n hx hb dX4_firstGreatest_17 rfl (lv_at hl 2 rfl) ?_
      obtain ⟨hi_2, hw⟩ := hw
      refine u_iald (k := 14) (v := (A 14 v2.toNatClampNeg)) hx hb K U rfl (by decide) rfl hi_2 rfl dX4_firstGreatest_18 ?_
      refine lv_iconst (v := 1) hx hb dX4_firstGreatest_19 (by decide) ?_
      refine lv_icmp_ne (tgt := 44) hx hb dX4_firstGreatest_20 (by decide) (fun c_3 => ?_) (fun c_3 => ?_)
      · have hw := hw.1 c_3
        obtain ⟨v2_4, ev2_4⟩ : ∃ y : Int32, y = v2 + 1 := ⟨_, rfl⟩
        have hw := hw v2_4 ev2_4
        refine lv_iinc (v := v2_4) (lv' := [(2, .int v2_4), (0, .ref (g.2.1 2)), (1, .int v1)]) hx hb dX4_firstGreatest_44 hl (k := 2) rfl (by rw [ev2_4]; rfl) (by decide) rfl (fun ls hl => ?_)
        refine lv_goto (tgt := 5) hx hb dX4_firstGreatest_47 (by decide) ?_
        exact ih hw U (lv_sub hl [1, 2, 0] rfl) h50
      · have hw := hw.2 c_3
        refine lv_iload_n hx hb dX4_firstGreatest_23 rfl (lv_at hl 1 rfl) ?_
        refine lv_if_lt (tgt := 42) hx hb dX4_firstGreatest_24 (by decide) (fun c_5 => ?_) (fun c_5 => ?_)
        · have hw := hw.1 c_5
          refine lv_iload_n hx hb dX4_firstGreatest_42 rfl (lv_at hl 2 rfl) ?_
          refine lv_istore_n (lv' := [(1, .int v2), (0, .ref (g.2.1 2)), (2, .int v2)]) hx hb dX4_firstGreatest_43 rfl hl (by decide) rfl (fun ls hl => ?_)
          obtain ⟨v2_6, ev2_6⟩ : ∃ y : Int32, y = v2 + 1 := ⟨_, rfl⟩
          have hw := hw v2_6 ev2_6
          refine lv_iinc (v := v2_6) (lv' := [(2, .int v2_6), (1, .int v2), (0, .ref (g.2.1 2))]) hx hb dX4_firstGreatest_44 hl (k := 2) rfl (by rw [ev2_6]; rfl) (by decide) rfl (fun ls hl => ?_)
          refine lv_goto (tgt := 5) hx hb dX4_firstGreatest_47 (by decide) ?_
          exact ih hw U (lv_sub hl [2, 1, 0] rfl) h50
        · have hw := hw.2 c_5
          refine lv_aload_n hx hb dX4_firstGreatest_27 rfl (lv_at hl 0 rfl) ?_
          refine u_get (C := RX4) (T := TX4) (N := 12) (v := .ref (g.2.1 15)) hx hb hts hX4_firstGreatest_X4 hown K U 2 3 (by decide) rfl rfl 4 (by decide) (hts (.fieldLink RX4 26 "TrialSearch$Trials" "scores" "[I") (by decide +kernel)) rfl rfl dX4_firstGreatest_28 ?_
          refine lv_iload_n hx hb dX4_firstGreatest_31 rfl (lv_at hl 2 rfl) ?_
          obtain ⟨hi_7, hw⟩ := hw
          refine u_iald (k := 15) (v := (A 15 v2.toNatClampNeg)) hx hb K U rfl (by decide) rfl hi_7 rfl dX4_firstGreatest_32 ?_
          refine lv_aload_n hx hb dX4_firstGreatest_33 rfl (lv_at hl 0 rfl) ?_
          refine u_get (C := RX4) (T := TX4) (N := 12) (v := .ref (g.2.1 15)) hx hb hts hX4_firstGreatest_X4 hown K U 2 3 (by decide) rfl rfl 4 (by decide) (hts (.fieldLink RX4 26 "TrialSearch$Trials" "scores" "[I") (by decide +kernel)) rfl rfl dX4_firstGreatest_34 ?_
          refine lv_iload_n hx hb dX4_firstGreatest_37 rfl (lv_at hl 1 rfl) ?_
          obtain ⟨hi_8, hw⟩ := hw
          refine u_iald (k := 15) (v := (A 15 v1.toNatClampNeg)) hx hb K U rfl (by decide) rfl hi_8 rfl dX4_firstGreatest_38 ?_
          refine lv_icmp_le (tgt := 44) hx hb dX4_firstGreatest_39 (by decide) (fun c_9 => ?_) (fun c_9 => ?_)
          · have hw := hw.1 c_9
            obtain ⟨v2_10, ev2_10⟩ : ∃ y : Int32, y = v2 + 1 := ⟨_, rfl⟩
            have hw := hw v2_10 ev2_10
            refine lv_iinc (v := v2_10) (lv' := [(2, .int v2_10), (0, .ref (g.2.1 2)), (1, .int v1)]) hx hb dX4_firstGreatest_44 hl (k := 2) rfl (by rw [ev2_10]; rfl) (by decide) rfl (fun ls hl => ?_)
            refine lv_goto (tgt := 5) hx hb dX4_firstGreatest_47 (by decide) ?_
            exact ih hw U (lv_sub hl [1, 2, 0] rfl) h50
          · have hw := hw.2 c_9
            refine lv_iload_n hx hb dX4_firstGreatest_42 rfl (lv_at hl 2 rfl) ?_
            refine lv_istore_n (lv' := [(1, .int v2), (0, .ref (g.2.1 2)), (2, .int v2)]) hx hb dX4_firstGreatest_43 rfl hl (by decide) rfl (fun ls hl => ?_)
            obtain ⟨v2_11, ev2_11⟩ : ∃ y : Int32, y = v2 + 1 := ⟨_, rfl⟩
            have hw := hw v2_11 ev2_11
            refine lv_iinc (v := v2_11) (lv' := [(2, .int v2_11), (1, .int v2), (0, .ref (g.2.1 2))]) hx hb dX4_firstGreatest_44 hl (k := 2) rfl (by rw [ev2_11]; rfl) (by decide) rfl (fun ls hl => ?_)
            refine lv_goto (tgt := 5) hx hb dX4_firstGreatest_47 (by decide) ?_
            exact ih hw U (lv_sub hl [2, 1, 0] rfl) h50
set_option maxHeartbeats 4000000 in
set_option maxRecDepth 100000 in
theorem c_X4_firstGreatest {l : Launch} {g : uG}  {A : SA} {B : SB} {Q : Int32 → Prop} (hw : wp_X4_firstGreatest  A B Q) : MI l yX4_firstGreatest wsX4_firstGreatest rmX4_firstGreatest g A B [.ref (g.2.1 2)] (fun r A1 B1 => A1 = A ∧ B1 = B ∧ Q r ) := by
  refine u_of (cc := cX4_firstGreatest) (maxL := 3) (ret := (some .int)) (by decide) rfl (Nat.le_of_ble_eq_true rfl) ?_
  intro p e s m below meth c ls C K U hl
  obtain ⟨hx, hb, hml, hown, hts, hr, hlocks⟩ := id C
  have S : CallFix p m c cX4_firstGreatest 3 s ([.ref (g.2.1 2)] : List Value).toArray wsX4_firstGreatest RX4 := ⟨hx, hb, hml, hown, hts⟩
  have hl : lv_has ls 3 [(0, .ref (g.2.1 2))] := hl
  refine lv_bipush (v := -2) hx hb dX4_firstGreatest_0 (by decide) ?_
  refine lv_istore_n (lv' := [(1, .int (-2 : Int32)), (0, .ref (g.2.1 2))]) hx hb dX4_firstGreatest_2 rfl hl (by decide) rfl (fun ls hl => ?_)
  refine lv_iconst (v := 0) hx hb dX4_firstGreatest_3 (by decide) ?_
  refine lv_istore_n (lv' := [(2, .int (0 : Int32)), (1, .int (-2 : Int32)), (0, .ref (g.2.1 2))]) hx hb dX4_firstGreatest_4 rfl hl (by decide) rfl (fun ls hl => ?_)
  obtain ⟨n_12, hw⟩ := hw
  refine t_X4_firstGreatest_5 C K hw U (lv_sub hl [2, 1, 0] rfl) (fun v1_13 H locs ls U hl hw => ?_)
  refine lv_iload_n hx hb dX4_firstGreatest_50 rfl (lv_at hl 0 rfl) ?_
  exact u_iret hx hb hr hlocks U ⟨rfl, rfl, hw⟩ dX4_firstGreatest_51
