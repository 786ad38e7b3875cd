set_option maxHeartbeats 4000000 in
set_option maxRecDepth 100000 in
theorem c_X6_clear {l : Launch} {g : uG} {a0 : Int32} {A : SA} {B : SB} {Q : SA → Prop} (hw : wp_X6_clear a0 A B Q) : MV l yX6_clear wsX6_clear rmX6_clear g A B [.ref (g.2.1 5), .int a0] (fun A1 B1 => B1 = B ∧ Q A1 ) := by
  refine u_of (cc := cX6_clear) (maxL := 2) (ret := none) (by decide) rfl (Nat.le_of_ble_eq_true rfl) ?_
  intro p e s m below meth c ls C K U hl
  obtain ⟨hx, hb, hml, hown, hts, hr, hlocks⟩ := id C
  have S : CallFix p m c cX6_clear 2 s ([.ref (g.2.1 5), .int a0] : List Value).toArray wsX6_clear RX6 := ⟨hx, hb, hml, hown, hts⟩
  have hl : lv_has ls 2 [(0, .ref (g.2.1 5)), (1, .int a0)] := hl
  refine lv_aload_n hx hb dX6_clear_0 rfl (lv_at hl 0 rfl) ?_
  refine u_get (C := RX6) (T := TX6) (N := 31) (v := .ref (g.2.1 42)) hx hb hts hX6_clear_X6 hown K U 5 5 (by decide) rfl rfl 17 (by decide) (hts (.fieldLink RX6 60 "TrialSearchModel" "hasResult" "[Z") (by decide +kernel)) rfl rfl dX6_clear_1 ?_
  refine lv_iload_n hx hb dX6_clear_4 rfl (lv_at hl 1 rfl) ?_
  refine lv_iconst (v := 0) hx hb dX6_clear_5 (by decide) ?_
  obtain ⟨hi_1, hw⟩ := hw
  refine u_zast (k := 42) hx hb K U rfl (by decide) rfl hi_1 dX6_clear_6 (fun H locs U => ?_)
  refine lv_aload_n hx hb dX6_clear_7 rfl (lv_at hl 0 rfl) ?_
  refine u_get (C := RX6) (T := TX6) (N := 31) (v := .ref (g.2.1 43)) hx hb hts hX6_clear_X6 hown K U 5 5 (by decide) rfl rfl 18 (by decide) (hts (.fieldLink RX6 63 "TrialSearchModel" "hasFailed" "[Z") (by decide +kernel)) rfl rfl dX6_clear_8 ?_
  refine lv_iload_n hx hb dX6_clear_11 rfl (lv_at hl 1 rfl) ?_
  refine lv_iconst (v := 0) hx hb dX6_clear_12 (by decide) ?_
  obtain ⟨hi_2, hw⟩ := hw
  refine u_zast (k := 43) hx hb K U rfl (by decide) rfl hi_2 dX6_clear_13 (fun H locs U => ?_)
  refine lv_aload_n hx hb dX6_clear_14 rfl (lv_at hl 0 rfl) ?_
  refine u_get (C := RX6) (T := TX6) (N := 31) (v := .ref (g.2.1 44)) hx hb hts hX6_clear_X6 hown K U 5 5 (by decide) rfl rfl 19 (by decide) (hts (.fieldLink RX6 66 "TrialSearchModel" "result" "[I") (by decide +kernel)) rfl rfl dX6_clear_15 ?_
  refine lv_iload_n hx hb dX6_clear_18 rfl (lv_at hl 1 rfl) ?_
  refine lv_iconst (v := 0) hx hb dX6_clear_19 (by decide) ?_
  obtain ⟨hi_3, hw⟩ := hw
  refine u_iast (k := 44) hx hb K U rfl (by decide) rfl hi_3 dX6_clear_20 (fun H locs U => ?_)
  exact u_vret hx hb hr hlocks U ⟨rfl, hw⟩ dX6_clear_21
set_option maxHeartbeats 4000000 in
set_option maxRecDepth 100000 in
theorem t_X6_bracket_91 {p : Program} {l : Launch} {e : Env} {s : State} {m : MethodId} {args : Array Value} {below : List Frame} {meth : Method} {c : Code} {g : uG} {E136 : SA → Prop} {Q : Int32 → SA → SB → Prop} {v1 : Int32} {v2 : Int32} {B : SB} (C : uC p s m args meth c cX6_bracket 6 RX6 wsX6_bracket (some .int)) (K : UK g s) :
    ∀ {n : Nat} {v5 : Int32} {A : SA} {H : Heap} {locs : List Loc} {ls : Array Slot}, wp_X6_bracket_91 E136 Q v1 v2 B n v5 A → UU g A B s.heap H locs → lv_has ls 6 [(0, .ref (g.2.1 5)), (1, .int v1), (2, .int v2), (5, .int v5)] → (∀ (A : SA) (H : Heap) (locs : List Loc) (ls : Array Slot), UU g A B s.heap H locs → lv_has ls 6 [] → E136 A → W p l e rmX6_bracket s m args below meth c H locs 0 0 (MQ below (uQi g Q) args s 0 0 (FA g)) (F0 m 136 ls [])) → W p l e rmX6_bracket s m args below meth c H locs 0 0 (MQ below (uQi g Q) args s 0 0 (FA g)) (F0 m 91 ls []) := by
  obtain ⟨hx, hb, hml, hown, hts, hr, hlocks⟩ := id C
  have S : CallFix p m c cX6_bracket 6 s args wsX6_bracket RX6 := ⟨hx, hb, hml, hown, hts⟩
  intro n
  induction n with
  | zero => intro _ _ _ _ _ hw; exact False.elim hw
  | succ n ih =>
    intro v5 A H locs ls hw U hl h136
    refine lv_iload hx hb dX6_bracket_91 (lv_at hl 3 rfl) ?_
    refine lv_bipush (v := 60) hx hb dX6_bracket_93 (by decide) ?_
    refine lv_icmp_ge (tgt := 136) hx hb dX6_bracket_95 (by decide) (fun c_17 => ?_) (fun c_17 => ?_)
    · have hw := hw.1 c_17
      exact h136 _ _ _ _ U (lv_sub hl [] rfl) hw
    · have hw := hw.2 c_17
      refine lv_aload_n hx hb dX6_bracket_98 rfl (lv_at hl 0 rfl) ?_
      refine u_get (C := RX6) (T := TX6) (N := 31) (v := .ref (g.2.1 41)) hx hb hts hX6_bracket_X6 hown K U 5 5 (by decide) rfl rfl 16 (by decide) (hts (.fieldLink RX6 57 "TrialSearchModel" "isIn" "[Z") (by decide +kernel)) rfl rfl dX6_bracket_99 ?_
      refine lv_iload hx hb dX6_bracket_102 (lv_at hl 3 rfl) ?_
      refine lv_iload hx hb dX6_bracket_104 (lv_at hl 3 rfl) ?_
      refine lv_iload_n hx hb dX6_bracket_106 rfl (lv_at hl 1 rfl) ?_
      refine lv_icmp_lt (tgt := 122) hx hb dX6_bracket_107 (by decide) (fun c_18 => ?_) (fun c_18 => ?_)
      · have hw := hw.1 c_18
        refine lv_iconst (v := 0) hx hb dX6_bracket_122 (by decide) ?_
        obtain ⟨hi_19, hw⟩ := hw
        refine u_zast (k := 41) hx hb K U rfl (by decide) rfl hi_19 dX6_bracket_123 (fun H locs U => ?_)
        refine lv_aload_n hx hb dX6_bracket_124 rfl (lv_at hl 0 rfl) ?_
        refine lv_iload hx hb dX6_bracket_125 (lv_at hl 3 rfl) ?_
        refine u_cv (u_rV (As := [.int v5]) (rest := []) (C := RX6) S K U 5 5 (by decide) rfl rfl (c_X6_clear hw) (cwV 1 hts gX6_bracket_X6_clear rfl rfl rfl (by decide +kernel) ⟨Nat.le_of_ble_eq_true rfl, Nat.le_of_ble_eq_true rfl⟩) rfl hl.1 rfl (Nat.le_of_ble_eq_true rfl) dX6_bracket_127 ⟨Nat.zero_le _, Nat.zero_le _⟩) U (fun A_21 B_22 H locs U9 hw => ?_)
        obtain ⟨eB, hw⟩ := hw
        rw [eB] at U9
        have U := U9
        obtain ⟨v5_23, ev5_23⟩ : ∃ y : Int32, y = v5 + 1 := ⟨_, rfl⟩
        have hw := hw v5_23 ev5_23
        refine lv_iinc (v := v5_23) (lv' := [(5, .int v5_23), (0, .ref (g.2.1 5)), (1, .int v1), (2, .int v2)]) hx hb dX6_bracket_130 hl (k := 3) rfl (by rw [ev5_23]; rfl) (by decide) rfl (fun ls hl => ?_)
        refine lv_goto (tgt := 91) hx hb dX6_bracket_133 (by decide) ?_
        exact ih hw U (lv_sub hl [1, 2, 3, 0] rfl) h136
      · have hw := hw.2 c_18
        refine lv_iload hx hb dX6_bracket_110 (lv_at hl 3 rfl) ?_
        refine lv_iload_n hx hb dX6_bracket_112 rfl (lv_at hl 1 rfl) ?_
        refine lv_iload_n hx hb dX6_bracket_113 rfl (lv_at hl 2 rfl) ?_
        refine lv_iadd hx hb dX6_bracket_114 ?_
        refine lv_icmp_ge (tgt := 122) hx hb dX6_bracket_115 (by decide) (fun c_24 => ?_) (fun c_24 => ?_)
        · have hw := hw.1 c_24
          refine lv_iconst (v := 0) hx hb dX6_bracket_122 (by decide) ?_
          obtain ⟨hi_25, hw⟩ := hw
          refine u_zast (k := 41) hx hb K U rfl (by decide) rfl hi_25 dX6_bracket_123 (fun H locs U => ?_)
          refine lv_aload_n hx hb dX6_bracket_124 rfl (lv_at hl 0 rfl) ?_
          refine lv_iload hx hb dX6_bracket_125 (lv_at hl 3 rfl) ?_
          refine u_cv (u_rV (As := [.int v5]) (rest := []) (C := RX6) S K U 5 5 (by decide) rfl rfl (c_X6_clear hw) (cwV 1 hts gX6_bracket_X6_clear rfl rfl rfl (by decide +kernel) ⟨Nat.le_of_ble_eq_true rfl, Nat.le_of_ble_eq_true rfl⟩) rfl hl.1 rfl (Nat.le_of_ble_eq_true rfl) dX6_bracket_127 ⟨Nat.zero_le _, Nat.zero_le _⟩) U (fun A_27 B_28 H locs U9 hw => ?_)
          obtain ⟨eB, hw⟩ := hw
          rw [eB] at U9
          have U := U9
          obtain ⟨v5_29, ev5_29⟩ : ∃ y : Int32, y = v5 + 1 := ⟨_, rfl⟩
          have hw := hw v5_29 ev5_29
          refine lv_iinc (v := v5_29) (lv' := [(5, .int v5_29), (0, .ref (g.2.1 5)), (1, .int v1), (2, .int v2)]) hx hb dX6_bracket_130 hl (k := 3) rfl (by rw [ev5_29]; rfl) (by decide) rfl (fun ls hl => ?_)
          refine lv_goto (tgt := 91) hx hb dX6_bracket_133 (by decide) ?_
          exact ih hw U (lv_sub hl [1, 2, 3, 0] rfl) h136
        · have hw := hw.2 c_24
          refine lv_iconst (v := 1) hx hb dX6_bracket_118 (by decide) ?_
          refine lv_goto (tgt := 123) hx hb dX6_bracket_119 (by decide) ?_
          obtain ⟨hi_30, hw⟩ := hw
          refine u_zast (k := 41) hx hb K U rfl (by decide) rfl hi_30 dX6_bracket_123 (fun H locs U => ?_)
          refine lv_aload_n hx hb dX6_bracket_124 rfl (lv_at hl 0 rfl) ?_
          refine lv_iload hx hb dX6_bracket_125 (lv_at hl 3 rfl) ?_
          refine u_cv (u_rV (As := [.int v5]) (rest := []) (C := RX6) S K U 5 5 (by decide) rfl rfl (c_X6_clear hw) (cwV 1 hts gX6_bracket_X6_clear rfl rfl rfl (by decide +kernel) ⟨Nat.le_of_ble_eq_true rfl, Nat.le_of_ble_eq_true rfl⟩) rfl hl.1 rfl (Nat.le_of_ble_eq_true rfl) dX6_bracket_127 ⟨Nat.zero_le _, Nat.zero_le _⟩) U (fun A_32 B_33 H locs U9 hw => ?_)
          obtain ⟨eB, hw⟩ := hw
          rw [eB] at U9
          have U := U9
          obtain ⟨v5_34, ev5_34⟩ : ∃ y : Int32, y = v5 + 1 := ⟨_, rfl⟩
          have hw := hw v5_34 ev5_34
          refine lv_iinc (v := v5_34) (lv' := [(5, .int v5_34), (0, .ref (g.2.1 5)), (1, .int v1), (2, .int v2)]) hx hb dX6_bracket_130 hl (k := 3) rfl (by rw [ev5_34]; rfl) (by decide) rfl (fun ls hl => ?_)
          refine lv_goto (tgt := 91) hx hb dX6_bracket_133 (by decide) ?_
          exact ih hw U (lv_sub hl [1, 2, 3, 0] rfl) h136
set_option maxHeartbeats 4000000 in
set_option maxRecDepth 100000 in
theorem c_X6_bracket {l : Launch} {g : uG} {a0 : Int32} {a1 : Int32} {a2 : Int32} {a3 : Int32} {A : SA} {B : SB} {Q : Int32 → SA → SB → Prop} (hw : wp_X6_bracket a0 a1 a2 a3 A B Q) : MI l yX6_bracket wsX6_bracket rmX6_bracket g A B [.ref (g.2.1 5), .int a0, .int a1, .int a2, .int a3] Q := by
  refine u_of (cc := cX6_bracket) (maxL := 6) (ret := (some .int)) (by decide) rfl (Nat.le_of_ble_eq_true rfl) ?_
  intro p e s m below meth c ls C K U hl
  obtain ⟨hx, hb, hml, hown, hts, hr, hlocks⟩ := id C
  have S : CallFix p m c cX6_bracket 6 s ([.ref (g.2.1 5), .int a0, .int a1, .int a2, .int a3] : List Value).toArray wsX6_bracket RX6 := ⟨hx, hb, hml, hown, hts⟩
  have hl : lv_has ls 6 [(0, .ref (g.2.1 5)), (1, .int a0), (2, .int a1), (3, .int a2), (4, .int a3)] := hl
  refine lv_iload_n hx hb dX6_bracket_0 rfl (lv_at hl 2 rfl) ?_
  refine lv_i2l hx hb dX6_bracket_1 rfl ?_
  refine lv_lconst (v := 1) hx hb dX6_bracket_2 (by decide) ?_
  refine lv_ldc2 (v := 60) hx hb hown (hts (.constantLong RX6 169 (60)) (by decide +kernel)) dX6_bracket_3 ?_
  refine u_ci (u_rS (As := [.long a1.toInt64, .long (1 : Int64), .long (60 : Int64)]) (rest := []) S K U (c_X6_in hw) (va_cwS 3 hts gX6_bracket_X6_in rfl rfl rfl (by decide +kernel) ⟨Nat.le_of_ble_eq_true rfl, Nat.le_of_ble_eq_true rfl⟩) rfl hl.1 rfl (Nat.le_of_ble_eq_true rfl) dX6_bracket_6 ⟨Nat.zero_le _, Nat.zero_le _⟩) U (fun r_1 A_2 B_3 H locs U9 hw => ?_)
  obtain ⟨eA, eB, hw⟩ := hw
  rw [eA, eB] at U9
  have U := U9
  refine lv_if_eq (tgt := 55) hx hb dX6_bracket_9 (by decide) (fun c_4 => ?_) (fun c_4 => ?_)
  · have hw := hw.1 c_4
    refine lv_iconst (v := -1) hx hb dX6_bracket_55 (by decide) ?_
    exact u_iret hx hb hr hlocks U hw dX6_bracket_56
  · have hw := hw.2 c_4
    refine lv_iload_n hx hb dX6_bracket_12 rfl (lv_at hl 1 rfl) ?_
    refine lv_i2l hx hb dX6_bracket_13 rfl ?_
    refine lv_lconst (v := 0) hx hb dX6_bracket_14 (by decide) ?_
    refine lv_aload_n hx hb dX6_bracket_15 rfl (lv_at hl 0 rfl) ?_
    refine u_get (C := RX6) (T := TX6) (N := 31) (v := .int (A 5 6)) hx hb hts hX6_bracket_X6 hown K U 5 5 (by decide) rfl rfl 6 (by decide) (hts (.fieldLink RX6 92 "TrialSearchModel" "trials" "I") (by decide +kernel)) rfl rfl dX6_bracket_16 ?_
    refine lv_iload_n hx hb dX6_bracket_19 rfl (lv_at hl 2 rfl) ?_
    refine lv_isub hx hb dX6_bracket_20 ?_
    refine lv_i2l hx hb dX6_bracket_21 rfl ?_
    refine u_ci (u_rS (As := [.long a0.toInt64, .long (0 : Int64), .long ((A 5 6) - a1).toInt64]) (rest := []) S K U (c_X6_in hw) (va_cwS 3 hts gX6_bracket_X6_in rfl rfl rfl (by decide +kernel) ⟨Nat.le_of_ble_eq_true rfl, Nat.le_of_ble_eq_true rfl⟩) rfl hl.1 rfl (Nat.le_of_ble_eq_true rfl) dX6_bracket_22 ⟨Nat.zero_le _, Nat.zero_le _⟩) U (fun r_5 A_6 B_7 H locs U9 hw => ?_)
    obtain ⟨eA, eB, hw⟩ := hw
    rw [eA, eB] at U9
    have U := U9
    refine lv_if_eq (tgt := 55) hx hb dX6_bracket_25 (by decide) (fun c_8 => ?_) (fun c_8 => ?_)
    · have hw := hw.1 c_8
      refine lv_iconst (v := -1) hx hb dX6_bracket_55 (by decide) ?_
      exact u_iret hx hb hr hlocks U hw dX6_bracket_56
    · have hw := hw.2 c_8
      refine lv_iload_n hx hb dX6_bracket_28 rfl (lv_at hl 3 rfl) ?_
      refine lv_i2l hx hb dX6_bracket_29 rfl ?_
      refine lv_lconst (v := 1) hx hb dX6_bracket_30 (by decide) ?_
      refine lv_ldc2 (v := 1000000) hx hb hown (hts (.constantLong RX6 160 (1000000)) (by decide +kernel)) dX6_bracket_31 ?_
      refine u_ci (u_rS (As := [.long a2.toInt64, .long (1 : Int64), .long (1000000 : Int64)]) (rest := []) S K U (c_X6_in hw) (va_cwS 3 hts gX6_bracket_X6_in rfl rfl rfl (by decide +kernel) ⟨Nat.le_of_ble_eq_true rfl, Nat.le_of_ble_eq_true rfl⟩) rfl hl.1 rfl (Nat.le_of_ble_eq_true rfl) dX6_bracket_34 ⟨Nat.zero_le _, Nat.zero_le _⟩) U (fun r_9 A_10 B_11 H locs U9 hw => ?_)
      obtain ⟨eA, eB, hw⟩ := hw
      rw [eA, eB] at U9
      have U := U9
      refine lv_if_eq (tgt := 55) hx hb dX6_bracket_37 (by decide) (fun c_12 => ?_) (fun c_12 => ?_)
      · have hw := hw.1 c_12
        refine lv_iconst (v := -1) hx hb dX6_bracket_55 (by decide) ?_
        exact u_iret hx hb hr hlocks U hw dX6_bracket_56
      · have hw := hw.2 c_12
        refine lv_iload hx hb dX6_bracket_40 (lv_at hl 4 rfl) ?_
        refine lv_i2l hx hb dX6_bracket_42 rfl ?_
        refine lv_ldc2 (v := 2) hx hb hown (hts (.constantLong RX6 129 (2)) (by decide +kernel)) dX6_bracket_43 ?_
        refine lv_ldc2 (v := 5) hx hb hown (hts (.constantLong RX6 144 (5)) (by decide +kernel)) dX6_bracket_46 ?_
        refine u_ci (u_rS (As := [.long a3.toInt64, .long (2 : Int64), .long (5 : Int64)]) (rest := []) S K U (c_X6_in hw) (va_cwS 3 hts gX6_bracket_X6_in rfl rfl rfl (by decide +kernel) ⟨Nat.le_of_ble_eq_true rfl, Nat.le_of_ble_eq_true rfl⟩) rfl hl.1 rfl (Nat.le_of_ble_eq_true rfl) dX6_bracket_49 ⟨Nat.zero_le _, Nat.zero_le _⟩) U (fun r_13 A_14 B_15 H locs U9 hw => ?_)
        obtain ⟨eA, eB, hw⟩ := hw
        rw [eA, eB] at U9
        have U := U9
        refine lv_if_ne (tgt := 57) hx hb dX6_bracket_52 (by decide) (fun c_16 => ?_) (fun c_16 => ?_)
        · have hw := hw.1 c_16
          refine lv_aload_n hx hb dX6_bracket_57 rfl (lv_at hl 0 rfl) ?_
          refine lv_iconst (v := 1) hx hb dX6_bracket_58 (by decide) ?_
          refine u_puti (ty := .boolean) (C := RX6) (T := TX6) (N := 31) hx hb hts hX6_bracket_X6 tyX6 tyX6_ok nmX6 hown K U 5 5 (by decide) rfl rfl 15 (by decide) (hts (.fieldLink RX6 176 "TrialSearchModel" "isBracket" "Z") (by decide +kernel)) rfl rfl (by decide +kernel) (by decide +kernel) (by decide +kernel) (Nat.le_of_ble_eq_true rfl) rfl dX6_bracket_59 (fun H locs U => ?_)
          refine lv_aload_n hx hb dX6_bracket_62 rfl (lv_at hl 0 rfl) ?_
          refine lv_iload_n hx hb dX6_bracket_63 rfl (lv_at hl 3 rfl) ?_
          refine u_puti (ty := .int) (C := RX6) (T := TX6) (N := 31) hx hb hts hX6_bracket_X6 tyX6 tyX6_ok nmX6 hown K U 5 5 (by decide) rfl rfl 20 (by decide) (hts (.fieldLink RX6 180 "TrialSearchModel" "budget" "I") (by decide +kernel)) rfl rfl (by decide +kernel) rfl rfl (Nat.le_of_ble_eq_true rfl) rfl dX6_bracket_64 (fun H locs U => ?_)
          refine lv_aload_n hx hb dX6_bracket_67 rfl (lv_at hl 0 rfl) ?_
          refine lv_iload hx hb dX6_bracket_68 (lv_at hl 4 rfl) ?_
          refine u_puti (ty := .int) (C := RX6) (T := TX6) (N := 31) hx hb hts hX6_bracket_X6 tyX6 tyX6_ok nmX6 hown K U 5 5 (by decide) rfl rfl 21 (by decide) (hts (.fieldLink RX6 183 "TrialSearchModel" "factor" "I") (by decide +kernel)) rfl rfl (by decide +kernel) rfl rfl (Nat.le_of_ble_eq_true rfl) rfl dX6_bracket_70 (fun H locs U => ?_)
          refine lv_aload_n hx hb dX6_bracket_73 rfl (lv_at hl 0 rfl) ?_
          refine lv_iconst (v := 0) hx hb dX6_bracket_74 (by decide) ?_
          refine u_puti (ty := .int) (C := RX6) (T := TX6) (N := 31) hx hb hts hX6_bracket_X6 tyX6 tyX6_ok nmX6 hown K U 5 5 (by decide) rfl rfl 22 (by decide) (hts (.fieldLink RX6 186 "TrialSearchModel" "halved" "I") (by decide +kernel)) rfl rfl (by decide +kernel) rfl rfl (Nat.le_of_ble_eq_true rfl) rfl dX6_bracket_75 (fun H locs U => ?_)
          refine lv_aload_n hx hb dX6_bracket_78 rfl (lv_at hl 0 rfl) ?_
          refine lv_iconst (v := 0) hx hb dX6_bracket_79 (by decide) ?_
          refine u_puti (ty := .boolean) (C := RX6) (T := TX6) (N := 31) hx hb hts hX6_bracket_X6 tyX6 tyX6_ok nmX6 hown K U 5 5 (by decide) rfl rfl 23 (by decide) (hts (.fieldLink RX6 189 "TrialSearchModel" "isOver" "Z") (by decide +kernel)) rfl rfl (by decide +kernel) (by decide +kernel) (by decide +kernel) (Nat.le_of_ble_eq_true rfl) rfl dX6_bracket_80 (fun H locs U => ?_)
          refine lv_aload_n hx hb dX6_bracket_83 rfl (lv_at hl 0 rfl) ?_
          refine lv_lconst (v := 0) hx hb dX6_bracket_84 (by decide) ?_
          refine u_putl (ty := .long) (C := RX6) (T := TX6) (N := 31) hx hb hts hX6_bracket_X6 tyX6 tyX6_ok nmX6 hown K U 5 5 (by decide) rfl rfl 24 (by decide) (hts (.fieldLink RX6 192 "TrialSearchModel" "cost" "J") (by decide +kernel)) rfl rfl (by decide +kernel) rfl rfl (Nat.le_of_ble_eq_true rfl) rfl dX6_bracket_85 (fun H locs U => ?_)
          refine lv_iconst (v := 0) hx hb dX6_bracket_88 (by decide) ?_
          refine lv_istore (lv' := [(5, .int (0 : Int32)), (0, .ref (g.2.1 5)), (1, .int a0), (2, .int a1), (3, .int a2), (4, .int a3)]) hx hb dX6_bracket_89 hl (by decide) rfl (fun ls hl => ?_)
          obtain ⟨n_35, hw⟩ := hw
          refine t_X6_bracket_91 C K hw U (lv_sub hl [1, 2, 3, 0] rfl) (fun A_36 H locs ls U hl hw => ?_)
          refine lv_iconst (v := 1) hx hb dX6_bracket_136 (by decide) ?_
          exact u_iret hx hb hr hlocks U hw dX6_bracket_137
        · have hw := hw.2 c_16
          refine lv_iconst (v := -1) hx hb dX6_bracket_55 (by decide) ?_
          exact u_iret hx hb hr hlocks U hw dX6_bracket_56
set_option maxHeartbeats 4000000 in
set_option maxRecDepth 100000 in
theorem t_X6_open_4 {p : Program} {l : Launch} {e : Env} {s : State} {m : MethodId} {args : Array Value} {below : List Frame} {meth : Method} {c : Code} {g : uG} {E51 : Int32 → Prop} {Q : Int32 → Prop} {A : SA} {B : SB} (C : uC p s m args meth c cX6_open 3 RX6 wsX6_open (some .int)) (K : UK g s) :
    ∀ {n : Nat} {v1 : Int32} {v2 : Int32} {H : Heap} {locs : List Loc} {ls : Array Slot}, wp_X6_open_4 E51 Q A B n v1 v2 → UU g A B s.heap H locs → lv_has ls 3 [(0, .ref (g.2.1 5)), (1, .int v1), (2, .int v2)] → (∀ (v1 : Int32) (H : Heap) (locs : List Loc) (ls : Array Slot), UU g A B s.heap H locs → lv_has ls 3 [(1, .int v1)] → E51 v1 → W p l e rmX6_open s m args below meth c H locs 0 0 (MQ below (uQi g (fun r A1 B1 => A1 = A ∧ B1 = B ∧ Q r )) args s 0 0 (FA g)) (F0 m 51 ls [])) → W p l e rmX6_open s m args below meth c H locs 0 0 (MQ below (uQi g (fun r A1 B1 => A1 = A ∧ B1 = B ∧ Q r )) args s 0 0 (FA g)) (F0 m 4 ls []) := by
  obtain ⟨hx, hb, hml, hown, hts, hr, hlocks⟩ := id C
  have S : CallFix p m c cX6_open 3 s args wsX6_open RX6 := ⟨hx, hb, hml, hown, hts⟩
  intro n
  induction n with
  | zero => intro _ _ _ _ _ hw; exact False.elim hw
  | succ n ih =>
    intro v1 v2 H locs ls hw U hl h51
    refine lv_iload_n hx hb dX6_open_4 rfl (lv_at hl 2 rfl) ?_
    refine lv_bipush (v := 60) hx hb dX6_open_5 (by decide) ?_
    refine lv_icmp_ge (tgt := 51) hx hb dX6_open_7 (by decide) (fun c_1 => ?_) (fun c_1 => ?_)
    · have hw := hw.1 c_1
      exact h51 _ _ _ _ U (lv_sub hl [1] rfl) hw
    · have hw := hw.2 c_1
      refine lv_iload_n hx hb dX6_open_10 rfl (lv_at hl 1 rfl) ?_
      refine lv_aload_n hx hb dX6_open_11 rfl (lv_at hl 0 rfl) ?_
      refine u_get (C := RX6) (T := TX6) (N := 31) (v := .ref (g.2.1 41)) hx hb hts hX6_open_X6 hown K U 5 5 (by decide) rfl rfl 16 (by decide) (hts (.fieldLink RX6 57 "TrialSearchModel" "isIn" "[Z") (by decide +kernel)) rfl rfl dX6_open_12 ?_
      refine lv_iload_n hx hb dX6_open_15 rfl (lv_at hl 2 rfl) ?_
      obtain ⟨hi_2, hw⟩ := hw
      refine u_zald (k := 41) (v := (A 41 v2.toNatClampNeg)) hx hb K U rfl (by decide) rfl hi_2 rfl dX6_open_16 ?_
      refine lv_if_eq (tgt := 42) hx hb dX6_open_17 (by decide) (fun c_3 => ?_) (fun c_3 => ?_)
      · have hw := hw.1 c_3
        refine lv_iconst (v := 0) hx hb dX6_open_42 (by decide) ?_
        refine lv_iadd hx hb dX6_open_43 ?_
        refine lv_topi (fun x_4 ex_4 => ?_)
        have hw := hw x_4 ex_4
        refine lv_istore_n (lv' := [(1, .int x_4), (0, .ref (g.2.1 5)), (2, .int v2)]) hx hb dX6_open_44 rfl hl (by decide) rfl (fun ls hl => ?_)
        obtain ⟨v2_5, ev2_5⟩ : ∃ y : Int32, y = v2 + 1 := ⟨_, rfl⟩
        have hw := hw v2_5 ev2_5
        refine lv_iinc (v := v2_5) (lv' := [(2, .int v2_5), (1, .int x_4), (0, .ref (g.2.1 5))]) hx hb dX6_open_45 hl (k := 2) rfl (by rw [ev2_5]; rfl) (by decide) rfl (fun ls hl => ?_)
        refine lv_goto (tgt := 4) hx hb dX6_open_48 (by decide) ?_
        exact ih hw U (lv_sub hl [2, 1, 0] rfl) h51
      · have hw := hw.2 c_3
        refine lv_aload_n hx hb dX6_open_20 rfl (lv_at hl 0 rfl) ?_
        refine u_get (C := RX6) (T := TX6) (N := 31) (v := .ref (g.2.1 42)) hx hb hts hX6_open_X6 hown K U 5 5 (by decide) rfl rfl 17 (by decide) (hts (.fieldLink RX6 60 "TrialSearchModel" "hasResult" "[Z") (by decide +kernel)) rfl rfl dX6_open_21 ?_
        refine lv_iload_n hx hb dX6_open_24 rfl (lv_at hl 2 rfl) ?_
        obtain ⟨hi_6, hw⟩ := hw
        refine u_zald (k := 42) (v := (A 42 v2.toNatClampNeg)) hx hb K U rfl (by decide) rfl hi_6 rfl dX6_open_25 ?_
        refine lv_if_ne (tgt := 42) hx hb dX6_open_26 (by decide) (fun c_7 => ?_) (fun c_7 => ?_)
        · have hw := hw.1 c_7
          refine lv_iconst (v := 0) hx hb dX6_open_42 (by decide) ?_
          refine lv_iadd hx hb dX6_open_43 ?_
          refine lv_topi (fun x_8 ex_8 => ?_)
          have hw := hw x_8 ex_8
          refine lv_istore_n (lv' := [(1, .int x_8), (0, .ref (g.2.1 5)), (2, .int v2)]) hx hb dX6_open_44 rfl hl (by decide) rfl (fun ls hl => ?_)
          obtain ⟨v2_9, ev2_9⟩ : ∃ y : Int32, y = v2 + 1 := ⟨_, rfl⟩
          have hw := hw v2_9 ev2_9
          refine lv_iinc (v := v2_9) (lv' := [(2, .int v2_9), (1, .int x_8), (0, .ref (g.2.1 5))]) hx hb dX6_open_45 hl (k := 2) rfl (by rw [ev2_9]; rfl) (by decide) rfl (fun ls hl => ?_)
          refine lv_goto (tgt := 4) hx hb dX6_open_48 (by decide) ?_
          exact ih hw U (lv_sub hl [2, 1, 0] rfl) h51
        · have hw := hw.2 c_7
          refine lv_aload_n hx hb dX6_open_29 rfl (lv_at hl 0 rfl) ?_
          refine u_get (C := RX6) (T := TX6) (N := 31) (v := .ref (g.2.1 43)) hx hb hts hX6_open_X6 hown K U 5 5 (by decide) rfl rfl 18 (by decide) (hts (.fieldLink RX6 63 "TrialSearchModel" "hasFailed" "[Z") (by decide +kernel)) rfl rfl dX6_open_30 ?_
          refine lv_iload_n hx hb dX6_open_33 rfl (lv_at hl 2 rfl) ?_
          obtain ⟨hi_10, hw⟩ := hw
          refine u_zald (k := 43) (v := (A 43 v2.toNatClampNeg)) hx hb K U rfl (by decide) rfl hi_10 rfl dX6_open_34 ?_
          refine lv_if_ne (tgt := 42) hx hb dX6_open_35 (by decide) (fun c_11 => ?_) (fun c_11 => ?_)
          · have hw := hw.1 c_11
            refine lv_iconst (v := 0) hx hb dX6_open_42 (by decide) ?_
            refine lv_iadd hx hb dX6_open_43 ?_
            refine lv_topi (fun x_12 ex_12 => ?_)
            have hw := hw x_12 ex_12
            refine lv_istore_n (lv' := [(1, .int x_12), (0, .ref (g.2.1 5)), (2, .int v2)]) hx hb dX6_open_44 rfl hl (by decide) rfl (fun ls hl => ?_)
            obtain ⟨v2_13, ev2_13⟩ : ∃ y : Int32, y = v2 + 1 := ⟨_, rfl⟩
            have hw := hw v2_13 ev2_13
            refine lv_iinc (v := v2_13) (lv' := [(2, .int v2_13), (1, .int x_12), (0, .ref (g.2.1 5))]) hx hb dX6_open_45 hl (k := 2) rfl (by rw [ev2_13]; rfl) (by decide) rfl (fun ls hl => ?_)
            refine lv_goto (tgt := 4) hx hb dX6_open_48 (by decide) ?_
            exact ih hw U (lv_sub hl [2, 1, 0] rfl) h51
          · have hw := hw.2 c_11
            refine lv_iconst (v := 1) hx hb dX6_open_38 (by decide) ?_
            refine lv_goto (tgt := 43) hx hb dX6_open_39 (by decide) ?_
            refine lv_iadd hx hb dX6_open_43 ?_
            refine lv_topi (fun x_14 ex_14 => ?_)
            have hw := hw x_14 ex_14
            refine lv_istore_n (lv' := [(1, .int x_14), (0, .ref (g.2.1 5)), (2, .int v2)]) hx hb dX6_open_44 rfl hl (by decide) rfl (fun ls hl => ?_)
            obtain ⟨v2_15, ev2_15⟩ : ∃ y : Int32, y = v2 + 1 := ⟨_, rfl⟩
            have hw := hw v2_15 ev2_15
            refine lv_iinc (v := v2_15) (lv' := [(2, .int v2_15), (1, .int x_14), (0, .ref (g.2.1 5))]) hx hb dX6_open_45 hl (k := 2) rfl (by rw [ev2_15]; rfl) (by decide) rfl (fun ls hl => ?_)
            refine lv_goto (tgt := 4) hx hb dX6_open_48 (by decide) ?_
            exact ih hw U (lv_sub hl [2, 1, 0] rfl) h51
set_option maxHeartbeats 4000000 in
set_option maxRecDepth 100000 in
theorem c_X6_open {l : Launch} {g : uG}  {A : SA} {B : SB} {Q : Int32 → Prop} (hw : wp_X6_open  A B Q) : MI l yX6_open wsX6_open rmX6_open g A B [.ref (g.2.1 5)] (fun r A1 B1 => A1 = A ∧ B1 = B ∧ Q r ) := by
  refine u_of (cc := cX6_open) (maxL := 3) (ret := (some .int)) (by decide) rfl (Nat.le_of_ble_eq_true rfl) ?_
  intro p e s m below meth c ls C K U hl
  obtain ⟨hx, hb, hml, hown, hts, hr, hlocks⟩ := id C
  have S : CallFix p m c cX6_open 3 s ([.ref (g.2.1 5)] : List Value).toArray wsX6_open RX6 := ⟨hx, hb, hml, hown, hts⟩
  have hl : lv_has ls 3 [(0, .ref (g.2.1 5))] := hl
  refine lv_iconst (v := 0) hx hb dX6_open_0 (by decide) ?_
  refine lv_istore_n (lv' := [(1, .int (0 : Int32)), (0, .ref (g.2.1 5))]) hx hb dX6_open_1 rfl hl (by decide) rfl (fun ls hl => ?_)
  refine lv_iconst (v := 0) hx hb dX6_open_2 (by decide) ?_
  refine lv_istore_n (lv' := [(2, .int (0 : Int32)), (1, .int (0 : Int32)), (0, .ref (g.2.1 5))]) hx hb dX6_open_3 rfl hl (by decide) rfl (fun ls hl => ?_)
  obtain ⟨n_16, hw⟩ := hw
  refine t_X6_open_4 C K hw U (lv_sub hl [2, 1, 0] rfl) (fun v1_17 H locs ls U hl hw => ?_)
  refine lv_iload_n hx hb dX6_open_51 rfl (lv_at hl 0 rfl) ?_
  exact u_iret hx hb hr hlocks U ⟨rfl, rfl, hw⟩ dX6_open_52
set_option maxHeartbeats 4000000 in
set_option maxRecDepth 100000 in
theorem t_X6_inside_4 {p : Program} {l : Launch} {e : Env} {s : State} {m : MethodId} {args : Array Value} {below : List Frame} {meth : Method} {c : Code} {g : uG} {E33 : Int32 → Prop} {Q : Int32 → Prop} {A : SA} {B : SB} (C : uC p s m args meth c cX6_inside 3 RX6 wsX6_inside (some .int)) (K : UK g s) :
    ∀ {n : Nat} {v1 : Int32} {v2 : Int32} {H : Heap} {locs : List Loc} {ls : Array Slot}, wp_X6_inside_4 E33 Q A B n v1 v2 → UU g A B s.heap H locs → lv_has ls 3 [(0, .ref (g.2.1 5)), (1, .int v1), (2, .int v2)] → (∀ (v1 : Int32) (H : Heap) (locs : List Loc) (ls : Array Slot), UU g A B s.heap H locs → lv_has ls 3 [(1, .int v1)] → E33 v1 → W p l e rmX6_inside s m args below meth c H locs 0 0 (MQ below (uQi g (fun r A1 B1 => A1 = A ∧ B1 = B ∧ Q r )) args s 0 0 (FA g)) (F0 m 33 ls [])) → W p l e rmX6_inside s m args below meth c H locs 0 0 (MQ below (uQi g (fun r A1 B1 => A1 = A ∧ B1 = B ∧ Q r )) args s 0 0 (FA g)) (F0 m 4 ls []) := by
  obtain ⟨hx, hb, hml, hown, hts, hr, hlocks⟩ := id C
  have S : CallFix p m c cX6_inside 3 s args wsX6_inside RX6 := ⟨hx, hb, hml, hown, hts⟩
  intro n
  induction n with
  | zero => intro _ _ _ _ _ hw; exact False.elim hw
  | succ n ih =>
    intro v1 v2 H locs ls hw U hl h33
    refine lv_iload_n hx hb dX6_inside_4 rfl (lv_at hl 2 rfl) ?_
    refine lv_bipush (v := 60) hx hb dX6_inside_5 (by decide) ?_
    refine lv_icmp_ge (tgt := 33) hx hb dX6_inside_7 (by decide) (fun c_1 => ?_) (fun c_1 => ?_)
    · have hw := hw.1 c_1
      exact h33 _ _ _ _ U (lv_sub hl [1] rfl) hw
    · have hw := hw.2 c_1
      refine lv_iload_n hx hb dX6_inside_10 rfl (lv_at hl 1 rfl) ?_
      refine lv_aload_n hx hb dX6_inside_11 rfl (lv_at hl 0 rfl) ?_
      refine u_get (C := RX6) (T := TX6) (N := 31) (v := .ref (g.2.1 41)) hx hb hts hX6_inside_X6 hown K U 5 5 (by decide) rfl rfl 16 (by decide) (hts (.fieldLink RX6 57 "TrialSearchModel" "isIn" "[Z") (by decide +kernel)) rfl rfl dX6_inside_12 ?_
      refine lv_iload_n hx hb dX6_inside_15 rfl (lv_at hl 2 rfl) ?_
      obtain ⟨hi_2, hw⟩ := hw
      refine u_zald (k := 41) (v := (A 41 v2.toNatClampNeg)) hx hb K U rfl (by decide) rfl hi_2 rfl dX6_inside_16 ?_
      refine lv_if_eq (tgt := 24) hx hb dX6_inside_17 (by decide) (fun c_3 => ?_) (fun c_3 => ?_)
      · have hw := hw.1 c_3
        refine lv_iconst (v := 0) hx hb dX6_inside_24 (by decide) ?_
        refine lv_iadd hx hb dX6_inside_25 ?_
        refine lv_topi (fun x_4 ex_4 => ?_)
        have hw := hw x_4 ex_4
        refine lv_istore_n (lv' := [(1, .int x_4), (0, .ref (g.2.1 5)), (2, .int v2)]) hx hb dX6_inside_26 rfl hl (by decide) rfl (fun ls hl => ?_)
        obtain ⟨v2_5, ev2_5⟩ : ∃ y : Int32, y = v2 + 1 := ⟨_, rfl⟩
        have hw := hw v2_5 ev2_5
        refine lv_iinc (v := v2_5) (lv' := [(2, .int v2_5), (1, .int x_4), (0, .ref (g.2.1 5))]) hx hb dX6_inside_27 hl (k := 2) rfl (by rw [ev2_5]; rfl) (by decide) rfl (fun ls hl => ?_)
        refine lv_goto (tgt := 4) hx hb dX6_inside_30 (by decide) ?_
        exact ih hw U (lv_sub hl [2, 1, 0] rfl) h33
      · have hw := hw.2 c_3
        refine lv_iconst (v := 1) hx hb dX6_inside_20 (by decide) ?_
        refine lv_goto (tgt := 25) hx hb dX6_inside_21 (by decide) ?_
        refine lv_iadd hx hb dX6_inside_25 ?_
        refine lv_topi (fun x_6 ex_6 => ?_)
        have hw := hw x_6 ex_6
        refine lv_istore_n (lv' := [(1, .int x_6), (0, .ref (g.2.1 5)), (2, .int v2)]) hx hb dX6_inside_26 rfl hl (by decide) rfl (fun ls hl => ?_)
        obtain ⟨v2_7, ev2_7⟩ : ∃ y : Int32, y = v2 + 1 := ⟨_, rfl⟩
        have hw := hw v2_7 ev2_7
        refine lv_iinc (v := v2_7) (lv' := [(2, .int v2_7), (1, .int x_6), (0, .ref (g.2.1 5))]) hx hb dX6_inside_27 hl (k := 2) rfl (by rw [ev2_7]; rfl) (by decide) rfl (fun ls hl => ?_)
        refine lv_goto (tgt := 4) hx hb dX6_inside_30 (by decide) ?_
        exact ih hw U (lv_sub hl [2, 1, 0] rfl) h33
set_option maxHeartbeats 4000000 in
set_option maxRecDepth 100000 in
theorem c_X6_inside {l : Launch} {g : uG}  {A : SA} {B : SB} {Q : Int32 → Prop} (hw : wp_X6_inside  A B Q) : MI l yX6_inside wsX6_inside rmX6_inside g A B [.ref (g.2.1 5)] (fun r A1 B1 => A1 = A ∧ B1 = B ∧ Q r ) := by
  refine u_of (cc := cX6_inside) (maxL := 3) (ret := (some .int)) (by decide) rfl (Nat.le_of_ble_eq_true rfl) ?_
  intro p e s m below meth c ls C K U hl
  obtain ⟨hx, hb, hml, hown, hts, hr, hlocks⟩ := id C
  have S : CallFix p m c cX6_inside 3 s ([.ref (g.2.1 5)] : List Value).toArray wsX6_inside RX6 := ⟨hx, hb, hml, hown, hts⟩
  have hl : lv_has ls 3 [(0, .ref (g.2.1 5))] := hl
  refine lv_iconst (v := 0) hx hb dX6_inside_0 (by decide) ?_
  refine lv_istore_n (lv' := [(1, .int (0 : Int32)), (0, .ref (g.2.1 5))]) hx hb dX6_inside_1 rfl hl (by decide) rfl (fun ls hl => ?_)
  refine lv_iconst (v := 0) hx hb dX6_inside_2 (by decide) ?_
  refine lv_istore_n (lv' := [(2, .int (0 : Int32)), (1, .int (0 : Int32)), (0, .ref (g.2.1 5))]) hx hb dX6_inside_3 rfl hl (by decide) rfl (fun ls hl => ?_)
  obtain ⟨n_8, hw⟩ := hw
  refine t_X6_inside_4 C K hw U (lv_sub hl [2, 1, 0] rfl) (fun v1_9 H locs ls U hl hw => ?_)
  refine lv_iload_n hx hb dX6_inside_33 rfl (lv_at hl 0 rfl) ?_
  exact u_iret hx hb hr hlocks U ⟨rfl, rfl, hw⟩ dX6_inside_34
set_option maxHeartbeats 4000000 in
set_option maxRecDepth 100000 in
theorem c_X6_result {l : Launch} {g : uG} {a0 : Int32} {a1 : Int32} {a2 : Int32} {A : SA} {B : SB} {Q : Int32 → SA → SB → Prop} (hw : wp_X6_result a0 a1 a2 A B Q) : MI l yX6_result wsX6_result rmX6_result g A B [.ref (g.2.1 5), .int a0, .int a1, .int a2] Q := by
  refine u_of (cc := cX6_result) (maxL := 4) (ret := (some .int)) (by decide) rfl (Nat.le_of_ble_eq_true rfl) ?_
  intro p e s m below meth c ls C K U hl
  obtain ⟨hx, hb, hml, hown, hts, hr, hlocks⟩ := id C
  have S : CallFix p m c cX6_result 4 s ([.ref (g.2.1 5), .int a0, .int a1, .int a2] : List Value).toArray wsX6_result RX6 := ⟨hx, hb, hml, hown, hts⟩
  have hl : lv_has ls 4 [(0, .ref (g.2.1 5)), (1, .int a0), (2, .int a1), (3, .int a2)] := hl
  refine lv_aload_n hx hb dX6_result_0 rfl (lv_at hl 0 rfl) ?_
  refine lv_iload_n hx hb dX6_result_1 rfl (lv_at hl 1 rfl) ?_
  refine u_ci (u_rV (As := [.int a0]) (rest := []) (C := RX6) S K U 5 5 (by decide) rfl rfl (c_X6_noTrial hw) (cwV 1 hts gX6_result_X6_noTrial rfl rfl rfl (by decide +kernel) ⟨Nat.le_of_ble_eq_true rfl, Nat.le_of_ble_eq_true rfl⟩) rfl hl.1 rfl (Nat.le_of_ble_eq_true rfl) dX6_result_2 ⟨Nat.zero_le _, Nat.zero_le _⟩) U (fun r_1 A_2 B_3 H locs U9 hw => ?_)
  obtain ⟨eA, eB, hw⟩ := hw
  rw [eA, eB] at U9
  have U := U9
  refine lv_if_ne (tgt := 19) hx hb dX6_result_5 (by decide) (fun c_4 => ?_) (fun c_4 => ?_)
  · have hw := hw.1 c_4
    refine lv_iconst (v := -1) hx hb dX6_result_19 (by decide) ?_
    exact u_iret hx hb hr hlocks U hw dX6_result_20
  · have hw := hw.2 c_4
    refine lv_iload_n hx hb dX6_result_8 rfl (lv_at hl 3 rfl) ?_
    refine lv_if_eq (tgt := 21) hx hb dX6_result_9 (by decide) (fun c_5 => ?_) (fun c_5 => ?_)
    · have hw := hw.1 c_5
      refine lv_aload_n hx hb dX6_result_21 rfl (lv_at hl 0 rfl) ?_
      refine u_get (C := RX6) (T := TX6) (N := 31) (v := .int (A 5 15)) hx hb hts hX6_result_X6 hown K U 5 5 (by decide) rfl rfl 15 (by decide) (hts (.fieldLink RX6 176 "TrialSearchModel" "isBracket" "Z") (by decide +kernel)) rfl rfl dX6_result_22 ?_
      refine lv_if_eq (tgt := 55) hx hb dX6_result_25 (by decide) (fun c_6 => ?_) (fun c_6 => ?_)
      · have hw := hw.1 c_6
        refine lv_bipush (v := -3) hx hb dX6_result_55 (by decide) ?_
        exact u_iret hx hb hr hlocks U hw dX6_result_57
      · have hw := hw.2 c_6
        refine lv_aload_n hx hb dX6_result_28 rfl (lv_at hl 0 rfl) ?_
        refine u_get (C := RX6) (T := TX6) (N := 31) (v := .ref (g.2.1 41)) hx hb hts hX6_result_X6 hown K U 5 5 (by decide) rfl rfl 16 (by decide) (hts (.fieldLink RX6 57 "TrialSearchModel" "isIn" "[Z") (by decide +kernel)) rfl rfl dX6_result_29 ?_
        refine lv_iload_n hx hb dX6_result_32 rfl (lv_at hl 1 rfl) ?_
        obtain ⟨hi_7, hw⟩ := hw
        refine u_zald (k := 41) (v := (A 41 a0.toNatClampNeg)) hx hb K U rfl (by decide) rfl hi_7 rfl dX6_result_33 ?_
        refine lv_if_eq (tgt := 55) hx hb dX6_result_34 (by decide) (fun c_8 => ?_) (fun c_8 => ?_)
        · have hw := hw.1 c_8
          refine lv_bipush (v := -3) hx hb dX6_result_55 (by decide) ?_
          exact u_iret hx hb hr hlocks U hw dX6_result_57
        · have hw := hw.2 c_8
          refine lv_aload_n hx hb dX6_result_37 rfl (lv_at hl 0 rfl) ?_
          refine u_get (C := RX6) (T := TX6) (N := 31) (v := .ref (g.2.1 42)) hx hb hts hX6_result_X6 hown K U 5 5 (by decide) rfl rfl 17 (by decide) (hts (.fieldLink RX6 60 "TrialSearchModel" "hasResult" "[Z") (by decide +kernel)) rfl rfl dX6_result_38 ?_
          refine lv_iload_n hx hb dX6_result_41 rfl (lv_at hl 1 rfl) ?_
          obtain ⟨hi_9, hw⟩ := hw
          refine u_zald (k := 42) (v := (A 42 a0.toNatClampNeg)) hx hb K U rfl (by decide) rfl hi_9 rfl dX6_result_42 ?_
          refine lv_if_ne (tgt := 55) hx hb dX6_result_43 (by decide) (fun c_10 => ?_) (fun c_10 => ?_)
          · have hw := hw.1 c_10
            refine lv_bipush (v := -3) hx hb dX6_result_55 (by decide) ?_
            exact u_iret hx hb hr hlocks U hw dX6_result_57
          · have hw := hw.2 c_10
            refine lv_aload_n hx hb dX6_result_46 rfl (lv_at hl 0 rfl) ?_
            refine u_get (C := RX6) (T := TX6) (N := 31) (v := .ref (g.2.1 43)) hx hb hts hX6_result_X6 hown K U 5 5 (by decide) rfl rfl 18 (by decide) (hts (.fieldLink RX6 63 "TrialSearchModel" "hasFailed" "[Z") (by decide +kernel)) rfl rfl dX6_result_47 ?_
            refine lv_iload_n hx hb dX6_result_50 rfl (lv_at hl 1 rfl) ?_
            obtain ⟨hi_11, hw⟩ := hw
            refine u_zald (k := 43) (v := (A 43 a0.toNatClampNeg)) hx hb K U rfl (by decide) rfl hi_11 rfl dX6_result_51 ?_
            refine lv_if_eq (tgt := 58) hx hb dX6_result_52 (by decide) (fun c_12 => ?_) (fun c_12 => ?_)
            · have hw := hw.1 c_12
              refine lv_aload_n hx hb dX6_result_58 rfl (lv_at hl 0 rfl) ?_
              refine u_get (C := RX6) (T := TX6) (N := 31) (v := .ref (g.2.1 42)) hx hb hts hX6_result_X6 hown K U 5 5 (by decide) rfl rfl 17 (by decide) (hts (.fieldLink RX6 60 "TrialSearchModel" "hasResult" "[Z") (by decide +kernel)) rfl rfl dX6_result_59 ?_
              refine lv_iload_n hx hb dX6_result_62 rfl (lv_at hl 1 rfl) ?_
              refine lv_iload_n hx hb dX6_result_63 rfl (lv_at hl 3 rfl) ?_
              obtain ⟨hi_13, hw⟩ := hw
              refine u_zast (k := 42) hx hb K U rfl (by decide) rfl hi_13 dX6_result_64 (fun H locs U => ?_)
              refine lv_aload_n hx hb dX6_result_65 rfl (lv_at hl 0 rfl) ?_
              refine u_get (C := RX6) (T := TX6) (N := 31) (v := .ref (g.2.1 43)) hx hb hts hX6_result_X6 hown K U 5 5 (by decide) rfl rfl 18 (by decide) (hts (.fieldLink RX6 63 "TrialSearchModel" "hasFailed" "[Z") (by decide +kernel)) rfl rfl dX6_result_66 ?_
              refine lv_iload_n hx hb dX6_result_69 rfl (lv_at hl 1 rfl) ?_
              refine lv_iload_n hx hb dX6_result_70 rfl (lv_at hl 3 rfl) ?_
              refine lv_if_ne (tgt := 78) hx hb dX6_result_71 (by decide) (fun c_14 => ?_) (fun c_14 => ?_)
              · have hw := hw.1 c_14
                refine lv_iconst (v := 0) hx hb dX6_result_78 (by decide) ?_
                obtain ⟨hi_15, hw⟩ := hw
                refine u_zast (k := 43) hx hb K U rfl (by decide) rfl hi_15 dX6_result_79 (fun H locs U => ?_)
                refine lv_aload_n hx hb dX6_result_80 rfl (lv_at hl 0 rfl) ?_
                refine u_get (C := RX6) (T := TX6) (N := 31) (v := .ref (g.2.1 44)) hx hb hts hX6_result_X6 hown K U 5 5 (by decide) rfl rfl 19 (by decide) (hts (.fieldLink RX6 66 "TrialSearchModel" "result" "[I") (by decide +kernel)) rfl rfl dX6_result_81 ?_
                refine lv_iload_n hx hb dX6_result_84 rfl (lv_at hl 1 rfl) ?_
                refine lv_iload_n hx hb dX6_result_85 rfl (lv_at hl 3 rfl) ?_
                refine lv_if_eq (tgt := 93) hx hb dX6_result_86 (by decide) (fun c_16 => ?_) (fun c_16 => ?_)
                · have hw := hw.1 c_16
                  refine lv_iconst (v := 0) hx hb dX6_result_93 (by decide) ?_
                  obtain ⟨hi_17, hw⟩ := hw
                  refine u_iast (k := 44) hx hb K U rfl (by decide) rfl hi_17 dX6_result_94 (fun H locs U => ?_)
                  refine lv_aload_n hx hb dX6_result_95 rfl (lv_at hl 0 rfl) ?_
                  refine lv_dup hx hb dX6_result_96 rfl ?_
                  refine u_get (C := RX6) (T := TX6) (N := 31) (v := .long (B 5 24)) hx hb hts hX6_result_X6 hown K U 5 5 (by decide) rfl rfl 24 (by decide) (hts (.fieldLink RX6 192 "TrialSearchModel" "cost" "J") (by decide +kernel)) rfl rfl dX6_result_97 ?_
                  refine lv_aload_n hx hb dX6_result_100 rfl (lv_at hl 0 rfl) ?_
                  refine u_get (C := RX6) (T := TX6) (N := 31) (v := .int (A 5 20)) hx hb hts hX6_result_X6 hown K U 5 5 (by decide) rfl rfl 20 (by decide) (hts (.fieldLink RX6 180 "TrialSearchModel" "budget" "I") (by decide +kernel)) rfl rfl dX6_result_101 ?_
                  refine lv_i2l hx hb dX6_result_104 rfl ?_
                  refine lv_ladd hx hb dX6_result_105 ?_
                  refine lv_topl (fun x_18 ex_18 => ?_)
                  have hw := hw x_18 ex_18
                  refine u_putl (ty := .long) (C := RX6) (T := TX6) (N := 31) hx hb hts hX6_result_X6 tyX6 tyX6_ok nmX6 hown K U 5 5 (by decide) rfl rfl 24 (by decide) (hts (.fieldLink RX6 192 "TrialSearchModel" "cost" "J") (by decide +kernel)) rfl rfl (by decide +kernel) rfl rfl (Nat.le_of_ble_eq_true rfl) rfl dX6_result_106 (fun H locs U => ?_)
                  refine lv_aload_n hx hb dX6_result_109 rfl (lv_at hl 0 rfl) ?_
                  refine u_ci (u_rV (As := []) (rest := []) (C := RX6) S K U 5 5 (by decide) rfl rfl (c_X6_open hw) (cwV 0 hts gX6_result_X6_open rfl rfl rfl (by decide +kernel) ⟨Nat.le_of_ble_eq_true rfl, Nat.le_of_ble_eq_true rfl⟩) rfl hl.1 rfl (Nat.le_of_ble_eq_true rfl) dX6_result_110 ⟨Nat.zero_le _, Nat.zero_le _⟩) U (fun r_19 A_20 B_21 H locs U9 hw => ?_)
                  obtain ⟨eA, eB, hw⟩ := hw
                  rw [eA, eB] at U9
                  have U := U9
                  exact u_iret hx hb hr hlocks U hw dX6_result_113
                · have hw := hw.2 c_16
                  refine lv_iload_n hx hb dX6_result_89 rfl (lv_at hl 2 rfl) ?_
                  refine lv_goto (tgt := 94) hx hb dX6_result_90 (by decide) ?_
                  obtain ⟨hi_22, hw⟩ := hw
                  refine u_iast (k := 44) hx hb K U rfl (by decide) rfl hi_22 dX6_result_94 (fun H locs U => ?_)
                  refine lv_aload_n hx hb dX6_result_95 rfl (lv_at hl 0 rfl) ?_
                  refine lv_dup hx hb dX6_result_96 rfl ?_
                  refine u_get (C := RX6) (T := TX6) (N := 31) (v := .long (B 5 24)) hx hb hts hX6_result_X6 hown K U 5 5 (by decide) rfl rfl 24 (by decide) (hts (.fieldLink RX6 192 "TrialSearchModel" "cost" "J") (by decide +kernel)) rfl rfl dX6_result_97 ?_
                  refine lv_aload_n hx hb dX6_result_100 rfl (lv_at hl 0 rfl) ?_
                  refine u_get (C := RX6) (T := TX6) (N := 31) (v := .int (A 5 20)) hx hb hts hX6_result_X6 hown K U 5 5 (by decide) rfl rfl 20 (by decide) (hts (.fieldLink RX6 180 "TrialSearchModel" "budget" "I") (by decide +kernel)) rfl rfl dX6_result_101 ?_
                  refine lv_i2l hx hb dX6_result_104 rfl ?_
                  refine lv_ladd hx hb dX6_result_105 ?_
                  refine lv_topl (fun x_23 ex_23 => ?_)
                  have hw := hw x_23 ex_23
                  refine u_putl (ty := .long) (C := RX6) (T := TX6) (N := 31) hx hb hts hX6_result_X6 tyX6 tyX6_ok nmX6 hown K U 5 5 (by decide) rfl rfl 24 (by decide) (hts (.fieldLink RX6 192 "TrialSearchModel" "cost" "J") (by decide +kernel)) rfl rfl (by decide +kernel) rfl rfl (Nat.le_of_ble_eq_true rfl) rfl dX6_result_106 (fun H locs U => ?_)
                  refine lv_aload_n hx hb dX6_result_109 rfl (lv_at hl 0 rfl) ?_
                  refine u_ci (u_rV (As := []) (rest := []) (C := RX6) S K U 5 5 (by decide) rfl rfl (c_X6_open hw) (cwV 0 hts gX6_result_X6_open rfl rfl rfl (by decide +kernel) ⟨Nat.le_of_ble_eq_true rfl, Nat.le_of_ble_eq_true rfl⟩) rfl hl.1 rfl (Nat.le_of_ble_eq_true rfl) dX6_result_110 ⟨Nat.zero_le _, Nat.zero_le _⟩) U (fun r_24 A_25 B_26 H locs U9 hw => ?_)
                  obtain ⟨eA, eB, hw⟩ := hw
                  rw [eA, eB] at U9
                  have U := U9
                  exact u_iret hx hb hr hlocks U hw dX6_result_113
              · have hw := hw.2 c_14
                refine lv_iconst (v := 1) hx hb dX6_result_74 (by decide) ?_
                refine lv_goto (tgt := 79) hx hb dX6_result_75 (by decide) ?_
                obtain ⟨hi_27, hw⟩ := hw
                refine u_zast (k := 43) hx hb K U rfl (by decide) rfl hi_27 dX6_result_79 (fun H locs U => ?_)
                refine lv_aload_n hx hb dX6_result_80 rfl (lv_at hl 0 rfl) ?_
                refine u_get (C := RX6) (T := TX6) (N := 31) (v := .ref (g.2.1 44)) hx hb hts hX6_result_X6 hown K U 5 5 (by decide) rfl rfl 19 (by decide) (hts (.fieldLink RX6 66 "TrialSearchModel" "result" "[I") (by decide +kernel)) rfl rfl dX6_result_81 ?_
                refine lv_iload_n hx hb dX6_result_84 rfl (lv_at hl 1 rfl) ?_
                refine lv_iload_n hx hb dX6_result_85 rfl (lv_at hl 3 rfl) ?_
                refine lv_if_eq (tgt := 93) hx hb dX6_result_86 (by decide) (fun c_28 => ?_) (fun c_28 => ?_)
                · have hw := hw.1 c_28
                  refine lv_iconst (v := 0) hx hb dX6_result_93 (by decide) ?_
                  obtain ⟨hi_29, hw⟩ := hw
                  refine u_iast (k := 44) hx hb K U rfl (by decide) rfl hi_29 dX6_result_94 (fun H locs U => ?_)
                  refine lv_aload_n hx hb dX6_result_95 rfl (lv_at hl 0 rfl) ?_
                  refine lv_dup hx hb dX6_result_96 rfl ?_
                  refine u_get (C := RX6) (T := TX6) (N := 31) (v := .long (B 5 24)) hx hb hts hX6_result_X6 hown K U 5 5 (by decide) rfl rfl 24 (by decide) (hts (.fieldLink RX6 192 "TrialSearchModel" "cost" "J") (by decide +kernel)) rfl rfl dX6_result_97 ?_
                  refine lv_aload_n hx hb dX6_result_100 rfl (lv_at hl 0 rfl) ?_
                  refine u_get (C := RX6) (T := TX6) (N := 31) (v := .int (A 5 20)) hx hb hts hX6_result_X6 hown K U 5 5 (by decide) rfl rfl 20 (by decide) (hts (.fieldLink RX6 180 "TrialSearchModel" "budget" "I") (by decide +kernel)) rfl rfl dX6_result_101 ?_
                  refine lv_i2l hx hb dX6_result_104 rfl ?_
                  refine lv_ladd hx hb dX6_result_105 ?_
                  refine lv_topl (fun x_30 ex_30 => ?_)
                  have hw := hw x_30 ex_30
                  refine u_putl (ty := .long) (C := RX6) (T := TX6) (N := 31) hx hb hts hX6_result_X6 tyX6 tyX6_ok nmX6 hown K U 5 5 (by decide) rfl rfl 24 (by decide) (hts (.fieldLink RX6 192 "TrialSearchModel" "cost" "J") (by decide +kernel)) rfl rfl (by decide +kernel) rfl rfl (Nat.le_of_ble_eq_true rfl) rfl dX6_result_106 (fun H locs U => ?_)
                  refine lv_aload_n hx hb dX6_result_109 rfl (lv_at hl 0 rfl) ?_
                  refine u_ci (u_rV (As := []) (rest := []) (C := RX6) S K U 5 5 (by decide) rfl rfl (c_X6_open hw) (cwV 0 hts gX6_result_X6_open rfl rfl rfl (by decide +kernel) ⟨Nat.le_of_ble_eq_true rfl, Nat.le_of_ble_eq_true rfl⟩) rfl hl.1 rfl (Nat.le_of_ble_eq_true rfl) dX6_result_110 ⟨Nat.zero_le _, Nat.zero_le _⟩) U (fun r_31 A_32 B_33 H locs U9 hw => ?_)
                  obtain ⟨eA, eB, hw⟩ := hw
                  rw [eA, eB] at U9
                  have U := U9
                  exact u_iret hx hb hr hlocks U hw dX6_result_113
                · have hw := hw.2 c_28
                  refine lv_iload_n hx hb dX6_result_89 rfl (lv_at hl 2 rfl) ?_
                  refine lv_goto (tgt := 94) hx hb dX6_result_90 (by decide) ?_
                  obtain ⟨hi_34, hw⟩ := hw
                  refine u_iast (k := 44) hx hb K U rfl (by decide) rfl hi_34 dX6_result_94 (fun H locs U => ?_)
                  refine lv_aload_n hx hb dX6_result_95 rfl (lv_at hl 0 rfl) ?_
                  refine lv_dup hx hb dX6_result_96 rfl ?_
                  refine u_get (C := RX6) (T := TX6) (N := 31) (v := .long (B 5 24)) hx hb hts hX6_result_X6 hown K U 5 5 (by decide) rfl rfl 24 (by decide) (hts (.fieldLink RX6 192 "TrialSearchModel" "cost" "J") (by decide +kernel)) rfl rfl dX6_result_97 ?_
                  refine lv_aload_n hx hb dX6_result_100 rfl (lv_at hl 0 rfl) ?_
                  refine u_get (C := RX6) (T := TX6) (N := 31) (v := .int (A 5 20)) hx hb hts hX6_result_X6 hown K U 5 5 (by decide) rfl rfl 20 (by decide) (hts (.fieldLink RX6 180 "TrialSearchModel" "budget" "I") (by decide +kernel)) rfl rfl dX6_result_101 ?_
                  refine lv_i2l hx hb dX6_result_104 rfl ?_
                  refine lv_ladd hx hb dX6_result_105 ?_
                  refine lv_topl (fun x_35 ex_35 => ?_)
                  have hw := hw x_35 ex_35
                  refine u_putl (ty := .long) (C := RX6) (T := TX6) (N := 31) hx hb hts hX6_result_X6 tyX6 tyX6_ok nmX6 hown K U 5 5 (by decide) rfl rfl 24 (by decide) (hts (.fieldLink RX6 192 "TrialSearchModel" "cost" "J") (by decide +kernel)) rfl rfl (by decide +kernel) rfl rfl (Nat.le_of_ble_eq_true rfl) rfl dX6_result_106 (fun H locs U => ?_)
                  refine lv_aload_n hx hb dX6_result_109 rfl (lv_at hl 0 rfl) ?_
                  refine u_ci (u_rV (As := []) (rest := []) (C := RX6) S K U 5 5 (by decide) rfl rfl (c_X6_open hw) (cwV 0 hts gX6_result_X6_open rfl rfl rfl (by decide +kernel) ⟨Nat.le_of_ble_eq_true rfl, Nat.le_of_ble_eq_true rfl⟩) rfl hl.1 rfl (Nat.le_of_ble_eq_true rfl) dX6_result_110 ⟨Nat.zero_le _, Nat.zero_le _⟩) U (fun r_36 A_37 B_38 H locs U9 hw => ?_)
                  obtain ⟨eA, eB, hw⟩ := hw
                  rw [eA, eB] at U9
                  have U := U9
                  exact u_iret hx hb hr hlocks U hw dX6_result_113
            · have hw := hw.2 c_12
              refine lv_bipush (v := -3) hx hb dX6_result_55 (by decide) ?_
              exact u_iret hx hb hr hlocks U hw dX6_result_57
    · have hw := hw.2 c_5
      refine lv_iload_n hx hb dX6_result_12 rfl (lv_at hl 2 rfl) ?_
      refine u_ci (u_rS (As := [.int a1]) (rest := []) S K U (c_X6_isScore hw) (va_cwS 1 hts gX6_result_X6_isScore rfl rfl rfl (by decide +kernel) ⟨Nat.le_of_ble_eq_true rfl, Nat.le_of_ble_eq_true rfl⟩) rfl hl.1 rfl (Nat.le_of_ble_eq_true rfl) dX6_result_13 ⟨Nat.zero_le _, Nat.zero_le _⟩) U (fun r_39 A_40 B_41 H locs U9 hw => ?_)
      obtain ⟨eA, eB, hw⟩ := hw
      rw [eA, eB] at U9
      have U := U9
      refine lv_if_ne (tgt := 21) hx hb dX6_result_16 (by decide) (fun c_42 => ?_) (fun c_42 => ?_)
      · have hw := hw.1 c_42
        refine lv_aload_n hx hb dX6_result_21 rfl (lv_at hl 0 rfl) ?_
        refine u_get (C := RX6) (T := TX6) (N := 31) (v := .int (A 5 15)) hx hb hts hX6_result_X6 hown K U 5 5 (by decide) rfl rfl 15 (by decide) (hts (.fieldLink RX6 176 "TrialSearchModel" "isBracket" "Z") (by decide +kernel)) rfl rfl dX6_result_22 ?_
        refine lv_if_eq (tgt := 55) hx hb dX6_result_25 (by decide) (fun c_43 => ?_) (fun c_43 => ?_)
        · have hw := hw.1 c_43
          refine lv_bipush (v := -3) hx hb dX6_result_55 (by decide) ?_
          exact u_iret hx hb hr hlocks U hw dX6_result_57
        · have hw := hw.2 c_43
          refine lv_aload_n hx hb dX6_result_28 rfl (lv_at hl 0 rfl) ?_
          refine u_get (C := RX6) (T := TX6) (N := 31) (v := .ref (g.2.1 41)) hx hb hts hX6_result_X6 hown K U 5 5 (by decide) rfl rfl 16 (by decide) (hts (.fieldLink RX6 57 "TrialSearchModel" "isIn" "[Z") (by decide +kernel)) rfl rfl dX6_result_29 ?_
          refine lv_iload_n hx hb dX6_result_32 rfl (lv_at hl 1 rfl) ?_
          obtain ⟨hi_44, hw⟩ := hw
          refine u_zald (k := 41) (v := (A 41 a0.toNatClampNeg)) hx hb K U rfl (by decide) rfl hi_44 rfl dX6_result_33 ?_
          refine lv_if_eq (tgt := 55) hx hb dX6_result_34 (by decide) (fun c_45 => ?_) (fun c_45 => ?_)
          · have hw := hw.1 c_45
            refine lv_bipush (v := -3) hx hb dX6_result_55 (by decide) ?_
            exact u_iret hx hb hr hlocks U hw dX6_result_57
          · have hw := hw.2 c_45
            refine lv_aload_n hx hb dX6_result_37 rfl (lv_at hl 0 rfl) ?_
            refine u_get (C := RX6) (T := TX6) (N := 31) (v := .ref (g.2.1 42)) hx hb hts hX6_result_X6 hown K U 5 5 (by decide) rfl rfl 17 (by decide) (hts (.fieldLink RX6 60 "TrialSearchModel" "hasResult" "[Z") (by decide +kernel)) rfl rfl dX6_result_38 ?_
            refine lv_iload_n hx hb dX6_result_41 rfl (lv_at hl 1 rfl) ?_
            obtain ⟨hi_46, hw⟩ := hw
            refine u_zald (k := 42) (v := (A 42 a0.toNatClampNeg)) hx hb K U rfl (by decide) rfl hi_46 rfl dX6_result_42 ?_
            refine lv_if_ne (tgt := 55) hx hb dX6_result_43 (by decide) (fun c_47 => ?_) (fun c_47 => ?_)
            · have hw := hw.1 c_47
              refine lv_bipush (v := -3) hx hb dX6_result_55 (by decide) ?_
              exact u_iret hx hb hr hlocks U hw dX6_result_57
            · have hw := hw.2 c_47
              refine lv_aload_n hx hb dX6_result_46 rfl (lv_at hl 0 rfl) ?_
              refine u_get (C := RX6) (T := TX6) (N := 31) (v := .ref (g.2.1 43)) hx hb hts hX6_result_X6 hown K U 5 5 (by decide) rfl rfl 18 (by decide) (hts (.fieldLink RX6 63 "TrialSearchModel" "hasFailed" "[Z") (by decide +kernel)) rfl rfl dX6_result_47 ?_
              refine lv_iload_n hx hb dX6_result_50 rfl (lv_at hl 1 rfl) ?_
              obtain ⟨hi_48, hw⟩ := hw
              refine u_zald (k := 43) (v := (A 43 a0.toNatClampNeg)) hx hb K U rfl (by decide) rfl hi_48 rfl dX6_result_51 ?_
              refine lv_if_eq (tgt := 58) hx hb dX6_result_52 (by decide) (fun c_49 => ?_) (fun c_49 => ?_)
              · have hw := hw.1 c_49
                refine lv_aload_n hx hb dX6_result_58 rfl (lv_at hl 0 rfl) ?_
                refine u_get (C := RX6) (T := TX6) (N := 31) (v := .ref (g.2.1 42)) hx hb hts hX6_result_X6 hown K U 5 5 (by decide) rfl rfl 17 (by decide) (hts (.fieldLink RX6 60 "TrialSearchModel" "hasResult" "[Z") (by decide +kernel)) rfl rfl dX6_result_59 ?_
                refine lv_iload_n hx hb dX6_result_62 rfl (lv_at hl 1 rfl) ?_
                refine lv_iload_n hx hb dX6_result_63 rfl (lv_at hl 3 rfl) ?_
                obtain ⟨hi_50, hw⟩ := hw
                refine u_zast (k := 42) hx hb K U rfl (by decide) rfl hi_50 dX6_result_64 (fun H locs U => ?_)
                refine lv_aload_n hx hb dX6_result_65 rfl (lv_at hl 0 rfl) ?_
                refine u_get (C := RX6) (T := TX6) (N := 31) (v := .ref (g.2.1 43)) hx hb hts hX6_result_X6 hown K U 5 5 (by decide) rfl rfl 18 (by decide) (hts (.fieldLink RX6 63 "TrialSearchModel" "hasFailed" "[Z") (by decide +kernel)) rfl rfl dX6_result_66 ?_
                refine lv_iload_n hx hb dX6_result_69 rfl (lv_at hl 1 rfl) ?_
                refine lv_iload_n hx hb dX6_result_70 rfl (lv_at hl 3 rfl) ?_
                refine lv_if_ne (tgt := 78) hx hb dX6_result_71 (by decide) (fun c_51 => ?_) (fun c_51 => ?_)
                · have hw := hw.1 c_51
                  refine lv_iconst (v := 0) hx hb dX6_result_78 (by decide) ?_
                  obtain ⟨hi_52, hw⟩ := hw
                  refine u_zast (k := 43) hx hb K U rfl (by decide) rfl hi_52 dX6_result_79 (fun H locs U => ?_)
                  refine lv_aload_n hx hb dX6_result_80 rfl (lv_at hl 0 rfl) ?_
                  refine u_get (C := RX6) (T := TX6) (N := 31) (v := .ref (g.2.1 44)) hx hb hts hX6_result_X6 hown K U 5 5 (by decide) rfl rfl 19 (by decide) (hts (.fieldLink RX6 66 "TrialSearchModel" "result" "[I") (by decide +kernel)) rfl rfl dX6_result_81 ?_
                  refine lv_iload_n hx hb dX6_result_84 rfl (lv_at hl 1 rfl) ?_
                  refine lv_iload_n hx hb dX6_result_85 rfl (lv_at hl 3 rfl) ?_
                  refine lv_if_eq (tgt := 93) hx hb dX6_result_86 (by decide) (fun c_53 => ?_) (fun c_53 => ?_)
                  · have hw := hw.1 c_53
                    refine lv_iconst (v := 0) hx hb dX6_result_93 (by decide) ?_
                    obtain ⟨hi_54, hw⟩ := hw
                    refine u_iast (k := 44) hx hb K U rfl (by decide) rfl hi_54 dX6_result_94 (fun H locs U => ?_)
                    refine lv_aload_n hx hb dX6_result_95 rfl (lv_at hl 0 rfl) ?_
                    refine lv_dup hx hb dX6_result_96 rfl ?_
                    refine u_get (C := RX6) (T := TX6) (N := 31) (v := .long (B 5 24)) hx hb hts hX6_result_X6 hown K U 5 5 (by decide) rfl rfl 24 (by decide) (hts (.fieldLink RX6 192 "TrialSearchModel" "cost" "J") (by decide +kernel)) rfl rfl dX6_result_97 ?_
                    refine lv_aload_n hx hb dX6_result_100 rfl (lv_at hl 0 rfl) ?_
                    refine u_get (C := RX6) (T := TX6) (N := 31) (v := .int (A 5 20)) hx hb hts hX6_result_X6 hown K U 5 5 (by decide) rfl rfl 20 (by decide) (hts (.fieldLink RX6 180 "TrialSearchModel" "budget" "I") (by decide +kernel)) rfl rfl dX6_result_101 ?_
                    refine lv_i2l hx hb dX6_result_104 rfl ?_
                    refine lv_ladd hx hb dX6_result_105 ?_
                    refine lv_topl (fun x_55 ex_55 => ?_)
                    have hw := hw x_55 ex_55
                    refine u_putl (ty := .long) (C := RX6) (T := TX6) (N := 31) hx hb hts hX6_result_X6 tyX6 tyX6_ok nmX6 hown K U 5 5 (by decide) rfl rfl 24 (by decide) (hts (.fieldLink RX6 192 "TrialSearchModel" "cost" "J") (by decide +kernel)) rfl rfl (by decide +kernel) rfl rfl (Nat.le_of_ble_eq_true rfl) rfl dX6_result_106 (fun H locs U => ?_)
                    refine lv_aload_n hx hb dX6_result_109 rfl (lv_at hl 0 rfl) ?_
                    refine u_ci (u_rV (As := []) (rest := []) (C := RX6) S K U 5 5 (by decide) rfl rfl (c_X6_open hw) (cwV 0 hts gX6_result_X6_open rfl rfl rfl (by decide +kernel) ⟨Nat.le_of_ble_eq_true rfl, Nat.le_of_ble_eq_true rfl⟩) rfl hl.1 rfl (Nat.le_of_ble_eq_true rfl) dX6_result_110 ⟨Nat.zero_le _, Nat.zero_le _⟩) U (fun r_56 A_57 B_58 H locs U9 hw => ?_)
                    obtain ⟨eA, eB, hw⟩ := hw
                    rw [eA, eB] at U9
                    have U := U9
                    exact u_iret hx hb hr hlocks U hw dX6_result_113
                  · have hw := hw.2 c_53
                    refine lv_iload_n hx hb dX6_result_89 rfl (lv_at hl 2 rfl) ?_
                    refine lv_goto (tgt := 94) hx hb dX6_result_90 (by decide) ?_
                    obtain ⟨hi_59, hw⟩ := hw
                    refine u_iast (k := 44) hx hb K U rfl (by decide) rfl hi_59 dX6_result_94 (fun H locs U => ?_)
                    refine lv_aload_n hx hb dX6_result_95 rfl (lv_at hl 0 rfl) ?_
                    refine lv_dup hx hb dX6_result_96 rfl ?_
                    refine u_get (C := RX6) (T := TX6) (N := 31) (v := .long (B 5 24)) hx hb hts hX6_result_X6 hown K U 5 5 (by decide) rfl rfl 24 (by decide) (hts (.fieldLink RX6 192 "TrialSearchModel" "cost" "J") (by decide +kernel)) rfl rfl dX6_result_97 ?_
                    refine lv_aload_n hx hb dX6_result_100 rfl (lv_at hl 0 rfl) ?_
                    refine u_get (C := RX6) (T := TX6) (N := 31) (v := .int (A 5 20)) hx hb hts hX6_result_X6 hown K U 5 5 (by decide) rfl rfl 20 (by decide) (hts (.fieldLink RX6 180 "TrialSearchModel" "budget" "I") (by decide +kernel)) rfl rfl dX6_result_101 ?_
                    refine lv_i2l hx hb dX6_result_104 rfl ?_
                    refine lv_ladd hx hb dX6_result_105 ?_
                    refine lv_topl (fun x_60 ex_60 => ?_)
                    have hw := hw x_60 ex_60
                    refine u_putl (ty := .long) (C := RX6) (T := TX6) (N := 31) hx hb hts hX6_result_X6 tyX6 tyX6_ok nmX6 hown K U 5 5 (by decide) rfl rfl 24 (by decide) (hts (.fieldLink RX6 192 "TrialSearchModel" "cost" "J") (by decide +kernel)) rfl rfl (by decide +kernel) rfl rfl (Nat.le_of_ble_eq_true rfl) rfl dX6_result_106 (fun H locs U => ?_)
                    refine lv_aload_n hx hb dX6_result_109 rfl (lv_at hl 0 rfl) ?_
                    refine u_ci (u_rV (As := []) (rest := []) (C := RX6) S K U 5 5 (by decide) rfl rfl (c_X6_open hw) (cwV 0 hts gX6_result_X6_open rfl rfl rfl (by decide +kernel) ⟨Nat.le_of_ble_eq_true rfl, Nat.le_of_ble_eq_true rfl⟩) rfl hl.1 rfl (Nat.le_of_ble_eq_true rfl) dX6_result_110 ⟨Nat.zero_le _, Nat.zero_le _⟩) U (fun r_61 A_62 B_63 H locs U9 hw => ?_)
                    obtain ⟨eA, eB, hw⟩ := hw
                    rw [eA, eB] at U9
                    have U := U9
                    exact u_iret hx hb hr hlocks U hw dX6_result_113
                · have hw := hw.2 c_51
                  refine lv_iconst (v := 1) hx hb dX6_result_74 (by decide) ?_
                  refine lv_goto (tgt := 79) hx hb dX6_result_75 (by decide) ?_
                  obtain ⟨hi_64, hw⟩ := hw
                  refine u_zast (k := 43) hx hb K U rfl (by decide) rfl hi_64 dX6_result_79 (fun H locs U => ?_)
                  refine lv_aload_n hx hb dX6_result_80 rfl (lv_at hl 0 rfl) ?_
                  refine u_get (C := RX6) (T := TX6) (N := 31) (v := .ref (g.2.1 44)) hx hb hts hX6_result_X6 hown K U 5 5 (by decide) rfl rfl 19 (by decide) (hts (.fieldLink RX6 66 "TrialSearchModel" "result" "[I") (by decide +kernel)) rfl rfl dX6_result_81 ?_
                  refine lv_iload_n hx hb dX6_result_84 rfl (lv_at hl 1 rfl) ?_
                  refine lv_iload_n hx hb dX6_result_85 rfl (lv_at hl 3 rfl) ?_
                  refine lv_if_eq (tgt := 93) hx hb dX6_result_86 (by decide) (fun c_65 => ?_) (fun c_65 => ?_)
                  · have hw := hw.1 c_65
                    refine lv_iconst (v := 0) hx hb dX6_result_93 (by decide) ?_
                    obtain ⟨hi_66, hw⟩ := hw
                    refine u_iast (k := 44) hx hb K U rfl (by decide) rfl hi_66 dX6_result_94 (fun H locs U => ?_)
                    refine lv_aload_n hx hb dX6_result_95 rfl (lv_at hl 0 rfl) ?_
                    refine lv_dup hx hb dX6_result_96 rfl ?_
                    refine u_get (C := RX6) (T := TX6) (N := 31) (v := .long (B 5 24)) hx hb hts hX6_result_X6 hown K U 5 5 (by decide) rfl rfl 24 (by decide) (hts (.fieldLink RX6 192 "TrialSearchModel" "cost" "J") (by decide +kernel)) rfl rfl dX6_result_97 ?_
                    refine lv_aload_n hx hb dX6_result_100 rfl (lv_at hl 0 rfl) ?_
                    refine u_get (C := RX6) (T := TX6) (N := 31) (v := .int (A 5 20)) hx hb hts hX6_result_X6 hown K U 5 5 (by decide) rfl rfl 20 (by decide) (hts (.fieldLink RX6 180 "TrialSearchModel" "budget" "I") (by decide +kernel)) rfl rfl dX6_result_101 ?_
                    refine lv_i2l hx hb dX6_result_104 rfl ?_
                    refine lv_ladd hx hb dX6_result_105 ?_
                    refine lv_topl (fun x_67 ex_67 => ?_)
                    have hw := hw x_67 ex_67
                    refine u_putl (ty := .long) (C := RX6) (T := TX6) (N := 31) hx hb hts hX6_result_X6 tyX6 tyX6_ok nmX6 hown K U 5 5 (by decide) rfl rfl 24 (by decide) (hts (.fieldLink RX6 192 "TrialSearchModel" "cost" "J") (by decide +kernel)) rfl rfl (by decide +kernel) rfl rfl (Nat.le_of_ble_eq_true rfl) rfl dX6_result_106 (fun H locs U => ?_)
                    refine lv_aload_n hx hb dX6_result_109 rfl (lv_at hl 0 rfl) ?_
                    refine u_ci (u_rV (As := []) (rest := []) (C := RX6) S K U 5 5 (by decide) rfl rfl (c_X6_open hw) (cwV 0 hts gX6_result_X6_open rfl rfl rfl (by decide +kernel) ⟨Nat.le_of_ble_eq_true rfl, Nat.le_of_ble_eq_true rfl⟩) rfl hl.1 rfl (Nat.le_of_ble_eq_true rfl) dX6_result_110 ⟨Nat.zero_le _, Nat.zero_le _⟩) U (fun r_68 A_69 B_70 H locs U9 hw => ?_)
                    obtain ⟨eA, eB, hw⟩ := hw
                    rw [eA, eB] at U9
                    have U := U9
                    exact u_iret hx hb hr hlocks U hw dX6_result_113
                  · have hw := hw.2 c_65
                    refine lv_iload_n hx hb dX6_result_89 rfl (lv_at hl 2 rfl) ?_
                    refine lv_goto (tgt := 94) hx hb dX6_result_90 (by decide) ?_
                    obtain ⟨hi_71, hw⟩ := hw
                    refine u_iast (k := 44) hx hb K U rfl (by decide) rfl hi_71 dX6_result_94 (fun H locs U => ?_)
                    refine lv_aload_n hx hb dX6_result_95 rfl (lv_at hl 0 rfl) ?_
                    refine lv_dup hx hb dX6_result_96 rfl ?_
                    refine u_get (C := RX6) (T := TX6) (N := 31) (v := .long (B 5 24)) hx hb hts hX6_result_X6 hown K U 5 5 (by decide) rfl rfl 24 (by decide) (hts (.fieldLink RX6 192 "TrialSearchModel" "cost" "J") (by decide +kernel)) rfl rfl dX6_result_97 ?_
                    refine lv_aload_n hx hb dX6_result_100 rfl (lv_at hl 0 rfl) ?_
                    refine u_get (C := RX6) (T := TX6) (N := 31) (v := .int (A 5 20)) hx hb hts hX6_result_X6 hown K U 5 5 (by decide) rfl rfl 20 (by decide) (hts (.fieldLink RX6 180 "TrialSearchModel" "budget" "I") (by decide +kernel)) rfl rfl dX6_result_101 ?_
                    refine lv_i2l hx hb dX6_result_104 rfl ?_
                    refine lv_ladd hx hb dX6_result_105 ?_
                    refine lv_topl (fun x_72 ex_72 => ?_)
                    have hw := hw x_72 ex_72
                    refine u_putl (ty := .long) (C := RX6) (T := TX6) (N := 31) hx hb hts hX6_result_X6 tyX6 tyX6_ok nmX6 hown K U 5 5 (by decide) rfl rfl 24 (by decide) (hts (.fieldLink RX6 192 "TrialSearchModel" "cost" "J") (by decide +kernel)) rfl rfl (by decide +kernel) rfl rfl (Nat.le_of_ble_eq_true rfl) rfl dX6_result_106 (fun H locs U => ?_)
                    refine lv_aload_n hx hb dX6_result_109 rfl (lv_at hl 0 rfl) ?_
                    refine u_ci (u_rV (As := []) (rest := []) (C := RX6) S K U 5 5 (by decide) rfl rfl (c_X6_open hw) (cwV 0 hts gX6_result_X6_open rfl rfl rfl (by decide +kernel) ⟨Nat.le_of_ble_eq_true rfl, Nat.le_of_ble_eq_true rfl⟩) rfl hl.1 rfl (Nat.le_of_ble_eq_true rfl) dX6_result_110 ⟨Nat.zero_le _, Nat.zero_le _⟩) U (fun r_73 A_74 B_75 H locs U9 hw => ?_)
                    obtain ⟨eA, eB, hw⟩ := hw
                    rw [eA, eB] at U9
                    have U := U9
                    exact u_iret hx hb hr hlocks U hw dX6_result_113
              · have hw := hw.2 c_49
                refine lv_bipush (v := -3) hx hb dX6_result_55 (by decide) ?_
                exact u_iret hx hb hr hlocks U hw dX6_result_57
      · have hw := hw.2 c_42
        refine lv_iconst (v := -1) hx hb dX6_result_19 (by decide) ?_
        exact u_iret hx hb hr hlocks U hw dX6_result_20
set_option maxHeartbeats 4000000 in
set_option maxRecDepth 100000 in
theorem t_X6_halve_47 {p : Program} {l : Launch} {e : Env} {s : State} {m : MethodId} {args : Array Value} {below : List Frame} {meth : Method} {c : Code} {g : uG} {E66 : SA → Prop} {Q : Int32 → SA → Prop} {v1 : Int32} {B : SB} (C : uC p s m args meth c cX6_halve 5 RX6 wsX6_halve (some .int)) (K : UK g s) :
    ∀ {n : Nat} {v2 : Int32} {A : SA} {H : Heap} {locs : List Loc} {ls : Array Slot}, wp_X6_halve_47 E66 Q v1 B n v2 A → UU g A B s.heap H locs → lv_has ls 5 [(0, .ref (g.2.1 5)), (1, .int v1), (2, .int v2)] → (∀ (A : SA) (H : Heap) (locs : List Loc) (ls : Array Slot), UU g A B s.heap H locs → lv_has ls 5 [(0, .ref (g.2.1 5)), (1, .int v1)] → E66 A → W p l e rmX6_halve s m args below meth c H locs 0 0 (MQ below (uQi g (fun r A1 B1 => B1 = B ∧ Q r A1 )) args s 0 0 (FA g)) (F0 m 66 ls [])) → W p l e rmX6_halve s m args below meth c H locs 0 0 (MQ below (uQi g (fun r A1 B1 => B1 = B ∧ Q r A1 )) args s 0 0 (FA g)) (F0 m 47 ls []) := by
  obtain ⟨hx, hb, hml, hown, hts, hr, hlocks⟩ := id C
  have S : CallFix p m c cX6_halve 5 s args wsX6_halve RX6 := ⟨hx, hb, hml, hown, hts⟩
  intro n
  induction n with
  | zero => intro _ _ _ _ _ hw; exact False.elim hw
  | succ n ih =>
    intro v2 A H locs ls hw U hl h66
    refine lv_iload_n hx hb dX6_halve_47 rfl (lv_at hl 2 rfl) ?_
    refine lv_bipush (v := 60) hx hb dX6_halve_48 (by decide) ?_
    refine lv_icmp_ge (tgt := 66) hx hb dX6_halve_50 (by decide) (fun c_13 => ?_) (fun c_13 => ?_)
    · have hw := hw.1 c_13
      exact h66 _ _ _ _ U (lv_sub hl [0, 1] rfl) hw
    · have hw := hw.2 c_13
      refine lv_aload_n hx hb dX6_halve_53 rfl (lv_at hl 0 rfl) ?_
      refine u_get (C := RX6) (T := TX6) (N := 31) (v := .ref (g.2.1 39)) hx hb hts hX6_halve_X6 hown K U 5 5 (by decide) rfl rfl 12 (by decide) (hts (.fieldLink RX6 50 "TrialSearchModel" "isTaken" "[Z") (by decide +kernel)) rfl rfl dX6_halve_54 ?_
      refine lv_iload_n hx hb dX6_halve_57 rfl (lv_at hl 2 rfl) ?_
      refine lv_iconst (v := 0) hx hb dX6_halve_58 (by decide) ?_
      obtain ⟨hi_14, hw⟩ := hw
      refine u_zast (k := 39) hx hb K U rfl (by decide) rfl hi_14 dX6_halve_59 (fun H locs U => ?_)
      obtain ⟨v2_15, ev2_15⟩ : ∃ y : Int32, y = v2 + 1 := ⟨_, rfl⟩
      have hw := hw v2_15 ev2_15
      refine lv_iinc (v := v2_15) (lv' := [(2, .int v2_15), (0, .ref (g.2.1 5)), (1, .int v1)]) hx hb dX6_halve_60 hl (k := 2) rfl (by rw [ev2_15]; rfl) (by decide) rfl (fun ls hl => ?_)
      refine lv_goto (tgt := 47) hx hb dX6_halve_63 (by decide) ?_
      exact ih hw U (lv_sub hl [1, 2, 0] rfl) h66
set_option maxHeartbeats 4000000 in
set_option maxRecDepth 100000 in
theorem t_X6_halve_79 {p : Program} {l : Launch} {e : Env} {s : State} {m : MethodId} {args : Array Value} {below : List Frame} {meth : Method} {c : Code} {g : uG} {E149 : Int32 → Prop} {Q : Int32 → SA → Prop} {v1 : Int32} {v2 : Int32} {A : SA} {B : SB} (C : uC p s m args meth c cX6_halve 5 RX6 wsX6_halve (some .int)) (K : UK g s) :
    ∀ {n : Nat} {v3 : Int32} {v4 : Int32} {H : Heap} {locs : List Loc} {ls : Array Slot}, wp_X6_halve_79 E149 Q v1 v2 A B n v3 v4 → UU g A B s.heap H locs → lv_has ls 5 [(0, .ref (g.2.1 5)), (1, .int v1), (2, .int v2), (3, .int v3), (4, .int v4)] → (∀ (v3 : Int32) (H : Heap) (locs : List Loc) (ls : Array Slot), UU g A B s.heap H locs → lv_has ls 5 [(0, .ref (g.2.1 5)), (1, .int v1), (2, .int v2), (3, .int v3)] → E149 v3 → W p l e rmX6_halve s m args below meth c H locs 0 0 (MQ below (uQi g (fun r A1 B1 => B1 = B ∧ Q r A1 )) args s 0 0 (FA g)) (F0 m 149 ls [])) → W p l e rmX6_halve s m args below meth c H locs 0 0 (MQ below (uQi g (fun r A1 B1 => B1 = B ∧ Q r A1 )) args s 0 0 (FA g)) (F0 m 79 ls []) := by
  obtain ⟨hx, hb, hml, hown, hts, hr, hlocks⟩ := id C
  have S : CallFix p m c cX6_halve 5 s args wsX6_halve RX6 := ⟨hx, hb, hml, hown, hts⟩
  intro n
  induction n with
  | zero => intro _ _ _ _ _ hw; exact False.elim hw
  | succ n ih =>
    intro v3 v4 H locs ls hw U hl h149
    refine lv_iload hx hb dX6_halve_79 (lv_at hl 4 rfl) ?_
    refine lv_bipush (v := 60) hx hb dX6_halve_81 (by decide) ?_
    refine lv_icmp_ge (tgt := 149) hx hb dX6_halve_83 (by decide) (fun c_19 => ?_) (fun c_19 => ?_)
    · have hw := hw.1 c_19
      exact h149 _ _ _ _ U (lv_sub hl [0, 1, 2, 3] rfl) hw
    · have hw := hw.2 c_19
      refine lv_aload_n hx hb dX6_halve_86 rfl (lv_at hl 0 rfl) ?_
      refine u_get (C := RX6) (T := TX6) (N := 31) (v := .ref (g.2.1 41)) hx hb hts hX6_halve_X6 hown K U 5 5 (by decide) rfl rfl 16 (by decide) (hts (.fieldLink RX6 57 "TrialSearchModel" "isIn" "[Z") (by decide +kernel)) rfl rfl dX6_halve_87 ?_
      refine lv_iload hx hb dX6_halve_90 (lv_at hl 4 rfl) ?_
      obtain ⟨hi_20, hw⟩ := hw
      refine u_zald (k := 41) (v := (A 41 v4.toNatClampNeg)) hx hb K U rfl (by decide) rfl hi_20 rfl dX6_halve_92 ?_
      refine lv_if_eq (tgt := 141) hx hb dX6_halve_93 (by decide) (fun c_21 => ?_) (fun c_21 => ?_)
      · have hw := hw.1 c_21
        refine lv_iload_n hx hb dX6_halve_141 rfl (lv_at hl 3 rfl) ?_
        refine lv_istore_n (lv' := [(3, .int v3), (0, .ref (g.2.1 5)), (1, .int v1), (2, .int v2), (4, .int v4)]) hx hb dX6_halve_142 rfl hl (by decide) rfl (fun ls hl => ?_)
        obtain ⟨v4_22, ev4_22⟩ : ∃ y : Int32, y = v4 + 1 := ⟨_, rfl⟩
        have hw := hw v4_22 ev4_22
        refine lv_iinc (v := v4_22) (lv' := [(4, .int v4_22), (3, .int v3), (0, .ref (g.2.1 5)), (1, .int v1), (2, .int v2)]) hx hb dX6_halve_143 hl (k := 4) rfl (by rw [ev4_22]; rfl) (by decide) rfl (fun ls hl => ?_)
        refine lv_goto (tgt := 79) hx hb dX6_halve_146 (by decide) ?_
        exact ih hw U (lv_sub hl [2, 3, 4, 1, 0] rfl) h149
      · have hw := hw.2 c_21
        refine lv_aload_n hx hb dX6_halve_96 rfl (lv_at hl 0 rfl) ?_
        refine u_get (C := RX6) (T := TX6) (N := 31) (v := .ref (g.2.1 42)) hx hb hts hX6_halve_X6 hown K U 5 5 (by decide) rfl rfl 17 (by decide) (hts (.fieldLink RX6 60 "TrialSearchModel" "hasResult" "[Z") (by decide +kernel)) rfl rfl dX6_halve_97 ?_
        refine lv_iload hx hb dX6_halve_100 (lv_at hl 4 rfl) ?_
        obtain ⟨hi_23, hw⟩ := hw
        refine u_zald (k := 42) (v := (A 42 v4.toNatClampNeg)) hx hb K U rfl (by decide) rfl hi_23 rfl dX6_halve_102 ?_
        refine lv_if_eq (tgt := 141) hx hb dX6_halve_103 (by decide) (fun c_24 => ?_) (fun c_24 => ?_)
        · have hw := hw.1 c_24
          refine lv_iload_n hx hb dX6_halve_141 rfl (lv_at hl 3 rfl) ?_
          refine lv_istore_n (lv' := [(3, .int v3), (0, .ref (g.2.1 5)), (1, .int v1), (2, .int v2), (4, .int v4)]) hx hb dX6_halve_142 rfl hl (by decide) rfl (fun ls hl => ?_)
          obtain ⟨v4_25, ev4_25⟩ : ∃ y : Int32, y = v4 + 1 := ⟨_, rfl⟩
          have hw := hw v4_25 ev4_25
          refine lv_iinc (v := v4_25) (lv' := [(4, .int v4_25), (3, .int v3), (0, .ref (g.2.1 5)), (1, .int v1), (2, .int v2)]) hx hb dX6_halve_143 hl (k := 4) rfl (by rw [ev4_25]; rfl) (by decide) rfl (fun ls hl => ?_)
          refine lv_goto (tgt := 79) hx hb dX6_halve_146 (by decide) ?_
          exact ih hw U (lv_sub hl [2, 3, 4, 1, 0] rfl) h149
        · have hw := hw.2 c_24
          refine lv_aload_n hx hb dX6_halve_106 rfl (lv_at hl 0 rfl) ?_
          refine u_get (C := RX6) (T := TX6) (N := 31) (v := .ref (g.2.1 39)) hx hb hts hX6_halve_X6 hown K U 5 5 (by decide) rfl rfl 12 (by decide) (hts (.fieldLink RX6 50 "TrialSearchModel" "isTaken" "[Z") (by decide +kernel)) rfl rfl dX6_halve_107 ?_
          refine lv_iload hx hb dX6_halve_110 (lv_at hl 4 rfl) ?_
          obtain ⟨hi_26, hw⟩ := hw
          refine u_zald (k := 39) (v := (A 39 v4.toNatClampNeg)) hx hb K U rfl (by decide) rfl hi_26 rfl dX6_halve_112 ?_
          refine lv_if_ne (tgt := 141) hx hb dX6_halve_113 (by decide) (fun c_27 => ?_) (fun c_27 => ?_)
          · have hw := hw.1 c_27
            refine lv_iload_n hx hb dX6_halve_141 rfl (lv_at hl 3 rfl) ?_
            refine lv_istore_n (lv' := [(3, .int v3), (0, .ref (g.2.1 5)), (1, .int v1), (2, .int v2), (4, .int v4)]) hx hb dX6_halve_142 rfl hl (by decide) rfl (fun ls hl => ?_)
            obtain ⟨v4_28, ev4_28⟩ : ∃ y : Int32, y = v4 + 1 := ⟨_, rfl⟩
            have hw := hw v4_28 ev4_28
            refine lv_iinc (v := v4_28) (lv' := [(4, .int v4_28), (3, .int v3), (0, .ref (g.2.1 5)), (1, .int v1), (2, .int v2)]) hx hb dX6_halve_143 hl (k := 4) rfl (by rw [ev4_28]; rfl) (by decide) rfl (fun ls hl => ?_)
            refine lv_goto (tgt := 79) hx hb dX6_halve_146 (by decide) ?_
            exact ih hw U (lv_sub hl [2, 3, 4, 1, 0] rfl) h149
          · have hw := hw.2 c_27
            refine lv_iload_n hx hb dX6_halve_116 rfl (lv_at hl 3 rfl) ?_
            refine lv_if_lt (tgt := 136) hx hb dX6_halve_117 (by decide) (fun c_29 => ?_) (fun c_29 => ?_)
            · have hw := hw.1 c_29
              refine lv_iload hx hb dX6_halve_136 (lv_at hl 4 rfl) ?_
              refine lv_goto (tgt := 142) hx hb dX6_halve_138 (by decide) ?_
              refine lv_istore_n (lv' := [(3, .int v4), (0, .ref (g.2.1 5)), (1, .int v1), (2, .int v2), (4, .int v4)]) hx hb dX6_halve_142 rfl hl (by decide) rfl (fun ls hl => ?_)
              obtain ⟨v4_30, ev4_30⟩ : ∃ y : Int32, y = v4 + 1 := ⟨_, rfl⟩
              have hw := hw v4_30 ev4_30
              refine lv_iinc (v := v4_30) (lv' := [(4, .int v4_30), (3, .int v4), (0, .ref (g.2.1 5)), (1, .int v1), (2, .int v2)]) hx hb dX6_halve_143 hl (k := 4) rfl (by rw [ev4_30]; rfl) (by decide) rfl (fun ls hl => ?_)
              refine lv_goto (tgt := 79) hx hb dX6_halve_146 (by decide) ?_
              exact ih hw U (lv_sub hl [2, 3, 4, 1, 0] rfl) h149
            · have hw := hw.2 c_29
              refine lv_aload_n hx hb dX6_halve_120 rfl (lv_at hl 0 rfl) ?_
              refine u_get (C := RX6) (T := TX6) (N := 31) (v := .ref (g.2.1 44)) hx hb hts hX6_halve_X6 hown K U 5 5 (by decide) rfl rfl 19 (by decide) (hts (.fieldLink RX6 66 "TrialSearchModel" "result" "[I") (by decide +kernel)) rfl rfl dX6_halve_121 ?_
              refine lv_iload hx hb dX6_halve_124 (lv_at hl 4 rfl) ?_
              obtain ⟨hi_31, hw⟩ := hw
              refine u_iald (k := 44) (v := (A 44 v4.toNatClampNeg)) hx hb K U rfl (by decide) rfl hi_31 rfl dX6_halve_126 ?_
              refine lv_aload_n hx hb dX6_halve_127 rfl (lv_at hl 0 rfl) ?_
              refine u_get (C := RX6) (T := TX6) (N := 31) (v := .ref (g.2.1 44)) hx hb hts hX6_halve_X6 hown K U 5 5 (by decide) rfl rfl 19 (by decide) (hts (.fieldLink RX6 66 "TrialSearchModel" "result" "[I") (by decide +kernel)) rfl rfl dX6_halve_128 ?_
              refine lv_iload_n hx hb dX6_halve_131 rfl (lv_at hl 3 rfl) ?_
              obtain ⟨hi_32, hw⟩ := hw
              refine u_iald (k := 44) (v := (A 44 v3.toNatClampNeg)) hx hb K U rfl (by decide) rfl hi_32 rfl dX6_halve_132 ?_
              refine lv_icmp_le (tgt := 141) hx hb dX6_halve_133 (by decide) (fun c_33 => ?_) (fun c_33 => ?_)
              · have hw := hw.1 c_33
                refine lv_iload_n hx hb dX6_halve_141 rfl (lv_at hl 3 rfl) ?_
                refine lv_istore_n (lv' := [(3, .int v3), (0, .ref (g.2.1 5)), (1, .int v1), (2, .int v2), (4, .int v4)]) hx hb dX6_halve_142 rfl hl (by decide) rfl (fun ls hl => ?_)
                obtain ⟨v4_34, ev4_34⟩ : ∃ y : Int32, y = v4 + 1 := ⟨_, rfl⟩
                have hw := hw v4_34 ev4_34
                refine lv_iinc (v := v4_34) (lv' := [(4, .int v4_34), (3, .int v3), (0, .ref (g.2.1 5)), (1, .int v1), (2, .int v2)]) hx hb dX6_halve_143 hl (k := 4) rfl (by rw [ev4_34]; rfl) (by decide) rfl (fun ls hl => ?_)
                refine lv_goto (tgt := 79) hx hb dX6_halve_146 (by decide) ?_
                exact ih hw U (lv_sub hl [2, 3, 4, 1, 0] rfl) h149
              · have hw := hw.2 c_33
                refine lv_iload hx hb dX6_halve_136 (lv_at hl 4 rfl) ?_
                refine lv_goto (tgt := 142) hx hb dX6_halve_138 (by decide) ?_
                refine lv_istore_n (lv' := [(3, .int v4), (0, .ref (g.2.1 5)), (1, .int v1), (2, .int v2), (4, .int v4)]) hx hb dX6_halve_142 rfl hl (by decide) rfl (fun ls hl => ?_)
                obtain ⟨v4_35, ev4_35⟩ : ∃ y : Int32, y = v4 + 1 := ⟨_, rfl⟩
                have hw := hw v4_35 ev4_35
                refine lv_iinc (v := v4_35) (lv' := [(4, .int v4_35), (3, .int v4), (0, .ref (g.2.1 5)), (1, .int v1), (2, .int v2)]) hx hb dX6_halve_143 hl (k := 4) rfl (by rw [ev4_35]; rfl) (by decide) rfl (fun ls hl => ?_)
                refine lv_goto (tgt := 79) hx hb dX6_halve_146 (by decide) ?_
                exact ih hw U (lv_sub hl [2, 3, 4, 1, 0] rfl) h149
set_option maxHeartbeats 4000000 in
set_option maxRecDepth 100000 in
theorem t_X6_halve_68 {p : Program} {l : Launch} {e : Env} {s : State} {m : MethodId} {args : Array Value} {below : List Frame} {meth : Method} {c : Code} {g : uG} {E166 : SA → Prop} {Q : Int32 → SA → Prop} {v1 : Int32} {B : SB} (C : uC p s m args meth c cX6_halve 5 RX6 wsX6_halve (some .int)) (K : UK g s) :
    ∀ {n : Nat} {v2 : Int32} {A : SA} {H : Heap} {locs : List Loc} {ls : Array Slot}, wp_X6_halve_68 E166 Q v1 B n v2 A → UU g A B s.heap H locs → lv_has ls 5 [(0, .ref (g.2.1 5)), (1, .int v1), (2, .int v2)] → (∀ (A : SA) (H : Heap) (locs : List Loc) (ls : Array Slot), UU g A B s.heap H locs → lv_has ls 5 [(0, .ref (g.2.1 5))] → E166 A → W p l e rmX6_halve s m args below meth c H locs 0 0 (MQ below (uQi g (fun r A1 B1 => B1 = B ∧ Q r A1 )) args s 0 0 (FA g)) (F0 m 166 ls [])) → W p l e rmX6_halve s m args below meth c H locs 0 0 (MQ below (uQi g (fun r A1 B1 => B1 = B ∧ Q r A1 )) args s 0 0 (FA g)) (F0 m 68 ls []) := by
  obtain ⟨hx, hb, hml, hown, hts, hr, hlocks⟩ := id C
  have S : CallFix p m c cX6_halve 5 s args wsX6_halve RX6 := ⟨hx, hb, hml, hown, hts⟩
  intro n
  induction n with
  | zero => intro _ _ _ _ _ hw; exact False.elim hw
  | succ n ih =>
    intro v2 A H locs ls hw U hl h166
    refine lv_iload_n hx hb dX6_halve_68 rfl (lv_at hl 2 rfl) ?_
    refine lv_iload_n hx hb dX6_halve_69 rfl (lv_at hl 1 rfl) ?_
    refine lv_icmp_ge (tgt := 166) hx hb dX6_halve_70 (by decide) (fun c_18 => ?_) (fun c_18 => ?_)
    · have hw := hw.1 c_18
      exact h166 _ _ _ _ U (lv_sub hl [0] rfl) hw
    · have hw := hw.2 c_18
      refine lv_bipush (v := -2) hx hb dX6_halve_73 (by decide) ?_
      refine lv_istore_n (lv' := [(3, .int (-2 : Int32)), (0, .ref (g.2.1 5)), (1, .int v1), (2, .int v2)]) hx hb dX6_halve_75 rfl hl (by decide) rfl (fun ls hl => ?_)
      refine lv_iconst (v := 0) hx hb dX6_halve_76 (by decide) ?_
      refine lv_istore (lv' := [(4, .int (0 : Int32)), (3, .int (-2 : Int32)), (0, .ref (g.2.1 5)), (1, .int v1), (2, .int v2)]) hx hb dX6_halve_77 hl (by decide) rfl (fun ls hl => ?_)
      obtain ⟨n_36, hw⟩ := hw
      refine t_X6_halve_79 C K hw U (lv_sub hl [2, 3, 4, 1, 0] rfl) (fun v3_37 H locs ls U hl hw => ?_)
      refine lv_iload_n hx hb dX6_halve_149 rfl (lv_at hl 3 rfl) ?_
      refine lv_if_lt (tgt := 160) hx hb dX6_halve_150 (by decide) (fun c_38 => ?_) (fun c_38 => ?_)
      · have hw := hw.1 c_38
        obtain ⟨v2_39, ev2_39⟩ : ∃ y : Int32, y = v2 + 1 := ⟨_, rfl⟩
        have hw := hw v2_39 ev2_39
        refine lv_iinc (v := v2_39) (lv' := [(2, .int v2_39), (0, .ref (g.2.1 5)), (1, .int v1), (3, .int v3_37)]) hx hb dX6_halve_160 hl (k := 2) rfl (by rw [ev2_39]; rfl) (by decide) rfl (fun ls hl => ?_)
        refine lv_goto (tgt := 68) hx hb dX6_halve_163 (by decide) ?_
        exact ih hw U (lv_sub hl [1, 2, 0] rfl) h166
      · have hw := hw.2 c_38
        refine lv_aload_n hx hb dX6_halve_153 rfl (lv_at hl 0 rfl) ?_
        refine u_get (C := RX6) (T := TX6) (N := 31) (v := .ref (g.2.1 39)) hx hb hts hX6_halve_X6 hown K U 5 5 (by decide) rfl rfl 12 (by decide) (hts (.fieldLink RX6 50 "TrialSearchModel" "isTaken" "[Z") (by decide +kernel)) rfl rfl dX6_halve_154 ?_
        refine lv_iload_n hx hb dX6_halve_157 rfl (lv_at hl 3 rfl) ?_
        refine lv_iconst (v := 1) hx hb dX6_halve_158 (by decide) ?_
        obtain ⟨hi_40, hw⟩ := hw
        refine u_zast (k := 39) hx hb K U rfl (by decide) rfl hi_40 dX6_halve_159 (fun H locs U => ?_)
        obtain ⟨v2_41, ev2_41⟩ : ∃ y : Int32, y = v2 + 1 := ⟨_, rfl⟩
        have hw := hw v2_41 ev2_41
        refine lv_iinc (v := v2_41) (lv' := [(2, .int v2_41), (0, .ref (g.2.1 5)), (1, .int v1), (3, .int v3_37)]) hx hb dX6_halve_160 hl (k := 2) rfl (by rw [ev2_41]; rfl) (by decide) rfl (fun ls hl => ?_)
        refine lv_goto (tgt := 68) hx hb dX6_halve_163 (by decide) ?_
        exact ih hw U (lv_sub hl [1, 2, 0] rfl) h166
set_option maxHeartbeats 4000000 in
set_option maxRecDepth 100000 in
theorem t_X6_halve_168 {p : Program} {l : Launch} {e : Env} {s : State} {m : MethodId} {args : Array Value} {below : List Frame} {meth : Method} {c : Code} {g : uG} {E197 : SA → Prop} {Q : Int32 → SA → Prop} {B : SB} (C : uC p s m args meth c cX6_halve 5 RX6 wsX6_halve (some .int)) (K : UK g s) :
    ∀ {n : Nat} {v2 : Int32} {A : SA} {H : Heap} {locs : List Loc} {ls : Array Slot}, wp_X6_halve_168 E197 Q B n v2 A → UU g A B s.heap H locs → lv_has ls 5 [(0, .ref (g.2.1 5)), (2, .int v2)] → (∀ (A : SA) (H : Heap) (locs : List Loc) (ls : Array Slot), UU g A B s.heap H locs → lv_has ls 5 [(0, .ref (g.2.1 5))] → E197 A → W p l e rmX6_halve s m args below meth c H locs 0 0 (MQ below (uQi g (fun r A1 B1 => B1 = B ∧ Q r A1 )) args s 0 0 (FA g)) (F0 m 197 ls [])) → W p l e rmX6_halve s m args below meth c H locs 0 0 (MQ below (uQi g (fun r A1 B1 => B1 = B ∧ Q r A1 )) args s 0 0 (FA g)) (F0 m 168 ls []) := by
  obtain ⟨hx, hb, hml, hown, hts, hr, hlocks⟩ := id C
  have S : CallFix p m c cX6_halve 5 s args wsX6_halve RX6 := ⟨hx, hb, hml, hown, hts⟩
  intro n
  induction n with
  | zero => intro _ _ _ _ _ hw; exact False.elim hw
  | succ n ih =>
    intro v2 A H locs ls hw U hl h197
    refine lv_iload_n hx hb dX6_halve_168 rfl (lv_at hl 1 rfl) ?_
    refine lv_bipush (v := 60) hx hb dX6_halve_169 (by decide) ?_
    refine lv_icmp_ge (tgt := 197) hx hb dX6_halve_171 (by decide) (fun c_44 => ?_) (fun c_44 => ?_)
    · have hw := hw.1 c_44
      exact h197 _ _ _ _ U (lv_sub hl [0] rfl) hw
    · have hw := hw.2 c_44
      refine lv_aload_n hx hb dX6_halve_174 rfl (lv_at hl 0 rfl) ?_
      refine u_get (C := RX6) (T := TX6) (N := 31) (v := .ref (g.2.1 41)) hx hb hts hX6_halve_X6 hown K U 5 5 (by decide) rfl rfl 16 (by decide) (hts (.fieldLink RX6 57 "TrialSearchModel" "isIn" "[Z") (by decide +kernel)) rfl rfl dX6_halve_175 ?_
      refine lv_iload_n hx hb dX6_halve_178 rfl (lv_at hl 1 rfl) ?_
      refine lv_aload_n hx hb dX6_halve_179 rfl (lv_at hl 0 rfl) ?_
      refine u_get (C := RX6) (T := TX6) (N := 31) (v := .ref (g.2.1 39)) hx hb hts hX6_halve_X6 hown K U 5 5 (by decide) rfl rfl 12 (by decide) (hts (.fieldLink RX6 50 "TrialSearchModel" "isTaken" "[Z") (by decide +kernel)) rfl rfl dX6_halve_180 ?_
      refine lv_iload_n hx hb dX6_halve_183 rfl (lv_at hl 1 rfl) ?_
      obtain ⟨hi_45, hw⟩ := hw
      refine u_zald (k := 39) (v := (A 39 v2.toNatClampNeg)) hx hb K U rfl (by decide) rfl hi_45 rfl dX6_halve_184 ?_
      refine lv_topi (fun x_46 ex_46 => ?_)
      have hw := hw x_46 ex_46
      obtain ⟨hi_47, hw⟩ := hw
      refine u_zast (k := 41) hx hb K U rfl (by decide) rfl hi_47 dX6_halve_185 (fun H locs U => ?_)
      refine lv_aload_n hx hb dX6_halve_186 rfl (lv_at hl 0 rfl) ?_
      refine lv_iload_n hx hb dX6_halve_187 rfl (lv_at hl 1 rfl) ?_
      refine u_cv (u_rV (As := [.int v2]) (rest := []) (C := RX6) S K U 5 5 (by decide) rfl rfl (c_X6_clear hw) (cwV 1 hts gX6_halve_X6_clear rfl rfl rfl (by decide +kernel) ⟨Nat.le_of_ble_eq_true rfl, Nat.le_of_ble_eq_true rfl⟩) rfl hl.1 rfl (Nat.le_of_ble_eq_true rfl) dX6_halve_188 ⟨Nat.zero_le _, Nat.zero_le _⟩) U (fun A_49 B_50 H locs U9 hw => ?_)
      obtain ⟨eB, hw⟩ := hw
      rw [eB] at U9
      have U := U9
      obtain ⟨v2_51, ev2_51⟩ : ∃ y : Int32, y = v2 + 1 := ⟨_, rfl⟩
      have hw := hw v2_51 ev2_51
      refine lv_iinc (v := v2_51) (lv' := [(2, .int v2_51), (0, .ref (g.2.1 5))]) hx hb dX6_halve_191 hl (k := 1) rfl (by rw [ev2_51]; rfl) (by decide) rfl (fun ls hl => ?_)
      refine lv_goto (tgt := 168) hx hb dX6_halve_194 (by decide) ?_
      exact ih hw U (lv_sub hl [1, 0] rfl) h197
set_option maxHeartbeats 4000000 in
set_option maxRecDepth 100000 in
theorem c_X6_halve {l : Launch} {g : uG}  {A : SA} {B : SB} {Q : Int32 → SA → Prop} (hw : wp_X6_halve  A B Q) : MI l yX6_halve wsX6_halve rmX6_halve g A B [.ref (g.2.1 5)] (fun r A1 B1 => B1 = B ∧ Q r A1 ) := by
  refine u_of (cc := cX6_halve) (maxL := 5) (ret := (some .int)) (by decide) rfl (Nat.le_of_ble_eq_true rfl) ?_
  intro p e s m below meth c ls C K U hl
  obtain ⟨hx, hb, hml, hown, hts, hr, hlocks⟩ := id C
  have S : CallFix p m c cX6_halve 5 s ([.ref (g.2.1 5)] : List Value).toArray wsX6_halve RX6 := ⟨hx, hb, hml, hown, hts⟩
  have hl : lv_has ls 5 [(0, .ref (g.2.1 5))] := hl
  refine lv_aload_n hx hb dX6_halve_0 rfl (lv_at hl 0 rfl) ?_
  refine u_get (C := RX6) (T := TX6) (N := 31) (v := .int (A 5 15)) hx hb hts hX6_halve_X6 hown K U 5 5 (by decide) rfl rfl 15 (by decide) (hts (.fieldLink RX6 176 "TrialSearchModel" "isBracket" "Z") (by decide +kernel)) rfl rfl dX6_halve_1 ?_
  refine lv_if_eq (tgt := 21) hx hb dX6_halve_4 (by decide) (fun c_1 => ?_) (fun c_1 => ?_)
  · have hw := hw.1 c_1
    refine lv_bipush (v := -3) hx hb dX6_halve_21 (by decide) ?_
    exact u_iret hx hb hr hlocks U ⟨rfl, hw⟩ dX6_halve_23
  · have hw := hw.2 c_1
    refine lv_aload_n hx hb dX6_halve_7 rfl (lv_at hl 0 rfl) ?_
    refine u_get (C := RX6) (T := TX6) (N := 31) (v := .int (A 5 23)) hx hb hts hX6_halve_X6 hown K U 5 5 (by decide) rfl rfl 23 (by decide) (hts (.fieldLink RX6 189 "TrialSearchModel" "isOver" "Z") (by decide +kernel)) rfl rfl dX6_halve_8 ?_
    refine lv_if_ne (tgt := 21) hx hb dX6_halve_11 (by decide) (fun c_2 => ?_) (fun c_2 => ?_)
    · have hw := hw.1 c_2
      refine lv_bipush (v := -3) hx hb dX6_halve_21 (by decide) ?_
      exact u_iret hx hb hr hlocks U ⟨rfl, hw⟩ dX6_halve_23
    · have hw := hw.2 c_2
      refine lv_aload_n hx hb dX6_halve_14 rfl (lv_at hl 0 rfl) ?_
      refine u_ci (u_rV (As := []) (rest := []) (C := RX6) S K U 5 5 (by decide) rfl rfl (c_X6_open hw) (cwV 0 hts gX6_halve_X6_open rfl rfl rfl (by decide +kernel) ⟨Nat.le_of_ble_eq_true rfl, Nat.le_of_ble_eq_true rfl⟩) rfl hl.1 rfl (Nat.le_of_ble_eq_true rfl) dX6_halve_15 ⟨Nat.zero_le _, Nat.zero_le _⟩) U (fun r_3 A_4 B_5 H locs U9 hw => ?_)
      obtain ⟨eA, eB, hw⟩ := hw
      rw [eA, eB] at U9
      have U := U9
      refine lv_if_le (tgt := 24) hx hb dX6_halve_18 (by decide) (fun c_6 => ?_) (fun c_6 => ?_)
      · have hw := hw.1 c_6
        refine lv_aload_n hx hb dX6_halve_24 rfl (lv_at hl 0 rfl) ?_
        refine u_ci (u_rV (As := []) (rest := []) (C := RX6) S K U 5 5 (by decide) rfl rfl (c_X6_inside hw) (cwV 0 hts gX6_halve_X6_inside rfl rfl rfl (by decide +kernel) ⟨Nat.le_of_ble_eq_true rfl, Nat.le_of_ble_eq_true rfl⟩) rfl hl.1 rfl (Nat.le_of_ble_eq_true rfl) dX6_halve_25 ⟨Nat.zero_le _, Nat.zero_le _⟩) U (fun r_7 A_8 B_9 H locs U9 hw => ?_)
        obtain ⟨eA, eB, hw⟩ := hw
        rw [eA, eB] at U9
        have U := U9
        refine lv_aload_n hx hb dX6_halve_28 rfl (lv_at hl 0 rfl) ?_
        refine u_get (C := RX6) (T := TX6) (N := 31) (v := .int (A 5 21)) hx hb hts hX6_halve_X6 hown K U 5 5 (by decide) rfl rfl 21 (by decide) (hts (.fieldLink RX6 183 "TrialSearchModel" "factor" "I") (by decide +kernel)) rfl rfl dX6_halve_29 ?_
        obtain ⟨hz_10, hw⟩ := hw
        refine lv_idiv hx hb dX6_halve_32 hz_10 ?_
        refine lv_topi (fun x_11 ex_11 => ?_)
        have hw := hw x_11 ex_11
        refine lv_istore_n (lv' := [(1, .int x_11), (0, .ref (g.2.1 5))]) hx hb dX6_halve_33 rfl hl (by decide) rfl (fun ls hl => ?_)
        refine lv_iload_n hx hb dX6_halve_34 rfl (lv_at hl 0 rfl) ?_
        refine lv_iconst (v := 1) hx hb dX6_halve_35 (by decide) ?_
        refine lv_icmp_ge (tgt := 43) hx hb dX6_halve_36 (by decide) (fun c_12 => ?_) (fun c_12 => ?_)
        · have hw := hw.1 c_12
          refine lv_iload_n hx hb dX6_halve_43 rfl (lv_at hl 0 rfl) ?_
          refine lv_istore_n (lv' := [(1, .int x_11), (0, .ref (g.2.1 5))]) hx hb dX6_halve_44 rfl hl (by decide) rfl (fun ls hl => ?_)
          refine lv_iconst (v := 0) hx hb dX6_halve_45 (by decide) ?_
          refine lv_istore_n (lv' := [(2, .int (0 : Int32)), (1, .int x_11), (0, .ref (g.2.1 5))]) hx hb dX6_halve_46 rfl hl (by decide) rfl (fun ls hl => ?_)
          obtain ⟨n_16, hw⟩ := hw
          refine t_X6_halve_47 C K hw U (lv_sub hl [2, 1, 0] rfl) (fun A_17 H locs ls U hl hw => ?_)
          refine lv_iconst (v := 0) hx hb dX6_halve_66 (by decide) ?_
          refine lv_istore_n (lv' := [(2, .int (0 : Int32)), (0, .ref (g.2.1 5)), (1, .int x_11)]) hx hb dX6_halve_67 rfl hl (by decide) rfl (fun ls hl => ?_)
          obtain ⟨n_42, hw⟩ := hw
          refine t_X6_halve_68 C K hw U (lv_sub hl [1, 2, 0] rfl) (fun A_43 H locs ls U hl hw => ?_)
          refine lv_iconst (v := 0) hx hb dX6_halve_166 (by decide) ?_
          refine lv_istore_n (lv' := [(2, .int (0 : Int32)), (0, .ref (g.2.1 5))]) hx hb dX6_halve_167 rfl hl (by decide) rfl (fun ls hl => ?_)
          obtain ⟨n_52, hw⟩ := hw
          refine t_X6_halve_168 C K hw U (lv_sub hl [1, 0] rfl) (fun A_53 H locs ls U hl hw => ?_)
          refine lv_aload_n hx hb dX6_halve_197 rfl (lv_at hl 0 rfl) ?_
          refine u_get (C := RX6) (T := TX6) (N := 31) (v := .int (A_53 5 20)) hx hb hts hX6_halve_X6 hown K U 5 5 (by decide) rfl rfl 20 (by decide) (hts (.fieldLink RX6 180 "TrialSearchModel" "budget" "I") (by decide +kernel)) rfl rfl dX6_halve_198 ?_
          refine lv_i2l hx hb dX6_halve_201 rfl ?_
          refine lv_aload_n hx hb dX6_halve_202 rfl (lv_at hl 0 rfl) ?_
          refine u_get (C := RX6) (T := TX6) (N := 31) (v := .int (A_53 5 21)) hx hb hts hX6_halve_X6 hown K U 5 5 (by decide) rfl rfl 21 (by decide) (hts (.fieldLink RX6 183 "TrialSearchModel" "factor" "I") (by decide +kernel)) rfl rfl dX6_halve_203 ?_
          refine lv_i2l hx hb dX6_halve_206 rfl ?_
          refine lv_lmul hx hb dX6_halve_207 ?_
          refine lv_topl (fun x_54 ex_54 => ?_)
          have hw := hw x_54 ex_54
          refine lv_lstore_n (lv' := [(2, .long x_54), (0, .ref (g.2.1 5))]) hx hb dX6_halve_208 rfl hl (by decide) rfl (fun ls hl => ?_)
          refine lv_aload_n hx hb dX6_halve_209 rfl (lv_at hl 1 rfl) ?_
          refine lv_lload_n hx hb dX6_halve_210 rfl (lv_at hl 0 rfl) ?_
          refine lv_ldc2 (v := 1000000000) hx hb hown (hts (.constantLong RX6 207 (1000000000)) (by decide +kernel)) dX6_halve_211 ?_
          refine u_lc_le (tgt := 223) hx hb dX6_halve_214 dX6_halve_215 (by decide) (fun c_55 => ?_) (fun c_55 => ?_)
          · have hw := hw.1 c_55
            refine lv_lload_n hx hb dX6_halve_223 rfl (lv_at hl 0 rfl) ?_
            refine lv_l2i hx hb dX6_halve_224 rfl ?_
            refine lv_topi (fun x_56 ex_56 => ?_)
            have hw := hw x_56 ex_56
            refine u_puti (ty := .int) (C := RX6) (T := TX6) (N := 31) hx hb hts hX6_halve_X6 tyX6 tyX6_ok nmX6 hown K U 5 5 (by decide) rfl rfl 20 (by decide) (hts (.fieldLink RX6 180 "TrialSearchModel" "budget" "I") (by decide +kernel)) rfl rfl (by decide +kernel) rfl rfl (Nat.le_of_ble_eq_true rfl) rfl dX6_halve_225 (fun H locs U => ?_)
            refine lv_aload_n hx hb dX6_halve_228 rfl (lv_at hl 1 rfl) ?_
            refine lv_dup hx hb dX6_halve_229 rfl ?_
            refine u_get (C := RX6) (T := TX6) (N := 31) (v := .int (A_53 5 22)) hx hb hts hX6_halve_X6 hown K U 5 5 (by decide) rfl rfl 22 (by decide) (hts (.fieldLink RX6 186 "TrialSearchModel" "halved" "I") (by decide +kernel)) rfl rfl dX6_halve_230 ?_
            refine lv_iconst (v := 1) hx hb dX6_halve_233 (by decide) ?_
            refine lv_iadd hx hb dX6_halve_234 ?_
            refine lv_topi (fun x_57 ex_57 => ?_)
            have hw := hw x_57 ex_57
            refine u_puti (ty := .int) (C := RX6) (T := TX6) (N := 31) hx hb hts hX6_halve_X6 tyX6 tyX6_ok nmX6 hown K U 5 5 (by decide) rfl rfl 22 (by decide) (hts (.fieldLink RX6 186 "TrialSearchModel" "halved" "I") (by decide +kernel)) rfl rfl (by decide +kernel) rfl rfl (Nat.le_of_ble_eq_true rfl) rfl dX6_halve_235 (fun H locs U => ?_)
            refine lv_aload_n hx hb dX6_halve_238 rfl (lv_at hl 1 rfl) ?_
            refine lv_aload_n hx hb dX6_halve_239 rfl (lv_at hl 1 rfl) ?_
            refine u_ci (u_rV (As := []) (rest := [.ref (g.2.1 5)]) (C := RX6) S K U 5 5 (by decide) rfl rfl (c_X6_inside hw) (cwV 0 hts gX6_halve_X6_inside rfl rfl rfl (by decide +kernel) ⟨Nat.le_of_ble_eq_true rfl, Nat.le_of_ble_eq_true rfl⟩) rfl hl.1 rfl (Nat.le_of_ble_eq_true rfl) dX6_halve_240 ⟨Nat.zero_le _, Nat.zero_le _⟩) U (fun r_58 A_59 B_60 H locs U9 hw => ?_)
            obtain ⟨eA, eB, hw⟩ := hw
            rw [eA, eB] at U9
            have U := U9
            refine lv_iconst (v := 2) hx hb dX6_halve_243 (by decide) ?_
            refine lv_icmp_ge (tgt := 251) hx hb dX6_halve_244 (by decide) (fun c_61 => ?_) (fun c_61 => ?_)
            · have hw := hw.1 c_61
              refine lv_iconst (v := 0) hx hb dX6_halve_251 (by decide) ?_
              refine u_puti (ty := .boolean) (C := RX6) (T := TX6) (N := 31) hx hb hts hX6_halve_X6 tyX6 tyX6_ok nmX6 hown K U 5 5 (by decide) rfl rfl 23 (by decide) (hts (.fieldLink RX6 189 "TrialSearchModel" "isOver" "Z") (by decide +kernel)) rfl rfl (by decide +kernel) (by decide +kernel) (by decide +kernel) (Nat.le_of_ble_eq_true rfl) rfl dX6_halve_252 (fun H locs U => ?_)
              refine lv_aload_n hx hb dX6_halve_255 rfl (lv_at hl 1 rfl) ?_
              refine u_ci (u_rV (As := []) (rest := []) (C := RX6) S K U 5 5 (by decide) rfl rfl (c_X6_inside hw) (cwV 0 hts gX6_halve_X6_inside rfl rfl rfl (by decide +kernel) ⟨Nat.le_of_ble_eq_true rfl, Nat.le_of_ble_eq_true rfl⟩) rfl hl.1 rfl (Nat.le_of_ble_eq_true rfl) dX6_halve_256 ⟨Nat.zero_le _, Nat.zero_le _⟩) U (fun r_62 A_63 B_64 H locs U9 hw => ?_)
              obtain ⟨eA, eB, hw⟩ := hw
              rw [eA, eB] at U9
              have U := U9
              exact u_iret hx hb hr hlocks U ⟨rfl, hw⟩ dX6_halve_259
            · have hw := hw.2 c_61
              refine lv_iconst (v := 1) hx hb dX6_halve_247 (by decide) ?_
              refine lv_goto (tgt := 252) hx hb dX6_halve_248 (by decide) ?_
              refine u_puti (ty := .boolean) (C := RX6) (T := TX6) (N := 31) hx hb hts hX6_halve_X6 tyX6 tyX6_ok nmX6 hown K U 5 5 (by decide) rfl rfl 23 (by decide) (hts (.fieldLink RX6 189 "TrialSearchModel" "isOver" "Z") (by decide +kernel)) rfl rfl (by decide +kernel) (by decide +kernel) (by decide +kernel) (Nat.le_of_ble_eq_true rfl) rfl dX6_halve_252 (fun H locs U => ?_)
              refine lv_aload_n hx hb dX6_halve_255 rfl (lv_at hl 1 rfl) ?_
              refine u_ci (u_rV (As := []) (rest := []) (C := RX6) S K U 5 5 (by decide) rfl rfl (c_X6_inside hw) (cwV 0 hts gX6_halve_X6_inside rfl rfl rfl (by decide +kernel) ⟨Nat.le_of_ble_eq_true rfl, Nat.le_of_ble_eq_true rfl⟩) rfl hl.1 rfl (Nat.le_of_ble_eq_true rfl) dX6_halve_256 ⟨Nat.zero_le _, Nat.zero_le _⟩) U (fun r_65 A_66 B_67 H locs U9 hw => ?_)
              obtain ⟨eA, eB, hw⟩ := hw
              rw [eA, eB] at U9
              have U := U9
              exact u_iret hx hb hr hlocks U ⟨rfl, hw⟩ dX6_halve_259
          · have hw := hw.2 c_55
            refine lv_ldc (v := 1000000000) hx hb hown (hts (.constant RX6 209 (1000000000)) (by decide +kernel)) dX6_halve_218 ?_
            refine lv_goto (tgt := 225) hx hb dX6_halve_220 (by decide) ?_
            refine u_puti (ty := .int) (C := RX6) (T := TX6) (N := 31) hx hb hts hX6_halve_X6 tyX6 tyX6_ok nmX6 hown K U 5 5 (by decide) rfl rfl 20 (by decide) (hts (.fieldLink RX6 180 "TrialSearchModel" "budget" "I") (by decide +kernel)) rfl rfl (by decide +kernel) rfl rfl (Nat.le_of_ble_eq_true rfl) rfl dX6_halve_225 (fun H locs U => ?_)
            refine lv_aload_n hx hb dX6_halve_228 rfl (lv_at hl 1 rfl) ?_
            refine lv_dup hx hb dX6_halve_229 rfl ?_
            refine u_get (C := RX6) (T := TX6) (N := 31) (v := .int (A_53 5 22)) hx hb hts hX6_halve_X6 hown K U 5 5 (by decide) rfl rfl 22 (by decide) (hts (.fieldLink RX6 186 "TrialSearchModel" "halved" "I") (by decide +kernel)) rfl rfl dX6_halve_230 ?_
            refine lv_iconst (v := 1) hx hb dX6_halve_233 (by decide) ?_
            refine lv_iadd hx hb dX6_halve_234 ?_
            refine lv_topi (fun x_68 ex_68 => ?_)
            have hw := hw x_68 ex_68
            refine u_puti (ty := .int) (C := RX6) (T := TX6) (N := 31) hx hb hts hX6_halve_X6 tyX6 tyX6_ok nmX6 hown K U 5 5 (by decide) rfl rfl 22 (by decide) (hts (.fieldLink RX6 186 "TrialSearchModel" "halved" "I") (by decide +kernel)) rfl rfl (by decide +kernel) rfl rfl (Nat.le_of_ble_eq_true rfl) rfl dX6_halve_235 (fun H locs U => ?_)
            refine lv_aload_n hx hb dX6_halve_238 rfl (lv_at hl 1 rfl) ?_
            refine lv_aload_n hx hb dX6_halve_239 rfl (lv_at hl 1 rfl) ?_
            refine u_ci (u_rV (As := []) (rest := [.ref (g.2.1 5)]) (C := RX6) S K U 5 5 (by decide) rfl rfl (c_X6_inside hw) (cwV 0 hts gX6_halve_X6_inside rfl rfl rfl (by decide +kernel) ⟨Nat.le_of_ble_eq_true rfl, Nat.le_of_ble_eq_true rfl⟩) rfl hl.1 rfl (Nat.le_of_ble_eq_true rfl) dX6_halve_240 ⟨Nat.zero_le _, Nat.zero_le _⟩) U (fun r_69 A_70 B_71 H locs U9 hw => ?_)
            obtain ⟨eA, eB, hw⟩ := hw
            rw [eA, eB] at U9
            have U := U9
            refine lv_iconst (v := 2) hx hb dX6_halve_243 (by decide) ?_
            refine lv_icmp_ge (tgt := 251) hx hb dX6_halve_244 (by decide) (fun c_72 => ?_) (fun c_72 => ?_)
            · have hw := hw.1 c_72
              refine lv_iconst (v := 0) hx hb dX6_halve_251 (by decide) ?_
              refine u_puti (ty := .boolean) (C := RX6) (T := TX6) (N := 31) hx hb hts hX6_halve_X6 tyX6 tyX6_ok nmX6 hown K U 5 5 (by decide) rfl rfl 23 (by decide) (hts (.fieldLink RX6 189 "TrialSearchModel" "isOver" "Z") (by decide +kernel)) rfl rfl (by decide +kernel) (by decide +kernel) (by decide +kernel) (Nat.le_of_ble_eq_true rfl) rfl dX6_halve_252 (fun H locs U => ?_)
              refine lv_aload_n hx hb dX6_halve_255 rfl (lv_at hl 1 rfl) ?_
              refine u_ci (u_rV (As := []) (rest := []) (C := RX6) S K U 5 5 (by decide) rfl rfl (c_X6_inside hw) (cwV 0 hts gX6_halve_X6_inside rfl rfl rfl (by decide +kernel) ⟨Nat.le_of_ble_eq_true rfl, Nat.le_of_ble_eq_true rfl⟩) rfl hl.1 rfl (Nat.le_of_ble_eq_true rfl) dX6_halve_256 ⟨Nat.zero_le _, Nat.zero_le _⟩) U (fun r_73 A_74 B_75 H locs U9 hw => ?_)
              obtain ⟨eA, eB, hw⟩ := hw
              rw [eA, eB] at U9
              have U := U9
              exact u_iret hx hb hr hlocks U ⟨rfl, hw⟩ dX6_halve_259
            · have hw := hw.2 c_72
              refine lv_iconst (v := 1) hx hb dX6_halve_247 (by decide) ?_
              refine lv_goto (tgt := 252) hx hb dX6_halve_248 (by decide) ?_
              refine u_puti (ty := .boolean) (C := RX6) (T := TX6) (N := 31) hx hb hts hX6_halve_X6 tyX6 tyX6_ok nmX6 hown K U 5 5 (by decide) rfl rfl 23 (by decide) (hts (.fieldLink RX6 189 "TrialSearchModel" "isOver" "Z") (by decide +kernel)) rfl rfl (by decide +kernel) (by decide +kernel) (by decide +kernel) (Nat.le_of_ble_eq_true rfl) rfl dX6_halve_252 (fun H locs U => ?_)
              refine lv_aload_n hx hb dX6_halve_255 rfl (lv_at hl 1 rfl) ?_
              refine u_ci (u_rV (As := []) (rest := []) (C := RX6) S K U 5 5 (by decide) rfl rfl (c_X6_inside hw) (cwV 0 hts gX6_halve_X6_inside rfl rfl rfl (by decide +kernel) ⟨Nat.le_of_ble_eq_true rfl, Nat.le_of_ble_eq_true rfl⟩) rfl hl.1 rfl (Nat.le_of_ble_eq_true rfl) dX6_halve_256 ⟨Nat.zero_le _, Nat.zero_le _⟩) U (fun r_76 A_77 B_78 H locs U9 hw => ?_)
              obtain ⟨eA, eB, hw⟩ := hw
              rw [eA, eB] at U9
              have U := U9
              exact u_iret hx hb hr hlocks U ⟨rfl, hw⟩ dX6_halve_259
        · have hw := hw.2 c_12
          refine lv_iconst (v := 1) hx hb dX6_halve_39 (by decide) ?_
          refine lv_goto (tgt := 44) hx hb dX6_halve_40 (by decide) ?_
          refine lv_istore_n (lv' := [(1, .int (1 : Int32)), (0, .ref (g.2.1 5))]) hx hb dX6_halve_44 rfl hl (by decide) rfl (fun ls hl => ?_)
          refine lv_iconst (v := 0) hx hb dX6_halve_45 (by decide) ?_
          refine lv_istore_n (lv' := [(2, .int (0 : Int32)), (1, .int (1 : Int32)), (0, .ref (g.2.1 5))]) hx hb dX6_halve_46 rfl hl (by decide) rfl (fun ls hl => ?_)
          obtain ⟨n_79, hw⟩ := hw
          refine t_X6_halve_47 C K hw U (lv_sub hl [2, 1, 0] rfl) (fun A_80 H locs ls U hl hw => ?_)
          refine lv_iconst (v := 0) hx hb dX6_halve_66 (by decide) ?_
          refine lv_istore_n (lv' := [(2, .int (0 : Int32)), (0, .ref (g.2.1 5)), (1, .int (1 : Int32))]) hx hb dX6_halve_67 rfl hl (by decide) rfl (fun ls hl => ?_)
          obtain ⟨n_81, hw⟩ := hw
          refine t_X6_halve_68 C K hw U (lv_sub hl [1, 2, 0] rfl) (fun A_82 H locs ls U hl hw => ?_)
          refine lv_iconst (v := 0) hx hb dX6_halve_166 (by decide) ?_
          refine lv_istore_n (lv' := [(2, .int (0 : Int32)), (0, .ref (g.2.1 5))]) hx hb dX6_halve_167 rfl hl (by decide) rfl (fun ls hl => ?_)
          obtain ⟨n_83, hw⟩ := hw
          refine t_X6_halve_168 C K hw U (lv_sub hl [1, 0] rfl) (fun A_84 H locs ls U hl hw => ?_)
          refine lv_aload_n hx hb dX6_halve_197 rfl (lv_at hl 0 rfl) ?_
          refine u_get (C := RX6) (T := TX6) (N := 31) (v := .int (A_84 5 20)) hx hb hts hX6_halve_X6 hown K U 5 5 (by decide) rfl rfl 20 (by decide) (hts (.fieldLink RX6 180 "TrialSearchModel" "budget" "I") (by decide +kernel)) rfl rfl dX6_halve_198 ?_
          refine lv_i2l hx hb dX6_halve_201 rfl ?_
          refine lv_aload_n hx hb dX6_halve_202 rfl (lv_at hl 0 rfl) ?_
          refine u_get (C := RX6) (T := TX6) (N := 31) (v := .int (A_84 5 21)) hx hb hts hX6_halve_X6 hown K U 5 5 (by decide) rfl rfl 21 (by decide) (hts (.fieldLink RX6 183 "TrialSearchModel" "factor" "I") (by decide +kernel)) rfl rfl dX6_halve_203 ?_
          refine lv_i2l hx hb dX6_halve_206 rfl ?_
          refine lv_lmul hx hb dX6_halve_207 ?_
          refine lv_topl (fun x_85 ex_85 => ?_)
          have hw := hw x_85 ex_85
          refine lv_lstore_n (lv' := [(2, .long x_85), (0, .ref (g.2.1 5))]) hx hb dX6_halve_208 rfl hl (by decide) rfl (fun ls hl => ?_)
          refine lv_aload_n hx hb dX6_halve_209 rfl (lv_at hl 1 rfl) ?_
          refine lv_lload_n hx hb dX6_halve_210 rfl (lv_at hl 0 rfl) ?_
          refine lv_ldc2 (v := 1000000000) hx hb hown (hts (.constantLong RX6 207 (1000000000)) (by decide +kernel)) dX6_halve_211 ?_
          refine u_lc_le (tgt := 223) hx hb dX6_halve_214 dX6_halve_215 (by decide) (fun c_86 => ?_) (fun c_86 => ?_)
          · have hw := hw.1 c_86
            refine lv_lload_n hx hb dX6_halve_223 rfl (lv_at hl 0 rfl) ?_
            refine lv_l2i hx hb dX6_halve_224 rfl ?_
            refine lv_topi (fun x_87 ex_87 => ?_)
            have hw := hw x_87 ex_87
            refine u_puti (ty := .int) (C := RX6) (T := TX6) (N := 31) hx hb hts hX6_halve_X6 tyX6 tyX6_ok nmX6 hown K U 5 5 (by decide) rfl rfl 20 (by decide) (hts (.fieldLink RX6 180 "TrialSearchModel" "budget" "I") (by decide +kernel)) rfl rfl (by decide +kernel) rfl rfl (Nat.le_of_ble_eq_true rfl) rfl dX6_halve_225 (fun H locs U => ?_)
            refine lv_aload_n hx hb dX6_halve_228 rfl (lv_at hl 1 rfl) ?_
            refine lv_dup hx hb dX6_halve_229 rfl ?_
            refine u_get (C := RX6) (T := TX6) (N := 31) (v := .int (A_84 5 22)) hx hb hts hX6_halve_X6 hown K U 5 5 (by decide) rfl rfl 22 (by decide) (hts (.fieldLink RX6 186 "TrialSearchModel" "halved" "I") (by decide +kernel)) rfl rfl dX6_halve_230 ?_
            refine lv_iconst (v := 1) hx hb dX6_halve_233 (by decide) ?_
            refine lv_iadd hx hb dX6_halve_234 ?_
            refine lv_topi (fun x_88 ex_88 => ?_)
            have hw := hw x_88 ex_88
            refine u_puti (ty := .int) (C := RX6) (T := TX6) (N := 31) hx hb hts hX6_halve_X6 tyX6 tyX6_ok nmX6 hown K U 5 5 (by decide) rfl rfl 22 (by decide) (hts (.fieldLink RX6 186 "TrialSearchModel" "halved" "I") (by decide +kernel)) rfl rfl (by decide +kernel) rfl rfl (Nat.le_of_ble_eq_true rfl) rfl dX6_halve_235 (fun H locs U => ?_)
            refine lv_aload_n hx hb dX6_halve_238 rfl (lv_at hl 1 rfl) ?_
            refine lv_aload_n hx hb dX6_halve_239 rfl (lv_at hl 1 rfl) ?_
            refine u_ci (u_rV (As := []) (rest := [.ref (g.2.1 5)]) (C := RX6) S K U 5 5 (by decide) rfl rfl (c_X6_inside hw) (cwV 0 hts gX6_halve_X6_inside rfl rfl rfl (by decide +kernel) ⟨Nat.le_of_ble_eq_true rfl, Nat.le_of_ble_eq_true rfl⟩) rfl hl.1 rfl (Nat.le_of_ble_eq_true rfl) dX6_halve_240 ⟨Nat.zero_le _, Nat.zero_le _⟩) U (fun r_89 A_90 B_91 H locs U9 hw => ?_)
            obtain ⟨eA, eB, hw⟩ := hw
            rw [eA, eB] at U9
            have U := U9
            refine lv_iconst (v := 2) hx hb dX6_halve_243 (by decide) ?_
            refine lv_icmp_ge (tgt := 251) hx hb dX6_halve_244 (by decide) (fun c_92 => ?_) (fun c_92 => ?_)
            · have hw := hw.1 c_92
              refine lv_iconst (v := 0) hx hb dX6_halve_251 (by decide) ?_
              refine u_puti (ty := .boolean) (C := RX6) (T := TX6) (N := 31) hx hb hts hX6_halve_X6 tyX6 tyX6_ok nmX6 hown K U 5 5 (by decide) rfl rfl 23 (by decide) (hts (.fieldLink RX6 189 "TrialSearchModel" "isOver" "Z") (by decide +kernel)) rfl rfl (by decide +kernel) (by decide +kernel) (by decide +kernel) (Nat.le_of_ble_eq_true rfl) rfl dX6_halve_252 (fun H locs U => ?_)
              refine lv_aload_n hx hb dX6_halve_255 rfl (lv_at hl 1 rfl) ?_
              refine u_ci (u_rV (As := []) (rest := []) (C := RX6) S K U 5 5 (by decide) rfl rfl (c_X6_inside hw) (cwV 0 hts gX6_halve_X6_inside rfl rfl rfl (by decide +kernel) ⟨Nat.le_of_ble_eq_true rfl, Nat.le_of_ble_eq_true rfl⟩) rfl hl.1 rfl (Nat.le_of_ble_eq_true rfl) dX6_halve_256 ⟨Nat.zero_le _, Nat.zero_le _⟩) U (fun r_93 A_94 B_95 H locs U9 hw => ?_)
              obtain ⟨eA, eB, hw⟩ := hw
              rw [eA, eB] at U9
              have U := U9
              exact u_iret hx hb hr hlocks U ⟨rfl, hw⟩ dX6_halve_259
            · have hw := hw.2 c_92
              refine lv_iconst (v := 1) hx hb dX6_halve_247 (by decide) ?_
              refine lv_goto (tgt := 252) hx hb dX6_halve_248 (by decide) ?_
              refine u_puti (ty := .boolean) (C := RX6) (T := TX6) (N := 31) hx hb hts hX6_halve_X6 tyX6 tyX6_ok nmX6 hown K U 5 5 (by decide) rfl rfl 23 (by decide) (hts (.fieldLink RX6 189 "TrialSearchModel" "isOver" "Z") (by decide +kernel)) rfl rfl (by decide +kernel) (by decide +kernel) (by decide +kernel) (Nat.le_of_ble_eq_true rfl) rfl dX6_halve_252 (fun H locs U => ?_)
              refine lv_aload_n hx hb dX6_halve_255 rfl (lv_at hl 1 rfl) ?_
              refine u_ci (u_rV (As := []) (rest := []) (C := RX6) S K U 5 5 (by decide) rfl rfl (c_X6_inside hw) (cwV 0 hts gX6_halve_X6_inside rfl rfl rfl (by decide +kernel) ⟨Nat.le_of_ble_eq_true rfl, Nat.le_of_ble_eq_true rfl⟩) rfl hl.1 rfl (Nat.le_of_ble_eq_true rfl) dX6_halve_256 ⟨Nat.zero_le _, Nat.zero_le _⟩) U (fun r_96 A_97 B_98 H locs U9 hw => ?_)
              obtain ⟨eA, eB, hw⟩ := hw
              rw [eA, eB] at U9
              have U := U9
              exact u_iret hx hb hr hlocks U ⟨rfl, hw⟩ dX6_halve_259
          · have hw := hw.2 c_86
            refine lv_ldc (v := 1000000000) hx hb hown (hts (.constant RX6 209 (1000000000)) (by decide +kernel)) dX6_halve_218 ?_
            refine lv_goto (tgt := 225) hx hb dX6_halve_220 (by decide) ?_
            refine u_puti (ty := .int) (C := RX6) (T := TX6) (N := 31) hx hb hts hX6_halve_X6 tyX6 tyX6_ok nmX6 hown K U 5 5 (by decide) rfl rfl 20 (by decide) (hts (.fieldLink RX6 180 "TrialSearchModel" "budget" "I") (by decide +kernel)) rfl rfl (by decide +kernel) rfl rfl (Nat.le_of_ble_eq_true rfl) rfl dX6_halve_225 (fun H locs U => ?_)
            refine lv_aload_n hx hb dX6_halve_228 rfl (lv_at hl 1 rfl) ?_
            refine lv_dup hx hb dX6_halve_229 rfl ?_
            refine u_get (C := RX6) (T := TX6) (N := 31) (v := .int (A_84 5 22)) hx hb hts hX6_halve_X6 hown K U 5 5 (by decide) rfl rfl 22 (by decide) (hts (.fieldLink RX6 186 "TrialSearchModel" "halved" "I") (by decide +kernel)) rfl rfl dX6_halve_230 ?_
            refine lv_iconst (v := 1) hx hb dX6_halve_233 (by decide) ?_
            refine lv_iadd hx hb dX6_halve_234 ?_
            refine lv_topi (fun x_99 ex_99 => ?_)
            have hw := hw x_99 ex_99
            refine u_puti (ty := .int) (C := RX6) (T := TX6) (N := 31) hx hb hts hX6_halve_X6 tyX6 tyX6_ok nmX6 hown K U 5 5 (by decide) rfl rfl 22 (by decide) (hts (.fieldLink RX6 186 "TrialSearchModel" "halved" "I") (by decide +kernel)) rfl rfl (by decide +kernel) rfl rfl (Nat.le_of_ble_eq_true rfl) rfl dX6_halve_235 (fun H locs U => ?_)
            refine lv_aload_n hx hb dX6_halve_238 rfl (lv_at hl 1 rfl) ?_
            refine lv_aload_n hx hb dX6_halve_239 rfl (lv_at hl 1 rfl) ?_
            refine u_ci (u_rV (As := []) (rest := [.ref (g.2.1 5)]) (C := RX6) S K U 5 5 (by decide) rfl rfl (c_X6_inside hw) (cwV 0 hts gX6_halve_X6_inside rfl rfl rfl (by decide +kernel) ⟨Nat.le_of_ble_eq_true rfl, Nat.le_of_ble_eq_true rfl⟩) rfl hl.1 rfl (Nat.le_of_ble_eq_true rfl) dX6_halve_240 ⟨Nat.zero_le _, Nat.zero_le _⟩) U (fun r_100 A_101 B_102 H locs U9 hw => ?_)
            obtain ⟨eA, eB, hw⟩ := hw
            rw [eA, eB] at U9
            have U := U9
            refine lv_iconst (v := 2) hx hb dX6_halve_243 (by decide) ?_
            refine lv_icmp_ge (tgt := 251) hx hb dX6_halve_244 (by decide) (fun c_103 => ?_) (fun c_103 => ?_)
            · have hw := hw.1 c_103
              refine lv_iconst (v := 0) hx hb dX6_halve_251 (by decide) ?_
              refine u_puti (ty := .boolean) (C := RX6) (T := TX6) (N := 31) hx hb hts hX6_halve_X6 tyX6 tyX6_ok nmX6 hown K U 5 5 (by decide) rfl rfl 23 (by decide) (hts (.fieldLink RX6 189 "TrialSearchModel" "isOver" "Z") (by decide +kernel)) rfl rfl (by decide +kernel) (by decide +kernel) (by decide +kernel) (Nat.le_of_ble_eq_true rfl) rfl dX6_halve_252 (fun H locs U => ?_)
              refine lv_aload_n hx hb dX6_halve_255 rfl (lv_at hl 1 rfl) ?_
              refine u_ci (u_rV (As := []) (rest := []) (C := RX6) S K U 5 5 (by decide) rfl rfl (c_X6_inside hw) (cwV 0 hts gX6_halve_X6_inside rfl rfl rfl (by decide +kernel) ⟨Nat.le_of_ble_eq_true rfl, Nat.le_of_ble_eq_true rfl⟩) rfl hl.1 rfl (Nat.le_of_ble_eq_true rfl) dX6_halve_256 ⟨Nat.zero_le _, Nat.zero_le _⟩) U (fun r_104 A_105 B_106 H locs U9 hw => ?_)
              obtain ⟨eA, eB, hw⟩ := hw
              rw [eA, eB] at U9
              have U := U9
              exact u_iret hx hb hr hlocks U ⟨rfl, hw⟩ dX6_halve_259
            · have hw := hw.2 c_103
              refine lv_iconst (v := 1) hx hb dX6_halve_247 (by decide) ?_
              refine lv_goto (tgt := 252) hx hb dX6_halve_248 (by decide) ?_
              refine u_puti (ty := .boolean) (C := RX6) (T := TX6) (N := 31) hx hb hts hX6_halve_X6 tyX6 tyX6_ok nmX6 hown K U 5 5 (by decide) rfl rfl 23 (by decide) (hts (.fieldLink RX6 189 "TrialSearchModel" "isOver" "Z") (by decide +kernel)) rfl rfl (by decide +kernel) (by decide +kernel) (by decide +kernel) (Nat.le_of_ble_eq_true rfl) rfl dX6_halve_252 (fun H locs U => ?_)
              refine lv_aload_n hx hb dX6_halve_255 rfl (lv_at hl 1 rfl) ?_
              refine u_ci (u_rV (As := []) (rest := []) (C := RX6) S K U 5 5 (by decide) rfl rfl (c_X6_inside hw) (cwV 0 hts gX6_halve_X6_inside rfl rfl rfl (by decide +kernel) ⟨Nat.le_of_ble_eq_true rfl, Nat.le_of_ble_eq_true rfl⟩) rfl hl.1 rfl (Nat.le_of_ble_eq_true rfl) dX6_halve_256 ⟨Nat.zero_le _, Nat.zero_le _⟩) U (fun r_107 A_108 B_109 H locs U9 hw => ?_)
              obtain ⟨eA, eB, hw⟩ := hw
              rw [eA, eB] at U9
              have U := U9
              exact u_iret hx hb hr hlocks U ⟨rfl, hw⟩ dX6_halve_259
      · have hw := hw.2 c_6
        refine lv_bipush (v := -3) hx hb dX6_halve_21 (by decide) ?_
        exact u_iret hx hb hr hlocks U ⟨rfl, hw⟩ dX6_halve_23
set_option maxHeartbeats 4000000 in
set_option maxRecDepth 100000 in
theorem c_X6_round {l : Launch} {g : uG} {a0 : Int32} {A : SA} {B : SB} {Q : Int32 → Prop} (hw : wp_X6_round a0 A B Q) : MI l yX6_round wsX6_round rmX6_round g A B [.ref (g.2.1 5), .int a0] (fun r A1 B1 => A1 = A ∧ B1 = B ∧ Q r ) := by
  refine u_of (cc := cX6_round) (maxL := 2) (ret := (some .int)) (by decide) rfl (Nat.le_of_ble_eq_true rfl) ?_
  intro p e s m below meth c ls C K U hl
  obtain ⟨hx, hb, hml, hown, hts, hr, hlocks⟩ := id C
  have S : CallFix p m c cX6_round 2 s ([.ref (g.2.1 5), .int a0] : List Value).toArray wsX6_round RX6 := ⟨hx, hb, hml, hown, hts⟩
  have hl : lv_has ls 2 [(0, .ref (g.2.1 5)), (1, .int a0)] := hl
  refine lv_iload_n hx hb dX6_round_0 rfl (lv_at hl 1 rfl) ?_
  refine lv_i2l hx hb dX6_round_1 rfl ?_
  refine lv_lconst (v := 0) hx hb dX6_round_2 (by decide) ?_
  refine lv_ldc2 (v := 3) hx hb hown (hts (.constantLong RX6 210 (3)) (by decide +kernel)) dX6_round_3 ?_
  refine u_ci (u_rS (As := [.long a0.toInt64, .long (0 : Int64), .long (3 : Int64)]) (rest := []) S K U (c_X6_in hw) (va_cwS 3 hts gX6_round_X6_in rfl rfl rfl (by decide +kernel) ⟨Nat.le_of_ble_eq_true rfl, Nat.le_of_ble_eq_true rfl⟩) rfl hl.1 rfl (Nat.le_of_ble_eq_true rfl) dX6_round_6 ⟨Nat.zero_le _, Nat.zero_le _⟩) U (fun r_1 A_2 B_3 H locs U9 hw => ?_)
  obtain ⟨eA, eB, hw⟩ := hw
  rw [eA, eB] at U9
  have U := U9
  refine lv_if_ne (tgt := 14) hx hb dX6_round_9 (by decide) (fun c_4 => ?_) (fun c_4 => ?_)
  · have hw := hw.1 c_4
    refine lv_aload_n hx hb dX6_round_14 rfl (lv_at hl 0 rfl) ?_
    refine u_get (C := RX6) (T := TX6) (N := 31) (v := .int (A 5 15)) hx hb hts hX6_round_X6 hown K U 5 5 (by decide) rfl rfl 15 (by decide) (hts (.fieldLink RX6 176 "TrialSearchModel" "isBracket" "Z") (by decide +kernel)) rfl rfl dX6_round_15 ?_
    refine lv_if_ne (tgt := 24) hx hb dX6_round_18 (by decide) (fun c_5 => ?_) (fun c_5 => ?_)
    · have hw := hw.1 c_5
      refine lv_iload_n hx hb dX6_round_24 rfl (lv_at hl 1 rfl) ?_
      refine lv_if_ne (tgt := 35) hx hb dX6_round_25 (by decide) (fun c_6 => ?_) (fun c_6 => ?_)
      · have hw := hw.1 c_6
        refine lv_iload_n hx hb dX6_round_35 rfl (lv_at hl 1 rfl) ?_
        refine lv_iconst (v := 1) hx hb dX6_round_36 (by decide) ?_
        refine lv_icmp_ne (tgt := 47) hx hb dX6_round_37 (by decide) (fun c_7 => ?_) (fun c_7 => ?_)
        · have hw := hw.1 c_7
          refine lv_iload_n hx hb dX6_round_47 rfl (lv_at hl 1 rfl) ?_
          refine lv_iconst (v := 2) hx hb dX6_round_48 (by decide) ?_
          refine lv_icmp_ne (tgt := 59) hx hb dX6_round_49 (by decide) (fun c_8 => ?_) (fun c_8 => ?_)
          · have hw := hw.1 c_8
            refine lv_aload_n hx hb dX6_round_59 rfl (lv_at hl 0 rfl) ?_
            refine u_get (C := RX6) (T := TX6) (N := 31) (v := .int (A 5 23)) hx hb hts hX6_round_X6 hown K U 5 5 (by decide) rfl rfl 23 (by decide) (hts (.fieldLink RX6 189 "TrialSearchModel" "isOver" "Z") (by decide +kernel)) rfl rfl dX6_round_60 ?_
            refine lv_if_eq (tgt := 70) hx hb dX6_round_63 (by decide) (fun c_9 => ?_) (fun c_9 => ?_)
            · have hw := hw.1 c_9
              refine lv_iconst (v := 0) hx hb dX6_round_70 (by decide) ?_
              exact u_iret hx hb hr hlocks U ⟨rfl, rfl, hw⟩ dX6_round_71
            · have hw := hw.2 c_9
              refine lv_iconst (v := 1) hx hb dX6_round_66 (by decide) ?_
              refine lv_goto (tgt := 71) hx hb dX6_round_67 (by decide) ?_
              exact u_iret hx hb hr hlocks U ⟨rfl, rfl, hw⟩ dX6_round_71
          · have hw := hw.2 c_8
            refine lv_aload_n hx hb dX6_round_52 rfl (lv_at hl 0 rfl) ?_
            refine u_get (C := RX6) (T := TX6) (N := 31) (v := .int (A 5 20)) hx hb hts hX6_round_X6 hown K U 5 5 (by decide) rfl rfl 20 (by decide) (hts (.fieldLink RX6 180 "TrialSearchModel" "budget" "I") (by decide +kernel)) rfl rfl dX6_round_53 ?_
            refine lv_goto (tgt := 71) hx hb dX6_round_56 (by decide) ?_
            exact u_iret hx hb hr hlocks U ⟨rfl, rfl, hw⟩ dX6_round_71
        · have hw := hw.2 c_7
          refine lv_aload_n hx hb dX6_round_40 rfl (lv_at hl 0 rfl) ?_
          refine u_get (C := RX6) (T := TX6) (N := 31) (v := .int (A 5 22)) hx hb hts hX6_round_X6 hown K U 5 5 (by decide) rfl rfl 22 (by decide) (hts (.fieldLink RX6 186 "TrialSearchModel" "halved" "I") (by decide +kernel)) rfl rfl dX6_round_41 ?_
          refine lv_goto (tgt := 71) hx hb dX6_round_44 (by decide) ?_
          exact u_iret hx hb hr hlocks U ⟨rfl, rfl, hw⟩ dX6_round_71
      · have hw := hw.2 c_6
        refine lv_aload_n hx hb dX6_round_28 rfl (lv_at hl 0 rfl) ?_
        refine u_ci (u_rV (As := []) (rest := []) (C := RX6) S K U 5 5 (by decide) rfl rfl (c_X6_inside hw) (cwV 0 hts gX6_round_X6_inside rfl rfl rfl (by decide +kernel) ⟨Nat.le_of_ble_eq_true rfl, Nat.le_of_ble_eq_true rfl⟩) rfl hl.1 rfl (Nat.le_of_ble_eq_true rfl) dX6_round_29 ⟨Nat.zero_le _, Nat.zero_le _⟩) U (fun r_10 A_11 B_12 H locs U9 hw => ?_)
        obtain ⟨eA, eB, hw⟩ := hw
        rw [eA, eB] at U9
        have U := U9
        refine lv_goto (tgt := 71) hx hb dX6_round_32 (by decide) ?_
        exact u_iret hx hb hr hlocks U ⟨rfl, rfl, hw⟩ dX6_round_71
    · have hw := hw.2 c_5
      refine lv_bipush (v := -2) hx hb dX6_round_21 (by decide) ?_
      exact u_iret hx hb hr hlocks U ⟨rfl, rfl, hw⟩ dX6_round_23
  · have hw := hw.2 c_4
    refine lv_iconst (v := -1) hx hb dX6_round_12 (by decide) ?_
    exact u_iret hx hb hr hlocks U ⟨rfl, rfl, hw⟩ dX6_round_13
set_option maxHeartbeats 4000000 in
set_option maxRecDepth 100000 in
theorem c_X6_cost {l : Launch} {g : uG}  {A : SA} {B : SB} {Q : Int64 → Prop} (hw : wp_X6_cost  A B Q) : ML l yX6_cost wsX6_cost rmX6_cost g A B [.ref (g.2.1 5)] (fun r A1 B1 => A1 = A ∧ B1 = B ∧ Q r ) := by
  refine u_of (cc := cX6_cost) (maxL := 1) (ret := (some .long)) (by decide) rfl (Nat.le_of_ble_eq_true rfl) ?_
  intro p e s m below meth c ls C K U hl
  obtain ⟨hx, hb, hml, hown, hts, hr, hlocks⟩ := id C
  have S : CallFix p m c cX6_cost 1 s ([.ref (g.2.1 5)] : List Value).toArray wsX6_cost RX6 := ⟨hx, hb, hml, hown, hts⟩
  have hl : lv_has ls 1 [(0, .ref (g.2.1 5))] := hl
  refine lv_aload_n hx hb dX6_cost_0 rfl (lv_at hl 0 rfl) ?_
  refine u_get (C := RX6) (T := TX6) (N := 31) (v := .long (B 5 24)) hx hb hts hX6_cost_X6 hown K U 5 5 (by decide) rfl rfl 24 (by decide) (hts (.fieldLink RX6 192 "TrialSearchModel" "cost" "J") (by decide +kernel)) rfl rfl dX6_cost_1 ?_
  exact u_lret hx hb hr hlocks U ⟨rfl, rfl, hw⟩ dX6_cost_4
set_option maxHeartbeats 4000000 in
set_option maxRecDepth 100000 in
theorem t_X6_plan_55 {p : Program} {l : Launch} {e : Env} {s : State} {m : MethodId} {args : Array Value} {below : List Frame} {meth : Method} {c : Code} {g : uG} {E76 : Int32 → Prop} {Q : Int32 → Prop} {v1 : Int32} {v2 : Int32} {v3 : Int32} {v4 : Int32} {A : SA} {B : SB} (C : uC p s m args meth c cX6_plan 9 RX6 wsX6_plan (some .int)) (K : UK g s) :
    ∀ {n : Nat} {v5 : Int32} {v6 : Int64} {H : Heap} {locs : List Loc} {ls : Array Slot}, wp_X6_plan_55 E76 Q v1 v2 v3 v4 A B n v5 v6 → UU g A B s.heap H locs → lv_has ls 9 [(1, .int v1), (2, .int v2), (3, .int v3), (4, .int v4), (5, .int v5), (6, .long v6)] → (∀ (v5 : Int32) (H : Heap) (locs : List Loc) (ls : Array Slot), UU g A B s.heap H locs → lv_has ls 9 [(1, .int v1), (2, .int v2), (3, .int v3), (4, .int v4), (5, .int v5)] → E76 v5 → W p l e rmX6_plan s m args below meth c H locs 0 0 (MQ below (uQi g (fun r A1 B1 => A1 = A ∧ B1 = B ∧ Q r )) args s 0 0 (FA g)) (F0 m 76 ls [])) → W p l e rmX6_plan s m args below meth c H locs 0 0 (MQ below (uQi g (fun r A1 B1 => A1 = A ∧ B1 = B ∧ Q r )) args s 0 0 (FA g)) (F0 m 55 ls []) := by
  obtain ⟨hx, hb, hml, hown, hts, hr, hlocks⟩ := id C
  have S : CallFix p m c cX6_plan 9 s args wsX6_plan RX6 := ⟨hx, hb, hml, hown, hts⟩
  intro n
  induction n with
  | zero => intro _ _ _ _ _ hw; exact False.elim hw
  | succ n ih =>
    intro v5 v6 H locs ls hw U hl h76
    refine lv_lload hx hb dX6_plan_55 (lv_at hl 5 rfl) ?_
    refine lv_iload_n hx hb dX6_plan_57 rfl (lv_at hl 0 rfl) ?_
    refine lv_i2l hx hb dX6_plan_58 rfl ?_
    refine u_lc_gt (tgt := 76) hx hb dX6_plan_59 dX6_plan_60 (by decide) (fun c_15 => ?_) (fun c_15 => ?_)
    · have hw := hw.1 c_15
      exact h76 _ _ _ _ U (lv_sub hl [0, 1, 2, 3, 4] rfl) hw
    · have hw := hw.2 c_15
      refine lv_lload hx hb dX6_plan_63 (lv_at hl 5 rfl) ?_
      refine lv_iload_n hx hb dX6_plan_65 rfl (lv_at hl 1 rfl) ?_
      refine lv_i2l hx hb dX6_plan_66 rfl ?_
      refine lv_lmul hx hb dX6_plan_67 ?_
      refine lv_topl (fun x_16 ex_16 => ?_)
      have hw := hw x_16 ex_16
      refine lv_lstore (lv' := [(6, .long x_16), (1, .int v1), (2, .int v2), (3, .int v3), (4, .int v4), (5, .int v5)]) hx hb dX6_plan_68 hl (by decide) rfl (fun ls hl => ?_)
      obtain ⟨v5_17, ev5_17⟩ : ∃ y : Int32, y = v5 + 1 := ⟨_, rfl⟩
      have hw := hw v5_17 ev5_17
      refine lv_iinc (v := v5_17) (lv' := [(5, .int v5_17), (6, .long x_16), (1, .int v1), (2, .int v2), (3, .int v3), (4, .int v4)]) hx hb dX6_plan_70 hl (k := 5) rfl (by rw [ev5_17]; rfl) (by decide) rfl (fun ls hl => ?_)
      refine lv_goto (tgt := 55) hx hb dX6_plan_73 (by decide) ?_
      exact ih hw U (lv_sub hl [2, 3, 4, 5, 0, 1] rfl) h76
set_option maxHeartbeats 4000000 in
set_option maxRecDepth 100000 in
theorem t_X6_plan_98 {p : Program} {l : Launch} {e : Env} {s : State} {m : MethodId} {args : Array Value} {below : List Frame} {meth : Method} {c : Code} {g : uG} {E117 : Int64 → Prop} {Q : Int32 → Prop} {v1 : Int32} {v2 : Int32} {v3 : Int32} {v4 : Int32} {v5 : Int32} {A : SA} {B : SB} (C : uC p s m args meth c cX6_plan 9 RX6 wsX6_plan (some .int)) (K : UK g s) :
    ∀ {n : Nat} {v6 : Int64} {v8 : Int32} {H : Heap} {locs : List Loc} {ls : Array Slot}, wp_X6_plan_98 E117 Q v1 v2 v3 v4 v5 A B n v6 v8 → UU g A B s.heap H locs → lv_has ls 9 [(1, .int v1), (2, .int v2), (3, .int v3), (4, .int v4), (5, .int v5), (6, .long v6), (8, .int v8)] → (∀ (v6 : Int64) (H : Heap) (locs : List Loc) (ls : Array Slot), UU g A B s.heap H locs → lv_has ls 9 [(1, .int v1), (3, .int v3), (4, .int v4), (5, .int v5), (6, .long v6)] → E117 v6 → W p l e rmX6_plan s m args below meth c H locs 0 0 (MQ below (uQi g (fun r A1 B1 => A1 = A ∧ B1 = B ∧ Q r )) args s 0 0 (FA g)) (F0 m 117 ls [])) → W p l e rmX6_plan s m args below meth c H locs 0 0 (MQ below (uQi g (fun r A1 B1 => A1 = A ∧ B1 = B ∧ Q r )) args s 0 0 (FA g)) (F0 m 98 ls []) := by
  obtain ⟨hx, hb, hml, hown, hts, hr, hlocks⟩ := id C
  have S : CallFix p m c cX6_plan 9 s args wsX6_plan RX6 := ⟨hx, hb, hml, hown, hts⟩
  intro n
  induction n with
  | zero => intro _ _ _ _ _ hw; exact False.elim hw
  | succ n ih =>
    intro v6 v8 H locs ls hw U hl h117
    refine lv_iload hx hb dX6_plan_98 (lv_at hl 6 rfl) ?_
    refine lv_iload_n hx hb dX6_plan_100 rfl (lv_at hl 2 rfl) ?_
    refine lv_icmp_ge (tgt := 117) hx hb dX6_plan_101 (by decide) (fun c_24 => ?_) (fun c_24 => ?_)
    · have hw := hw.1 c_24
      exact h117 _ _ _ _ U (lv_sub hl [0, 2, 3, 4, 5] rfl) hw
    · have hw := hw.2 c_24
      refine lv_lload hx hb dX6_plan_104 (lv_at hl 5 rfl) ?_
      refine lv_iload_n hx hb dX6_plan_106 rfl (lv_at hl 1 rfl) ?_
      refine lv_i2l hx hb dX6_plan_107 rfl ?_
      refine lv_lmul hx hb dX6_plan_108 ?_
      refine lv_topl (fun x_25 ex_25 => ?_)
      have hw := hw x_25 ex_25
      refine lv_lstore (lv' := [(6, .long x_25), (1, .int v1), (2, .int v2), (3, .int v3), (4, .int v4), (5, .int v5), (8, .int v8)]) hx hb dX6_plan_109 hl (by decide) rfl (fun ls hl => ?_)
      obtain ⟨v8_26, ev8_26⟩ : ∃ y : Int32, y = v8 + 1 := ⟨_, rfl⟩
      have hw := hw v8_26 ev8_26
      refine lv_iinc (v := v8_26) (lv' := [(8, .int v8_26), (6, .long x_25), (1, .int v1), (2, .int v2), (3, .int v3), (4, .int v4), (5, .int v5)]) hx hb dX6_plan_111 hl (k := 6) rfl (by rw [ev8_26]; rfl) (by decide) rfl (fun ls hl => ?_)
      refine lv_goto (tgt := 98) hx hb dX6_plan_114 (by decide) ?_
      exact ih hw U (lv_sub hl [2, 3, 4, 5, 6, 1, 0] rfl) h117
set_option maxHeartbeats 4000000 in
set_option maxRecDepth 100000 in
theorem c_X6_plan {l : Launch} {g : uG} {a0 : Int32} {a1 : Int32} {a2 : Int32} {a3 : Int32} {A : SA} {B : SB} {Q : Int32 → Prop} (hw : wp_X6_plan a0 a1 a2 a3 A B Q) : MI l yX6_plan wsX6_plan rmX6_plan g A B [.ref (g.2.1 5), .int a0, .int a1, .int a2, .int a3] (fun r A1 B1 => A1 = A ∧ B1 = B ∧ Q r ) := by
  refine u_of (cc := cX6_plan) (maxL := 9) (ret := (some .int)) (by decide) rfl (Nat.le_of_ble_eq_true rfl) ?_
  intro p e s m below meth c ls C K U hl
  obtain ⟨hx, hb, hml, hown, hts, hr, hlocks⟩ := id C
  have S : CallFix p m c cX6_plan 9 s ([.ref (g.2.1 5), .int a0, .int a1, .int a2, .int a3] : List Value).toArray wsX6_plan RX6 := ⟨hx, hb, hml, hown, hts⟩
  have hl : lv_has ls 9 [(0, .ref (g.2.1 5)), (1, .int a0), (2, .int a1), (3, .int a2), (4, .int a3)] := hl
  refine lv_iload_n hx hb dX6_plan_0 rfl (lv_at hl 1 rfl) ?_
  refine lv_i2l hx hb dX6_plan_1 rfl ?_
  refine lv_lconst (v := 1) hx hb dX6_plan_2 (by decide) ?_
  refine lv_ldc2 (v := 1000000) hx hb hown (hts (.constantLong RX6 160 (1000000)) (by decide +kernel)) dX6_plan_3 ?_
  refine u_ci (u_rS (As := [.long a0.toInt64, .long (1 : Int64), .long (1000000 : Int64)]) (rest := []) S K U (c_X6_in hw) (va_cwS 3 hts gX6_plan_X6_in rfl rfl rfl (by decide +kernel) ⟨Nat.le_of_ble_eq_true rfl, Nat.le_of_ble_eq_true rfl⟩) rfl hl.1 rfl (Nat.le_of_ble_eq_true rfl) dX6_plan_6 ⟨Nat.zero_le _, Nat.zero_le _⟩) U (fun r_1 A_2 B_3 H locs U9 hw => ?_)
  obtain ⟨eA, eB, hw⟩ := hw
  rw [eA, eB] at U9
  have U := U9
  refine lv_if_eq (tgt := 46) hx hb dX6_plan_9 (by decide) (fun c_4 => ?_) (fun c_4 => ?_)
  · have hw := hw.1 c_4
    refine lv_iconst (v := -1) hx hb dX6_plan_46 (by decide) ?_
    exact u_iret hx hb hr hlocks U ⟨rfl, rfl, hw⟩ dX6_plan_47
  · have hw := hw.2 c_4
    refine lv_iload_n hx hb dX6_plan_12 rfl (lv_at hl 2 rfl) ?_
    refine lv_i2l hx hb dX6_plan_13 rfl ?_
    refine lv_ldc2 (v := 2) hx hb hown (hts (.constantLong RX6 129 (2)) (by decide +kernel)) dX6_plan_14 ?_
    refine lv_ldc2 (v := 5) hx hb hown (hts (.constantLong RX6 144 (5)) (by decide +kernel)) dX6_plan_17 ?_
    refine u_ci (u_rS (As := [.long a1.toInt64, .long (2 : Int64), .long (5 : Int64)]) (rest := []) S K U (c_X6_in hw) (va_cwS 3 hts gX6_plan_X6_in rfl rfl rfl (by decide +kernel) ⟨Nat.le_of_ble_eq_true rfl, Nat.le_of_ble_eq_true rfl⟩) rfl hl.1 rfl (Nat.le_of_ble_eq_true rfl) dX6_plan_20 ⟨Nat.zero_le _, Nat.zero_le _⟩) U (fun r_5 A_6 B_7 H locs U9 hw => ?_)
    obtain ⟨eA, eB, hw⟩ := hw
    rw [eA, eB] at U9
    have U := U9
    refine lv_if_eq (tgt := 46) hx hb dX6_plan_23 (by decide) (fun c_8 => ?_) (fun c_8 => ?_)
    · have hw := hw.1 c_8
      refine lv_iconst (v := -1) hx hb dX6_plan_46 (by decide) ?_
      exact u_iret hx hb hr hlocks U ⟨rfl, rfl, hw⟩ dX6_plan_47
    · have hw := hw.2 c_8
      refine lv_iload hx hb dX6_plan_26 (lv_at hl 4 rfl) ?_
      refine lv_i2l hx hb dX6_plan_28 rfl ?_
      refine lv_lconst (v := 0) hx hb dX6_plan_29 (by decide) ?_
      refine lv_iload_n hx hb dX6_plan_30 rfl (lv_at hl 3 rfl) ?_
      refine lv_iconst (v := -1) hx hb dX6_plan_31 (by decide) ?_
      refine lv_icmp_ne (tgt := 39) hx hb dX6_plan_32 (by decide) (fun c_9 => ?_) (fun c_9 => ?_)
      · have hw := hw.1 c_9
        refine lv_lconst (v := 1) hx hb dX6_plan_39 (by decide) ?_
        refine u_ci (u_rS (As := [.long a3.toInt64, .long (0 : Int64), .long (1 : Int64)]) (rest := []) S K U (c_X6_in hw) (va_cwS 3 hts gX6_plan_X6_in rfl rfl rfl (by decide +kernel) ⟨Nat.le_of_ble_eq_true rfl, Nat.le_of_ble_eq_true rfl⟩) rfl hl.1 rfl (Nat.le_of_ble_eq_true rfl) dX6_plan_40 ⟨Nat.zero_le _, Nat.zero_le _⟩) U (fun r_10 A_11 B_12 H locs U9 hw => ?_)
        obtain ⟨eA, eB, hw⟩ := hw
        rw [eA, eB] at U9
        have U := U9
        refine lv_if_ne (tgt := 48) hx hb dX6_plan_43 (by decide) (fun c_13 => ?_) (fun c_13 => ?_)
        · have hw := hw.1 c_13
          refine lv_iconst (v := 0) hx hb dX6_plan_48 (by decide) ?_
          refine lv_istore (lv' := [(5, .int (0 : Int32)), (0, .ref (g.2.1 5)), (1, .int a0), (2, .int a1), (3, .int a2), (4, .int a3)]) hx hb dX6_plan_49 hl (by decide) rfl (fun ls hl => ?_)
          refine lv_iload_n hx hb dX6_plan_51 rfl (lv_at hl 3 rfl) ?_
          refine lv_i2l hx hb dX6_plan_52 rfl ?_
          refine lv_topl (fun x_14 ex_14 => ?_)
          have hw := hw x_14 ex_14
          refine lv_lstore (lv' := [(6, .long x_14), (5, .int (0 : Int32)), (0, .ref (g.2.1 5)), (1, .int a0), (2, .int a1), (3, .int a2), (4, .int a3)]) hx hb dX6_plan_53 hl (by decide) rfl (fun ls hl => ?_)
          obtain ⟨n_18, hw⟩ := hw
          refine t_X6_plan_55 C K hw U (lv_sub hl [3, 4, 5, 6, 1, 0] rfl) (fun v5_19 H locs ls U hl hw => ?_)
          refine lv_iload_n hx hb dX6_plan_76 rfl (lv_at hl 2 rfl) ?_
          refine lv_i2l hx hb dX6_plan_77 rfl ?_
          refine lv_ldc2 (v := -1) hx hb hown (hts (.constantLong RX6 84 (-1)) (by decide +kernel)) dX6_plan_78 ?_
          refine lv_iload hx hb dX6_plan_81 (lv_at hl 4 rfl) ?_
          refine lv_i2l hx hb dX6_plan_83 rfl ?_
          refine u_ci (u_rS (As := [.long a2.toInt64, .long (-1 : Int64), .long v5_19.toInt64]) (rest := []) S K U (c_X6_in hw) (va_cwS 3 hts gX6_plan_X6_in rfl rfl rfl (by decide +kernel) ⟨Nat.le_of_ble_eq_true rfl, Nat.le_of_ble_eq_true rfl⟩) rfl hl.1 rfl (Nat.le_of_ble_eq_true rfl) dX6_plan_84 ⟨Nat.zero_le _, Nat.zero_le _⟩) U (fun r_20 A_21 B_22 H locs U9 hw => ?_)
          obtain ⟨eA, eB, hw⟩ := hw
          rw [eA, eB] at U9
          have U := U9
          refine lv_if_ne (tgt := 92) hx hb dX6_plan_87 (by decide) (fun c_23 => ?_) (fun c_23 => ?_)
          · have hw := hw.1 c_23
            refine lv_lconst (v := 1) hx hb dX6_plan_92 (by decide) ?_
            refine lv_lstore (lv' := [(6, .long (1 : Int64)), (1, .int a0), (2, .int a1), (3, .int a2), (4, .int a3), (5, .int v5_19)]) hx hb dX6_plan_93 hl (by decide) rfl (fun ls hl => ?_)
            refine lv_iconst (v := 0) hx hb dX6_plan_95 (by decide) ?_
            refine lv_istore (lv' := [(8, .int (0 : Int32)), (6, .long (1 : Int64)), (1, .int a0), (2, .int a1), (3, .int a2), (4, .int a3), (5, .int v5_19)]) hx hb dX6_plan_96 hl (by decide) rfl (fun ls hl => ?_)
            obtain ⟨n_27, hw⟩ := hw
            refine t_X6_plan_98 C K hw U (lv_sub hl [2, 3, 4, 5, 6, 1, 0] rfl) (fun v6_28 H locs ls U hl hw => ?_)
            refine lv_iload_n hx hb dX6_plan_117 rfl (lv_at hl 1 rfl) ?_
            refine lv_if_ge (tgt := 126) hx hb dX6_plan_118 (by decide) (fun c_29 => ?_) (fun c_29 => ?_)
            · have hw := hw.1 c_29
              refine lv_iload hx hb dX6_plan_126 (lv_at hl 2 rfl) ?_
              refine lv_if_ne (tgt := 151) hx hb dX6_plan_128 (by decide) (fun c_30 => ?_) (fun c_30 => ?_)
              · have hw := hw.1 c_30
                refine lv_iload_n hx hb dX6_plan_151 rfl (lv_at hl 0 rfl) ?_
                refine lv_i2l hx hb dX6_plan_152 rfl ?_
                refine lv_lload hx hb dX6_plan_153 (lv_at hl 4 rfl) ?_
                obtain ⟨hz_31, hw⟩ := hw
                refine lv_ldiv hx hb dX6_plan_155 hz_31 ?_
                refine lv_l2i hx hb dX6_plan_156 rfl ?_
                exact u_iret hx hb hr hlocks U ⟨rfl, rfl, hw⟩ dX6_plan_157
              · have hw := hw.2 c_30
                refine lv_iload hx hb dX6_plan_131 (lv_at hl 3 rfl) ?_
                refine lv_iconst (v := 1) hx hb dX6_plan_133 (by decide) ?_
                refine lv_iadd hx hb dX6_plan_134 ?_
                refine lv_i2l hx hb dX6_plan_135 rfl ?_
                refine lv_lload hx hb dX6_plan_136 (lv_at hl 4 rfl) ?_
                refine lv_lmul hx hb dX6_plan_138 ?_
                refine lv_iload_n hx hb dX6_plan_139 rfl (lv_at hl 1 rfl) ?_
                refine lv_i2l hx hb dX6_plan_140 rfl ?_
                refine lv_ladd hx hb dX6_plan_141 ?_
                refine lv_iload_n hx hb dX6_plan_142 rfl (lv_at hl 1 rfl) ?_
                refine lv_iconst (v := 1) hx hb dX6_plan_143 (by decide) ?_
                refine lv_iadd hx hb dX6_plan_144 ?_
                refine lv_i2l hx hb dX6_plan_145 rfl ?_
                obtain ⟨hz_32, hw⟩ := hw
                refine lv_ldiv hx hb dX6_plan_146 hz_32 ?_
                refine lv_l2i hx hb dX6_plan_147 rfl ?_
                refine lv_goto (tgt := 157) hx hb dX6_plan_148 (by decide) ?_
                exact u_iret hx hb hr hlocks U ⟨rfl, rfl, hw⟩ dX6_plan_157
            · have hw := hw.2 c_29
              refine lv_iload hx hb dX6_plan_121 (lv_at hl 3 rfl) ?_
              refine lv_goto (tgt := 157) hx hb dX6_plan_123 (by decide) ?_
              exact u_iret hx hb hr hlocks U ⟨rfl, rfl, hw⟩ dX6_plan_157
          · have hw := hw.2 c_23
            refine lv_iconst (v := -1) hx hb dX6_plan_90 (by decide) ?_
            exact u_iret hx hb hr hlocks U ⟨rfl, rfl, hw⟩ dX6_plan_91
        · have hw := hw.2 c_13
          refine lv_iconst (v := -1) hx hb dX6_plan_46 (by decide) ?_
          exact u_iret hx hb hr hlocks U ⟨rfl, rfl, hw⟩ dX6_plan_47
      · have hw := hw.2 c_9
        refine lv_lconst (v := 0) hx hb dX6_plan_35 (by decide) ?_
        refine lv_goto (tgt := 40) hx hb dX6_plan_36 (by decide) ?_
        refine u_ci (u_rS (As := [.long a3.toInt64, .long (0 : Int64), .long (0 : Int64)]) (rest := []) S K U (c_X6_in hw) (va_cwS 3 hts gX6_plan_X6_in rfl rfl rfl (by decide +kernel) ⟨Nat.le_of_ble_eq_true rfl, Nat.le_of_ble_eq_true rfl⟩) rfl hl.1 rfl (Nat.le_of_ble_eq_true rfl) dX6_plan_40 ⟨Nat.zero_le _, Nat.zero_le _⟩) U (fun r_33 A_34 B_35 H locs U9 hw => ?_)
        obtain ⟨eA, eB, hw⟩ := hw
        rw [eA, eB] at U9
        have U := U9
        refine lv_if_ne (tgt := 48) hx hb dX6_plan_43 (by decide) (fun c_36 => ?_) (fun c_36 => ?_)
        · have hw := hw.1 c_36
          refine lv_iconst (v := 0) hx hb dX6_plan_48 (by decide) ?_
          refine lv_istore (lv' := [(5, .int (0 : Int32)), (0, .ref (g.2.1 5)), (1, .int a0), (2, .int a1), (3, .int a2), (4, .int a3)]) hx hb dX6_plan_49 hl (by decide) rfl (fun ls hl => ?_)
          refine lv_iload_n hx hb dX6_plan_51 rfl (lv_at hl 3 rfl) ?_
          refine lv_i2l hx hb dX6_plan_52 rfl ?_
          refine lv_topl (fun x_37 ex_37 => ?_)
          have hw := hw x_37 ex_37
          refine lv_lstore (lv' := [(6, .long x_37), (5, .int (0 : Int32)), (0, .ref (g.2.1 5)), (1, .int a0), (2, .int a1), (3, .int a2), (4, .int a3)]) hx hb dX6_plan_53 hl (by decide) rfl (fun ls hl => ?_)
          obtain ⟨n_38, hw⟩ := hw
          refine t_X6_plan_55 C K hw U (lv_sub hl [3, 4, 5, 6, 1, 0] rfl) (fun v5_39 H locs ls U hl hw => ?_)
          refine lv_iload_n hx hb dX6_plan_76 rfl (lv_at hl 2 rfl) ?_
          refine lv_i2l hx hb dX6_plan_77 rfl ?_
          refine lv_ldc2 (v := -1) hx hb hown (hts (.constantLong RX6 84 (-1)) (by decide +kernel)) dX6_plan_78 ?_
          refine lv_iload hx hb dX6_plan_81 (lv_at hl 4 rfl) ?_
          refine lv_i2l hx hb dX6_plan_83 rfl ?_
          refine u_ci (u_rS (As := [.long a2.toInt64, .long (-1 : Int64), .long v5_39.toInt64]) (rest := []) S K U (c_X6_in hw) (va_cwS 3 hts gX6_plan_X6_in rfl rfl rfl (by decide +kernel) ⟨Nat.le_of_ble_eq_true rfl, Nat.le_of_ble_eq_true rfl⟩) rfl hl.1 rfl (Nat.le_of_ble_eq_true rfl) dX6_plan_84 ⟨Nat.zero_le _, Nat.zero_le _⟩) U (fun r_40 A_41 B_42 H locs U9 hw => ?_)
          obtain ⟨eA, eB, hw⟩ := hw
          rw [eA, eB] at U9
          have U := U9
          refine lv_if_ne (tgt := 92) hx hb dX6_plan_87 (by decide) (fun c_43 => ?_) (fun c_43 => ?_)
          · have hw := hw.1 c_43
            refine lv_lconst (v := 1) hx hb dX6_plan_92 (by decide) ?_
            refine lv_lstore (lv' := [(6, .long (1 : Int64)), (1, .int a0), (2, .int a1), (3, .int a2), (4, .int a3), (5, .int v5_39)]) hx hb dX6_plan_93 hl (by decide) rfl (fun ls hl => ?_)
            refine lv_iconst (v := 0) hx hb dX6_plan_95 (by decide) ?_
            refine lv_istore (lv' := [(8, .int (0 : Int32)), (6, .long (1 : Int64)), (1, .int a0), (2, .int a1), (3, .int a2), (4, .int a3), (5, .int v5_39)]) hx hb dX6_plan_96 hl (by decide) rfl (fun ls hl => ?_)
            obtain ⟨n_44, hw⟩ := hw
            refine t_X6_plan_98 C K hw U (lv_sub hl [2, 3, 4, 5, 6, 1, 0] rfl) (fun v6_45 H locs ls U hl hw => ?_)
            refine lv_iload_n hx hb dX6_plan_117 rfl (lv_at hl 1 rfl) ?_
            refine lv_if_ge (tgt := 126) hx hb dX6_plan_118 (by decide) (fun c_46 => ?_) (fun c_46 => ?_)
            · have hw := hw.1 c_46
              refine lv_iload hx hb dX6_plan_126 (lv_at hl 2 rfl) ?_
              refine lv_if_ne (tgt := 151) hx hb dX6_plan_128 (by decide) (fun c_47 => ?_) (fun c_47 => ?_)
              · have hw := hw.1 c_47
                refine lv_iload_n hx hb dX6_plan_151 rfl (lv_at hl 0 rfl) ?_
                refine lv_i2l hx hb dX6_plan_152 rfl ?_
                refine lv_lload hx hb dX6_plan_153 (lv_at hl 4 rfl) ?_
                obtain ⟨hz_48, hw⟩ := hw
                refine lv_ldiv hx hb dX6_plan_155 hz_48 ?_
                refine lv_l2i hx hb dX6_plan_156 rfl ?_
                exact u_iret hx hb hr hlocks U ⟨rfl, rfl, hw⟩ dX6_plan_157
              · have hw := hw.2 c_47
                refine lv_iload hx hb dX6_plan_131 (lv_at hl 3 rfl) ?_
                refine lv_iconst (v := 1) hx hb dX6_plan_133 (by decide) ?_
                refine lv_iadd hx hb dX6_plan_134 ?_
                refine lv_i2l hx hb dX6_plan_135 rfl ?_
                refine lv_lload hx hb dX6_plan_136 (lv_at hl 4 rfl) ?_
                refine lv_lmul hx hb dX6_plan_138 ?_
                refine lv_iload_n hx hb dX6_plan_139 rfl (lv_at hl 1 rfl) ?_
                refine lv_i2l hx hb dX6_plan_140 rfl ?_
                refine lv_ladd hx hb dX6_plan_141 ?_
                refine lv_iload_n hx hb dX6_plan_142 rfl (lv_at hl 1 rfl) ?_
                refine lv_iconst (v := 1) hx hb dX6_plan_143 (by decide) ?_
                refine lv_iadd hx hb dX6_plan_144 ?_
                refine lv_i2l hx hb dX6_plan_145 rfl ?_
                obtain ⟨hz_49, hw⟩ := hw
                refine lv_ldiv hx hb dX6_plan_146 hz_49 ?_
                refine lv_l2i hx hb dX6_plan_147 rfl ?_
                refine lv_goto (tgt := 157) hx hb dX6_plan_148 (by decide) ?_
                exact u_iret hx hb hr hlocks U ⟨rfl, rfl, hw⟩ dX6_plan_157
            · have hw := hw.2 c_46
              refine lv_iload hx hb dX6_plan_121 (lv_at hl 3 rfl) ?_
              refine lv_goto (tgt := 157) hx hb dX6_plan_123 (by decide) ?_
              exact u_iret hx hb hr hlocks U ⟨rfl, rfl, hw⟩ dX6_plan_157
          · have hw := hw.2 c_43
            refine lv_iconst (v := -1) hx hb dX6_plan_90 (by decide) ?_
            exact u_iret hx hb hr hlocks U ⟨rfl, rfl, hw⟩ dX6_plan_91
        · have hw := hw.2 c_36
          refine lv_iconst (v := -1) hx hb dX6_plan_46 (by decide) ?_
          exact u_iret hx hb hr hlocks U ⟨rfl, rfl, hw⟩ dX6_plan_47
set_option maxHeartbeats 4000000 in
set_option maxRecDepth 100000 in
theorem t_X6_folds_77 {p : Program} {l : Launch} {e : Env} {s : State} {m : MethodId} {args : Array Value} {below : List Frame} {meth : Method} {c : Code} {g : uG} {E143 : SA → Prop} {Q : Int32 → SA → Prop} {v1 : Int32} {v4 : Int32} {v5 : Int32} {B : SB} (C : uC p s m args meth c cX6_folds 9 RX6 wsX6_folds (some .int)) (K : UK g s) :
    ∀ {n : Nat} {v6 : Int32} {A : SA} {H : Heap} {locs : List Loc} {ls : Array Slot}, wp_X6_folds_77 E143 Q v1 v4 v5 B n v6 A → UU g A B s.heap H locs → lv_has ls 9 [(0, .ref (g.2.1 5)), (1, .int v1), (4, .int v4), (5, .int v5), (6, .int v6)] → (∀ (A : SA) (H : Heap) (locs : List Loc) (ls : Array Slot), UU g A B s.heap H locs → lv_has ls 9 [(0, .ref (g.2.1 5)), (1, .int v1), (4, .int v4), (5, .int v5)] → E143 A → W p l e rmX6_folds s m args below meth c H locs 0 0 (MQ below (uQi g (fun r A1 B1 => B1 = B ∧ Q r A1 )) args s 0 0 (FA g)) (F0 m 143 ls [])) → W p l e rmX6_folds s m args below meth c H locs 0 0 (MQ below (uQi g (fun r A1 B1 => B1 = B ∧ Q r A1 )) args s 0 0 (FA g)) (F0 m 77 ls []) := by
  obtain ⟨hx, hb, hml, hown, hts, hr, hlocks⟩ := id C
  have S : CallFix p m c cX6_folds 9 s args wsX6_folds RX6 := ⟨hx, hb, hml, hown, hts⟩
  intro n
  induction n with
  | zero => intro _ _ _ _ _ hw; exact False.elim hw
  | succ n ih =>
    intro v6 A H locs ls hw U hl h143
    refine lv_iload hx hb dX6_folds_77 (lv_at hl 4 rfl) ?_
    refine lv_iload_n hx hb dX6_folds_79 rfl (lv_at hl 1 rfl) ?_
    refine lv_icmp_ge (tgt := 143) hx hb dX6_folds_80 (by decide) (fun c_15 => ?_) (fun c_15 => ?_)
    · have hw := hw.1 c_15
      exact h143 _ _ _ _ U (lv_sub hl [0, 1, 2, 3] rfl) hw
    · have hw := hw.2 c_15
      refine lv_iload hx hb dX6_folds_83 (lv_at hl 2 rfl) ?_
      refine lv_iload hx hb dX6_folds_85 (lv_at hl 3 rfl) ?_
      refine u_ci (u_rS (As := [.int v4, .int v5]) (rest := []) S K U (c_X6_hash hw) (va_cwS 2 hts gX6_folds_X6_hash rfl rfl rfl (by decide +kernel) ⟨Nat.le_of_ble_eq_true rfl, Nat.le_of_ble_eq_true rfl⟩) rfl hl.1 rfl (Nat.le_of_ble_eq_true rfl) dX6_folds_87 ⟨Nat.zero_le _, Nat.zero_le _⟩) U (fun r_16 A_17 B_18 H locs U9 hw => ?_)
      obtain ⟨eA, eB, hw⟩ := hw
      rw [eA, eB] at U9
      have U := U9
      refine lv_istore (lv' := [(7, .int r_16), (0, .ref (g.2.1 5)), (1, .int v1), (4, .int v4), (5, .int v5), (6, .int v6)]) hx hb dX6_folds_90 hl (by decide) rfl (fun ls hl => ?_)
      refine lv_iload hx hb dX6_folds_92 (lv_at hl 3 rfl) ?_
      refine lv_iload hx hb dX6_folds_94 (lv_at hl 5 rfl) ?_
      refine u_ci (u_rS (As := [.int v4, .int v6]) (rest := []) S K U (c_X6_hash hw) (va_cwS 2 hts gX6_folds_X6_hash rfl rfl rfl (by decide +kernel) ⟨Nat.le_of_ble_eq_true rfl, Nat.le_of_ble_eq_true rfl⟩) rfl hl.1 rfl (Nat.le_of_ble_eq_true rfl) dX6_folds_96 ⟨Nat.zero_le _, Nat.zero_le _⟩) U (fun r_19 A_20 B_21 H locs U9 hw => ?_)
      obtain ⟨eA, eB, hw⟩ := hw
      rw [eA, eB] at U9
      have U := U9
      refine lv_istore (lv' := [(8, .int r_19), (7, .int r_16), (0, .ref (g.2.1 5)), (1, .int v1), (4, .int v4), (5, .int v5), (6, .int v6)]) hx hb dX6_folds_99 hl (by decide) rfl (fun ls hl => ?_)
      refine lv_aload_n hx hb dX6_folds_101 rfl (lv_at hl 2 rfl) ?_
      refine u_get (C := RX6) (T := TX6) (N := 31) (v := .ref (g.2.1 45)) hx hb hts hX6_folds_X6 hown K U 5 5 (by decide) rfl rfl 28 (by decide) (hts (.fieldLink RX6 69 "TrialSearchModel" "place" "[I") (by decide +kernel)) rfl rfl dX6_folds_102 ?_
      refine lv_iload hx hb dX6_folds_105 (lv_at hl 5 rfl) ?_
      refine lv_dup2_11 hx hb dX6_folds_107 rfl rfl ?_
      obtain ⟨hi_22, hw⟩ := hw
      refine u_iald (k := 45) (v := (A 45 v5.toNatClampNeg)) hx hb K U rfl (by decide) rfl hi_22 rfl dX6_folds_108 ?_
      refine lv_iload hx hb dX6_folds_109 (lv_at hl 0 rfl) ?_
      refine lv_iload hx hb dX6_folds_111 (lv_at hl 1 rfl) ?_
      refine lv_icmp_lt (tgt := 130) hx hb dX6_folds_113 (by decide) (fun c_23 => ?_) (fun c_23 => ?_)
      · have hw := hw.1 c_23
        refine lv_iconst (v := 1) hx hb dX6_folds_130 (by decide) ?_
        refine lv_goto (tgt := 135) hx hb dX6_folds_131 (by decide) ?_
        refine lv_iadd hx hb dX6_folds_135 ?_
        refine lv_topi (fun x_24 ex_24 => ?_)
        have hw := hw x_24 ex_24
        obtain ⟨hi_25, hw⟩ := hw
        refine u_iast (k := 45) hx hb K U rfl (by decide) rfl hi_25 dX6_folds_136 (fun H locs U => ?_)
        obtain ⟨v6_26, ev6_26⟩ : ∃ y : Int32, y = v6 + 1 := ⟨_, rfl⟩
        have hw := hw v6_26 ev6_26
        refine lv_iinc (v := v6_26) (lv' := [(6, .int v6_26), (8, .int r_19), (7, .int r_16), (0, .ref (g.2.1 5)), (1, .int v1), (4, .int v4), (5, .int v5)]) hx hb dX6_folds_137 hl (k := 6) rfl (by rw [ev6_26]; rfl) (by decide) rfl (fun ls hl => ?_)
        refine lv_goto (tgt := 77) hx hb dX6_folds_140 (by decide) ?_
        exact ih hw U (lv_sub hl [3, 4, 5, 6, 0] rfl) h143
      · have hw := hw.2 c_23
        refine lv_iload hx hb dX6_folds_116 (lv_at hl 0 rfl) ?_
        refine lv_iload hx hb dX6_folds_118 (lv_at hl 1 rfl) ?_
        refine lv_icmp_ne (tgt := 134) hx hb dX6_folds_120 (by decide) (fun c_27 => ?_) (fun c_27 => ?_)
        · have hw := hw.1 c_27
          refine lv_iconst (v := 0) hx hb dX6_folds_134 (by decide) ?_
          refine lv_iadd hx hb dX6_folds_135 ?_
          refine lv_topi (fun x_28 ex_28 => ?_)
          have hw := hw x_28 ex_28
          obtain ⟨hi_29, hw⟩ := hw
          refine u_iast (k := 45) hx hb K U rfl (by decide) rfl hi_29 dX6_folds_136 (fun H locs U => ?_)
          obtain ⟨v6_30, ev6_30⟩ : ∃ y : Int32, y = v6 + 1 := ⟨_, rfl⟩
          have hw := hw v6_30 ev6_30
          refine lv_iinc (v := v6_30) (lv' := [(6, .int v6_30), (8, .int r_19), (7, .int r_16), (0, .ref (g.2.1 5)), (1, .int v1), (4, .int v4), (5, .int v5)]) hx hb dX6_folds_137 hl (k := 6) rfl (by rw [ev6_30]; rfl) (by decide) rfl (fun ls hl => ?_)
          refine lv_goto (tgt := 77) hx hb dX6_folds_140 (by decide) ?_
          exact ih hw U (lv_sub hl [3, 4, 5, 6, 0] rfl) h143
        · have hw := hw.2 c_27
          refine lv_iload hx hb dX6_folds_123 (lv_at hl 6 rfl) ?_
          refine lv_iload hx hb dX6_folds_125 (lv_at hl 5 rfl) ?_
          refine lv_icmp_ge (tgt := 134) hx hb dX6_folds_127 (by decide) (fun c_31 => ?_) (fun c_31 => ?_)
          · have hw := hw.1 c_31
            refine lv_iconst (v := 0) hx hb dX6_folds_134 (by decide) ?_
            refine lv_iadd hx hb dX6_folds_135 ?_
            refine lv_topi (fun x_32 ex_32 => ?_)
            have hw := hw x_32 ex_32
            obtain ⟨hi_33, hw⟩ := hw
            refine u_iast (k := 45) hx hb K U rfl (by decide) rfl hi_33 dX6_folds_136 (fun H locs U => ?_)
            obtain ⟨v6_34, ev6_34⟩ : ∃ y : Int32, y = v6 + 1 := ⟨_, rfl⟩
            have hw := hw v6_34 ev6_34
            refine lv_iinc (v := v6_34) (lv' := [(6, .int v6_34), (8, .int r_19), (7, .int r_16), (0, .ref (g.2.1 5)), (1, .int v1), (4, .int v4), (5, .int v5)]) hx hb dX6_folds_137 hl (k := 6) rfl (by rw [ev6_34]; rfl) (by decide) rfl (fun ls hl => ?_)
            refine lv_goto (tgt := 77) hx hb dX6_folds_140 (by decide) ?_
            exact ih hw U (lv_sub hl [3, 4, 5, 6, 0] rfl) h143
          · have hw := hw.2 c_31
            refine lv_iconst (v := 1) hx hb dX6_folds_130 (by decide) ?_
            refine lv_goto (tgt := 135) hx hb dX6_folds_131 (by decide) ?_
            refine lv_iadd hx hb dX6_folds_135 ?_
            refine lv_topi (fun x_35 ex_35 => ?_)
            have hw := hw x_35 ex_35
            obtain ⟨hi_36, hw⟩ := hw
            refine u_iast (k := 45) hx hb K U rfl (by decide) rfl hi_36 dX6_folds_136 (fun H locs U => ?_)
            obtain ⟨v6_37, ev6_37⟩ : ∃ y : Int32, y = v6 + 1 := ⟨_, rfl⟩
            have hw := hw v6_37 ev6_37
            refine lv_iinc (v := v6_37) (lv' := [(6, .int v6_37), (8, .int r_19), (7, .int r_16), (0, .ref (g.2.1 5)), (1, .int v1), (4, .int v4), (5, .int v5)]) hx hb dX6_folds_137 hl (k := 6) rfl (by rw [ev6_37]; rfl) (by decide) rfl (fun ls hl => ?_)
            refine lv_goto (tgt := 77) hx hb dX6_folds_140 (by decide) ?_
            exact ih hw U (lv_sub hl [3, 4, 5, 6, 0] rfl) h143
set_option maxHeartbeats 4000000 in
set_option maxRecDepth 100000 in
theorem t_X6_folds_60 {p : Program} {l : Launch} {e : Env} {s : State} {m : MethodId} {args : Array Value} {below : List Frame} {meth : Method} {c : Code} {g : uG} {E149 : SA → Prop} {Q : Int32 → SA → Prop} {v1 : Int32} {v4 : Int32} {B : SB} (C : uC p s m args meth c cX6_folds 9 RX6 wsX6_folds (some .int)) (K : UK g s) :
    ∀ {n : Nat} {v5 : Int32} {A : SA} {H : Heap} {locs : List Loc} {ls : Array Slot}, wp_X6_folds_60 E149 Q v1 v4 B n v5 A → UU g A B s.heap H locs → lv_has ls 9 [(0, .ref (g.2.1 5)), (1, .int v1), (4, .int v4), (5, .int v5)] → (∀ (A : SA) (H : Heap) (locs : List Loc) (ls : Array Slot), UU g A B s.heap H locs → lv_has ls 9 [(0, .ref (g.2.1 5))] → E149 A → W p l e rmX6_folds s m args below meth c H locs 0 0 (MQ below (uQi g (fun r A1 B1 => B1 = B ∧ Q r A1 )) args s 0 0 (FA g)) (F0 m 149 ls [])) → W p l e rmX6_folds s m args below meth c H locs 0 0 (MQ below (uQi g (fun r A1 B1 => B1 = B ∧ Q r A1 )) args s 0 0 (FA g)) (F0 m 60 ls []) := by
  obtain ⟨hx, hb, hml, hown, hts, hr, hlocks⟩ := id C
  have S : CallFix p m c cX6_folds 9 s args wsX6_folds RX6 := ⟨hx, hb, hml, hown, hts⟩
  intro n
  induction n with
  | zero => intro _ _ _ _ _ hw; exact False.elim hw
  | succ n ih =>
    intro v5 A H locs ls hw U hl h149
    refine lv_iload hx hb dX6_folds_60 (lv_at hl 3 rfl) ?_
    refine lv_iload_n hx hb dX6_folds_62 rfl (lv_at hl 1 rfl) ?_
    refine lv_icmp_ge (tgt := 149) hx hb dX6_folds_63 (by decide) (fun c_13 => ?_) (fun c_13 => ?_)
    · have hw := hw.1 c_13
      exact h149 _ _ _ _ U (lv_sub hl [0] rfl) hw
    · have hw := hw.2 c_13
      refine lv_aload_n hx hb dX6_folds_66 rfl (lv_at hl 0 rfl) ?_
      refine u_get (C := RX6) (T := TX6) (N := 31) (v := .ref (g.2.1 45)) hx hb hts hX6_folds_X6 hown K U 5 5 (by decide) rfl rfl 28 (by decide) (hts (.fieldLink RX6 69 "TrialSearchModel" "place" "[I") (by decide +kernel)) rfl rfl dX6_folds_67 ?_
      refine lv_iload hx hb dX6_folds_70 (lv_at hl 3 rfl) ?_
      refine lv_iconst (v := 0) hx hb dX6_folds_72 (by decide) ?_
      obtain ⟨hi_14, hw⟩ := hw
      refine u_iast (k := 45) hx hb K U rfl (by decide) rfl hi_14 dX6_folds_73 (fun H locs U => ?_)
      refine lv_iconst (v := 0) hx hb dX6_folds_74 (by decide) ?_
      refine lv_istore (lv' := [(6, .int (0 : Int32)), (0, .ref (g.2.1 5)), (1, .int v1), (4, .int v4), (5, .int v5)]) hx hb dX6_folds_75 hl (by decide) rfl (fun ls hl => ?_)
      obtain ⟨n_38, hw⟩ := hw
      refine t_X6_folds_77 C K hw U (lv_sub hl [1, 2, 3, 4, 0] rfl) (fun A_39 H locs ls U hl hw => ?_)
      obtain ⟨v5_40, ev5_40⟩ : ∃ y : Int32, y = v5 + 1 := ⟨_, rfl⟩
      have hw := hw v5_40 ev5_40
      refine lv_iinc (v := v5_40) (lv' := [(5, .int v5_40), (0, .ref (g.2.1 5)), (1, .int v1), (4, .int v4)]) hx hb dX6_folds_143 hl (k := 3) rfl (by rw [ev5_40]; rfl) (by decide) rfl (fun ls hl => ?_)
      refine lv_goto (tgt := 60) hx hb dX6_folds_146 (by decide) ?_
      exact ih hw U (lv_sub hl [1, 2, 3, 0] rfl) h149
set_option maxHeartbeats 4000000 in
set_option maxRecDepth 100000 in
theorem t_X6_folds_152 {p : Program} {l : Launch} {e : Env} {s : State} {m : MethodId} {args : Array Value} {below : List Frame} {meth : Method} {c : Code} {g : uG} {E174 : SA → Prop} {Q : Int32 → SA → Prop} {B : SB} (C : uC p s m args meth c cX6_folds 9 RX6 wsX6_folds (some .int)) (K : UK g s) :
    ∀ {n : Nat} {v5 : Int32} {A : SA} {H : Heap} {locs : List Loc} {ls : Array Slot}, wp_X6_folds_152 E174 Q B n v5 A → UU g A B s.heap H locs → lv_has ls 9 [(0, .ref (g.2.1 5)), (5, .int v5)] → (∀ (A : SA) (H : Heap) (locs : List Loc) (ls : Array Slot), UU g A B s.heap H locs → lv_has ls 9 [(0, .ref (g.2.1 5))] → E174 A → W p l e rmX6_folds s m args below meth c H locs 0 0 (MQ below (uQi g (fun r A1 B1 => B1 = B ∧ Q r A1 )) args s 0 0 (FA g)) (F0 m 174 ls [])) → W p l e rmX6_folds s m args below meth c H locs 0 0 (MQ below (uQi g (fun r A1 B1 => B1 = B ∧ Q r A1 )) args s 0 0 (FA g)) (F0 m 152 ls []) := by
  obtain ⟨hx, hb, hml, hown, hts, hr, hlocks⟩ := id C
  have S : CallFix p m c cX6_folds 9 s args wsX6_folds RX6 := ⟨hx, hb, hml, hown, hts⟩
  intro n
  induction n with
  | zero => intro _ _ _ _ _ hw; exact False.elim hw
  | succ n ih =>
    intro v5 A H locs ls hw U hl h174
    refine lv_iload hx hb dX6_folds_152 (lv_at hl 1 rfl) ?_
    refine lv_sipush (v := 6000) hx hb dX6_folds_154 (by decide) ?_
    refine lv_icmp_ge (tgt := 174) hx hb dX6_folds_157 (by decide) (fun c_43 => ?_) (fun c_43 => ?_)
    · have hw := hw.1 c_43
      exact h174 _ _ _ _ U (lv_sub hl [0] rfl) hw
    · have hw := hw.2 c_43
      refine lv_aload_n hx hb dX6_folds_160 rfl (lv_at hl 0 rfl) ?_
      refine u_get (C := RX6) (T := TX6) (N := 31) (v := .ref (g.2.1 47)) hx hb hts hX6_folds_X6 hown K U 5 5 (by decide) rfl rfl 30 (by decide) (hts (.fieldLink RX6 75 "TrialSearchModel" "counts" "[I") (by decide +kernel)) rfl rfl dX6_folds_161 ?_
      refine lv_iload hx hb dX6_folds_164 (lv_at hl 1 rfl) ?_
      refine lv_iconst (v := 0) hx hb dX6_folds_166 (by decide) ?_
      obtain ⟨hi_44, hw⟩ := hw
      refine u_iast (k := 47) hx hb K U rfl (by decide) rfl hi_44 dX6_folds_167 (fun H locs U => ?_)
      obtain ⟨v5_45, ev5_45⟩ : ∃ y : Int32, y = v5 + 1 := ⟨_, rfl⟩
      have hw := hw v5_45 ev5_45
      refine lv_iinc (v := v5_45) (lv' := [(5, .int v5_45), (0, .ref (g.2.1 5))]) hx hb dX6_folds_168 hl (k := 1) rfl (by rw [ev5_45]; rfl) (by decide) rfl (fun ls hl => ?_)
      refine lv_goto (tgt := 152) hx hb dX6_folds_171 (by decide) ?_
      exact ih hw U (lv_sub hl [1, 0] rfl) h174
set_option maxHeartbeats 4000000 in
set_option maxRecDepth 100000 in
theorem t_X6_folds_177 {p : Program} {l : Launch} {e : Env} {s : State} {m : MethodId} {args : Array Value} {below : List Frame} {meth : Method} {c : Code} {g : uG} {E198 : SA → Prop} {Q : Int32 → SA → Prop} {B : SB} (C : uC p s m args meth c cX6_folds 9 RX6 wsX6_folds (some .int)) (K : UK g s) :
    ∀ {n : Nat} {v5 : Int32} {A : SA} {H : Heap} {locs : List Loc} {ls : Array Slot}, wp_X6_folds_177 E198 Q B n v5 A → UU g A B s.heap H locs → lv_has ls 9 [(0, .ref (g.2.1 5)), (5, .int v5)] → (∀ (A : SA) (H : Heap) (locs : List Loc) (ls : Array Slot), UU g A B s.heap H locs → lv_has ls 9 [] → E198 A → W p l e rmX6_folds s m args below meth c H locs 0 0 (MQ below (uQi g (fun r A1 B1 => B1 = B ∧ Q r A1 )) args s 0 0 (FA g)) (F0 m 198 ls [])) → W p l e rmX6_folds s m args below meth c H locs 0 0 (MQ below (uQi g (fun r A1 B1 => B1 = B ∧ Q r A1 )) args s 0 0 (FA g)) (F0 m 177 ls []) := by
  obtain ⟨hx, hb, hml, hown, hts, hr, hlocks⟩ := id C
  have S : CallFix p m c cX6_folds 9 s args wsX6_folds RX6 := ⟨hx, hb, hml, hown, hts⟩
  intro n
  induction n with
  | zero => intro _ _ _ _ _ hw; exact False.elim hw
  | succ n ih =>
    intro v5 A H locs ls hw U hl h198
    refine lv_iload hx hb dX6_folds_177 (lv_at hl 1 rfl) ?_
    refine lv_bipush (v := 10) hx hb dX6_folds_179 (by decide) ?_
    refine lv_icmp_ge (tgt := 198) hx hb dX6_folds_181 (by decide) (fun c_48 => ?_) (fun c_48 => ?_)
    · have hw := hw.1 c_48
      exact h198 _ _ _ _ U (lv_sub hl [] rfl) hw
    · have hw := hw.2 c_48
      refine lv_aload_n hx hb dX6_folds_184 rfl (lv_at hl 0 rfl) ?_
      refine u_get (C := RX6) (T := TX6) (N := 31) (v := .ref (g.2.1 46)) hx hb hts hX6_folds_X6 hown K U 5 5 (by decide) rfl rfl 29 (by decide) (hts (.fieldLink RX6 72 "TrialSearchModel" "isTested" "[Z") (by decide +kernel)) rfl rfl dX6_folds_185 ?_
      refine lv_iload hx hb dX6_folds_188 (lv_at hl 1 rfl) ?_
      refine lv_iconst (v := 0) hx hb dX6_folds_190 (by decide) ?_
      obtain ⟨hi_49, hw⟩ := hw
      refine u_zast (k := 46) hx hb K U rfl (by decide) rfl hi_49 dX6_folds_191 (fun H locs U => ?_)
      obtain ⟨v5_50, ev5_50⟩ : ∃ y : Int32, y = v5 + 1 := ⟨_, rfl⟩
      have hw := hw v5_50 ev5_50
      refine lv_iinc (v := v5_50) (lv' := [(5, .int v5_50), (0, .ref (g.2.1 5))]) hx hb dX6_folds_192 hl (k := 1) rfl (by rw [ev5_50]; rfl) (by decide) rfl (fun ls hl => ?_)
      refine lv_goto (tgt := 177) hx hb dX6_folds_195 (by decide) ?_
      exact ih hw U (lv_sub hl [1, 0] rfl) h198
set_option maxHeartbeats 4000000 in
set_option maxRecDepth 100000 in
theorem c_X6_folds {l : Launch} {g : uG} {a0 : Int32} {a1 : Int32} {a2 : Int32} {a3 : Int32} {A : SA} {B : SB} {Q : Int32 → SA → Prop} (hw : wp_X6_folds a0 a1 a2 a3 A B Q) : MI l yX6_folds wsX6_folds rmX6_folds g A B [.ref (g.2.1 5), .int a0, .int a1, .int a2, .int a3] (fun r A1 B1 => B1 = B ∧ Q r A1 ) := by
  refine u_of (cc := cX6_folds) (maxL := 9) (ret := (some .int)) (by decide) rfl (Nat.le_of_ble_eq_true rfl) ?_
  intro p e s m below meth c ls C K U hl
  obtain ⟨hx, hb, hml, hown, hts, hr, hlocks⟩ := id C
  have S : CallFix p m c cX6_folds 9 s ([.ref (g.2.1 5), .int a0, .int a1, .int a2, .int a3] : List Value).toArray wsX6_folds RX6 := ⟨hx, hb, hml, hown, hts⟩
  have hl : lv_has ls 9 [(0, .ref (g.2.1 5)), (1, .int a0), (2, .int a1), (3, .int a2), (4, .int a3)] := hl
  refine lv_iload_n hx hb dX6_folds_0 rfl (lv_at hl 1 rfl) ?_
  refine lv_i2l hx hb dX6_folds_1 rfl ?_
  refine lv_lconst (v := 1) hx hb dX6_folds_2 (by decide) ?_
  refine lv_ldc2 (v := 200) hx hb hown (hts (.constantLong RX6 212 (200)) (by decide +kernel)) dX6_folds_3 ?_
  refine u_ci (u_rS (As := [.long a0.toInt64, .long (1 : Int64), .long (200 : Int64)]) (rest := []) S K U (c_X6_in hw) (va_cwS 3 hts gX6_folds_X6_in rfl rfl rfl (by decide +kernel) ⟨Nat.le_of_ble_eq_true rfl, Nat.le_of_ble_eq_true rfl⟩) rfl hl.1 rfl (Nat.le_of_ble_eq_true rfl) dX6_folds_6 ⟨Nat.zero_le _, Nat.zero_le _⟩) U (fun r_1 A_2 B_3 H locs U9 hw => ?_)
  obtain ⟨eA, eB, hw⟩ := hw
  rw [eA, eB] at U9
  have U := U9
  refine lv_if_eq (tgt := 40) hx hb dX6_folds_9 (by decide) (fun c_4 => ?_) (fun c_4 => ?_)
  · have hw := hw.1 c_4
    refine lv_iconst (v := -1) hx hb dX6_folds_40 (by decide) ?_
    exact u_iret hx hb hr hlocks U ⟨rfl, hw⟩ dX6_folds_41
  · have hw := hw.2 c_4
    refine lv_iload_n hx hb dX6_folds_12 rfl (lv_at hl 2 rfl) ?_
    refine lv_i2l hx hb dX6_folds_13 rfl ?_
    refine lv_ldc2 (v := 2) hx hb hown (hts (.constantLong RX6 129 (2)) (by decide +kernel)) dX6_folds_14 ?_
    refine lv_ldc2 (v := 10) hx hb hown (hts (.constantLong RX6 214 (10)) (by decide +kernel)) dX6_folds_17 ?_
    refine u_ci (u_rS (As := [.long a1.toInt64, .long (2 : Int64), .long (10 : Int64)]) (rest := []) S K U (c_X6_in hw) (va_cwS 3 hts gX6_folds_X6_in rfl rfl rfl (by decide +kernel) ⟨Nat.le_of_ble_eq_true rfl, Nat.le_of_ble_eq_true rfl⟩) rfl hl.1 rfl (Nat.le_of_ble_eq_true rfl) dX6_folds_20 ⟨Nat.zero_le _, Nat.zero_le _⟩) U (fun r_5 A_6 B_7 H locs U9 hw => ?_)
    obtain ⟨eA, eB, hw⟩ := hw
    rw [eA, eB] at U9
    have U := U9
    refine lv_if_eq (tgt := 40) hx hb dX6_folds_23 (by decide) (fun c_8 => ?_) (fun c_8 => ?_)
    · have hw := hw.1 c_8
      refine lv_iconst (v := -1) hx hb dX6_folds_40 (by decide) ?_
      exact u_iret hx hb hr hlocks U ⟨rfl, hw⟩ dX6_folds_41
    · have hw := hw.2 c_8
      refine lv_iload_n hx hb dX6_folds_26 rfl (lv_at hl 3 rfl) ?_
      refine lv_i2l hx hb dX6_folds_27 rfl ?_
      refine lv_ldc2 (v := 2) hx hb hown (hts (.constantLong RX6 129 (2)) (by decide +kernel)) dX6_folds_28 ?_
      refine lv_ldc2 (v := 10) hx hb hown (hts (.constantLong RX6 214 (10)) (by decide +kernel)) dX6_folds_31 ?_
      refine u_ci (u_rS (As := [.long a2.toInt64, .long (2 : Int64), .long (10 : Int64)]) (rest := []) S K U (c_X6_in hw) (va_cwS 3 hts gX6_folds_X6_in rfl rfl rfl (by decide +kernel) ⟨Nat.le_of_ble_eq_true rfl, Nat.le_of_ble_eq_true rfl⟩) rfl hl.1 rfl (Nat.le_of_ble_eq_true rfl) dX6_folds_34 ⟨Nat.zero_le _, Nat.zero_le _⟩) U (fun r_9 A_10 B_11 H locs U9 hw => ?_)
      obtain ⟨eA, eB, hw⟩ := hw
      rw [eA, eB] at U9
      have U := U9
      refine lv_if_ne (tgt := 42) hx hb dX6_folds_37 (by decide) (fun c_12 => ?_) (fun c_12 => ?_)
      · have hw := hw.1 c_12
        refine lv_aload_n hx hb dX6_folds_42 rfl (lv_at hl 0 rfl) ?_
        refine lv_iload_n hx hb dX6_folds_43 rfl (lv_at hl 1 rfl) ?_
        refine u_puti (ty := .int) (C := RX6) (T := TX6) (N := 31) hx hb hts hX6_folds_X6 tyX6 tyX6_ok nmX6 hown K U 5 5 (by decide) rfl rfl 25 (by decide) (hts (.fieldLink RX6 216 "TrialSearchModel" "rows" "I") (by decide +kernel)) rfl rfl (by decide +kernel) rfl rfl (Nat.le_of_ble_eq_true rfl) rfl dX6_folds_44 (fun H locs U => ?_)
        refine lv_aload_n hx hb dX6_folds_47 rfl (lv_at hl 0 rfl) ?_
        refine lv_iload_n hx hb dX6_folds_48 rfl (lv_at hl 2 rfl) ?_
        refine u_puti (ty := .int) (C := RX6) (T := TX6) (N := 31) hx hb hts hX6_folds_X6 tyX6 tyX6_ok nmX6 hown K U 5 5 (by decide) rfl rfl 26 (by decide) (hts (.fieldLink RX6 219 "TrialSearchModel" "outers" "I") (by decide +kernel)) rfl rfl (by decide +kernel) rfl rfl (Nat.le_of_ble_eq_true rfl) rfl dX6_folds_49 (fun H locs U => ?_)
        refine lv_aload_n hx hb dX6_folds_52 rfl (lv_at hl 0 rfl) ?_
        refine lv_iload_n hx hb dX6_folds_53 rfl (lv_at hl 3 rfl) ?_
        refine u_puti (ty := .int) (C := RX6) (T := TX6) (N := 31) hx hb hts hX6_folds_X6 tyX6 tyX6_ok nmX6 hown K U 5 5 (by decide) rfl rfl 27 (by decide) (hts (.fieldLink RX6 222 "TrialSearchModel" "inners" "I") (by decide +kernel)) rfl rfl (by decide +kernel) rfl rfl (Nat.le_of_ble_eq_true rfl) rfl dX6_folds_54 (fun H locs U => ?_)
        refine lv_iconst (v := 0) hx hb dX6_folds_57 (by decide) ?_
        refine lv_istore (lv' := [(5, .int (0 : Int32)), (0, .ref (g.2.1 5)), (1, .int a0), (2, .int a1), (3, .int a2), (4, .int a3)]) hx hb dX6_folds_58 hl (by decide) rfl (fun ls hl => ?_)
        obtain ⟨n_41, hw⟩ := hw
        refine t_X6_folds_60 C K hw U (lv_sub hl [1, 2, 5, 0] rfl) (fun A_42 H locs ls U hl hw => ?_)
        refine lv_iconst (v := 0) hx hb dX6_folds_149 (by decide) ?_
        refine lv_istore (lv' := [(5, .int (0 : Int32)), (0, .ref (g.2.1 5))]) hx hb dX6_folds_150 hl (by decide) rfl (fun ls hl => ?_)
        obtain ⟨n_46, hw⟩ := hw
        refine t_X6_folds_152 C K hw U (lv_sub hl [1, 0] rfl) (fun A_47 H locs ls U hl hw => ?_)
        refine lv_iconst (v := 0) hx hb dX6_folds_174 (by decide) ?_
        refine lv_istore (lv' := [(5, .int (0 : Int32)), (0, .ref (g.2.1 5))]) hx hb dX6_folds_175 hl (by decide) rfl (fun ls hl => ?_)
        obtain ⟨n_51, hw⟩ := hw
        refine t_X6_folds_177 C K hw U (lv_sub hl [1, 0] rfl) (fun A_52 H locs ls U hl hw => ?_)
        refine lv_iconst (v := 1) hx hb dX6_folds_198 (by decide) ?_
        exact u_iret hx hb hr hlocks U ⟨rfl, hw⟩ dX6_folds_199
      · have hw := hw.2 c_12
        refine lv_iconst (v := -1) hx hb dX6_folds_40 (by decide) ?_
        exact u_iret hx hb hr hlocks U ⟨rfl, hw⟩ dX6_folds_41
set_option maxHeartbeats 4000000 in
set_option maxRecDepth 100000 in
theorem c_X6_outerOf {l : Launch} {g : uG} {a0 : Int32} {A : SA} {B : SB} {Q : Int32 → Prop} (hw : wp_X6_outerOf a0 A B Q) : MI l yX6_outerOf wsX6_outerOf rmX6_outerOf g A B [.ref (g.2.1 5), .int a0] (fun r A1 B1 => A1 = A ∧ B1 = B ∧ Q r ) := by
  refine u_of (cc := cX6_outerOf) (maxL := 2) (ret := (some .int)) (by decide) rfl (Nat.le_of_ble_eq_true rfl) ?_
  intro p e s m below meth c ls C K U hl
  obtain ⟨hx, hb, hml, hown, hts, hr, hlocks⟩ := id C
  have S : CallFix p m c cX6_outerOf 2 s ([.ref (g.2.1 5), .int a0] : List Value).toArray wsX6_outerOf RX6 := ⟨hx, hb, hml, hown, hts⟩
  have hl : lv_has ls 2 [(0, .ref (g.2.1 5)), (1, .int a0)] := hl
  refine lv_aload_n hx hb dX6_outerOf_0 rfl (lv_at hl 0 rfl) ?_
  refine u_get (C := RX6) (T := TX6) (N := 31) (v := .ref (g.2.1 45)) hx hb hts hX6_outerOf_X6 hown K U 5 5 (by decide) rfl rfl 28 (by decide) (hts (.fieldLink RX6 69 "TrialSearchModel" "place" "[I") (by decide +kernel)) rfl rfl dX6_outerOf_1 ?_
  refine lv_iload_n hx hb dX6_outerOf_4 rfl (lv_at hl 1 rfl) ?_
  obtain ⟨hi_1, hw⟩ := hw
  refine u_iald (k := 45) (v := (A 45 a0.toNatClampNeg)) hx hb K U rfl (by decide) rfl hi_1 rfl dX6_outerOf_5 ?_
  refine lv_aload_n hx hb dX6_outerOf_6 rfl (lv_at hl 0 rfl) ?_
  refine u_get (C := RX6) (T := TX6) (N := 31) (v := .int (A 5 26)) hx hb hts hX6_outerOf_X6 hown K U 5 5 (by decide) rfl rfl 26 (by decide) (hts (.fieldLink RX6 219 "TrialSearchModel" "outers" "I") (by decide +kernel)) rfl rfl dX6_outerOf_7 ?_
  obtain ⟨hz_2, hw⟩ := hw
  refine lv_irem hx hb dX6_outerOf_10 hz_2 ?_
  exact u_iret hx hb hr hlocks U ⟨rfl, rfl, hw⟩ dX6_outerOf_11
set_option maxHeartbeats 4000000 in
set_option maxRecDepth 100000 in
theorem c_X6_innerOf {l : Launch} {g : uG} {a0 : Int32} {A : SA} {B : SB} {Q : Int32 → Prop} (hw : wp_X6_innerOf a0 A B Q) : MI l yX6_innerOf wsX6_innerOf rmX6_innerOf g A B [.ref (g.2.1 5), .int a0] (fun r A1 B1 => A1 = A ∧ B1 = B ∧ Q r ) := by
  refine u_of (cc := cX6_innerOf) (maxL := 2) (ret := (some .int)) (by decide) rfl (Nat.le_of_ble_eq_true rfl) ?_
  intro p e s m below meth c ls C K U hl
  obtain ⟨hx, hb, hml, hown, hts, hr, hlocks⟩ := id C
  have S : CallFix p m c cX6_innerOf 2 s ([.ref (g.2.1 5), .int a0] : List Value).toArray wsX6_innerOf RX6 := ⟨hx, hb, hml, hown, hts⟩
  have hl : lv_has ls 2 [(0, .ref (g.2.1 5)), (1, .int a0)] := hl
  refine lv_aload_n hx hb dX6_innerOf_0 rfl (lv_at hl 0 rfl) ?_
  refine u_get (C := RX6) (T := TX6) (N := 31) (v := .ref (g.2.1 45)) hx hb hts hX6_innerOf_X6 hown K U 5 5 (by decide) rfl rfl 28 (by decide) (hts (.fieldLink RX6 69 "TrialSearchModel" "place" "[I") (by decide +kernel)) rfl rfl dX6_innerOf_1 ?_
  refine lv_iload_n hx hb dX6_innerOf_4 rfl (lv_at hl 1 rfl) ?_
  obtain ⟨hi_1, hw⟩ := hw
  refine u_iald (k := 45) (v := (A 45 a0.toNatClampNeg)) hx hb K U rfl (by decide) rfl hi_1 rfl dX6_innerOf_5 ?_
  refine lv_aload_n hx hb dX6_innerOf_6 rfl (lv_at hl 0 rfl) ?_
  refine u_get (C := RX6) (T := TX6) (N := 31) (v := .int (A 5 26)) hx hb hts hX6_innerOf_X6 hown K U 5 5 (by decide) rfl rfl 26 (by decide) (hts (.fieldLink RX6 219 "TrialSearchModel" "outers" "I") (by decide +kernel)) rfl rfl dX6_innerOf_7 ?_
  obtain ⟨hz_2, hw⟩ := hw
  refine lv_idiv hx hb dX6_innerOf_10 hz_2 ?_
  refine lv_aload_n hx hb dX6_innerOf_11 rfl (lv_at hl 0 rfl) ?_
  refine u_get (C := RX6) (T := TX6) (N := 31) (v := .int (A 5 27)) hx hb hts hX6_innerOf_X6 hown K U 5 5 (by decide) rfl rfl 27 (by decide) (hts (.fieldLink RX6 222 "TrialSearchModel" "inners" "I") (by decide +kernel)) rfl rfl dX6_innerOf_12 ?_
  obtain ⟨hz_3, hw⟩ := hw
  refine lv_irem hx hb dX6_innerOf_15 hz_3 ?_
  exact u_iret hx hb hr hlocks U ⟨rfl, rfl, hw⟩ dX6_innerOf_16
set_option maxHeartbeats 4000000 in
set_option maxRecDepth 100000 in
theorem c_X6_fold {l : Launch} {g : uG} {a0 : Int32} {a1 : Int32} {A : SA} {B : SB} {Q : Int32 → Prop} (hw : wp_X6_fold a0 a1 A B Q) : MI l yX6_fold wsX6_fold rmX6_fold g A B [.ref (g.2.1 5), .int a0, .int a1] (fun r A1 B1 => A1 = A ∧ B1 = B ∧ Q r ) := by
  refine u_of (cc := cX6_fold) (maxL := 3) (ret := (some .int)) (by decide) rfl (Nat.le_of_ble_eq_true rfl) ?_
  intro p e s m below meth c ls C K U hl
  obtain ⟨hx, hb, hml, hown, hts, hr, hlocks⟩ := id C
  have S : CallFix p m c cX6_fold 3 s ([.ref (g.2.1 5), .int a0, .int a1] : List Value).toArray wsX6_fold RX6 := ⟨hx, hb, hml, hown, hts⟩
  have hl : lv_has ls 3 [(0, .ref (g.2.1 5)), (1, .int a0), (2, .int a1)] := hl
  refine lv_iload_n hx hb dX6_fold_0 rfl (lv_at hl 1 rfl) ?_
  refine lv_i2l hx hb dX6_fold_1 rfl ?_
  refine lv_lconst (v := 0) hx hb dX6_fold_2 (by decide) ?_
  refine lv_aload_n hx hb dX6_fold_3 rfl (lv_at hl 0 rfl) ?_
  refine u_get (C := RX6) (T := TX6) (N := 31) (v := .int (A 5 25)) hx hb hts hX6_fold_X6 hown K U 5 5 (by decide) rfl rfl 25 (by decide) (hts (.fieldLink RX6 216 "TrialSearchModel" "rows" "I") (by decide +kernel)) rfl rfl dX6_fold_4 ?_
  refine lv_iconst (v := 1) hx hb dX6_fold_7 (by decide) ?_
  refine lv_isub hx hb dX6_fold_8 ?_
  refine lv_i2l hx hb dX6_fold_9 rfl ?_
  refine u_ci (u_rS (As := [.long a0.toInt64, .long (0 : Int64), .long ((A 5 25) - (1 : Int32)).toInt64]) (rest := []) S K U (c_X6_in hw) (va_cwS 3 hts gX6_fold_X6_in rfl rfl rfl (by decide +kernel) ⟨Nat.le_of_ble_eq_true rfl, Nat.le_of_ble_eq_true rfl⟩) rfl hl.1 rfl (Nat.le_of_ble_eq_true rfl) dX6_fold_10 ⟨Nat.zero_le _, Nat.zero_le _⟩) U (fun r_1 A_2 B_3 H locs U9 hw => ?_)
  obtain ⟨eA, eB, hw⟩ := hw
  rw [eA, eB] at U9
  have U := U9
  refine lv_if_eq (tgt := 26) hx hb dX6_fold_13 (by decide) (fun c_4 => ?_) (fun c_4 => ?_)
  · have hw := hw.1 c_4
    refine lv_iconst (v := -1) hx hb dX6_fold_26 (by decide) ?_
    refine lv_goto (tgt := 47) hx hb dX6_fold_27 (by decide) ?_
    exact u_iret hx hb hr hlocks U ⟨rfl, rfl, hw⟩ dX6_fold_47
  · have hw := hw.2 c_4
    refine lv_iload_n hx hb dX6_fold_16 rfl (lv_at hl 2 rfl) ?_
    refine lv_i2l hx hb dX6_fold_17 rfl ?_
    refine lv_lconst (v := 0) hx hb dX6_fold_18 (by decide) ?_
    refine lv_lconst (v := 1) hx hb dX6_fold_19 (by decide) ?_
    refine u_ci (u_rS (As := [.long a1.toInt64, .long (0 : Int64), .long (1 : Int64)]) (rest := []) S K U (c_X6_in hw) (va_cwS 3 hts gX6_fold_X6_in rfl rfl rfl (by decide +kernel) ⟨Nat.le_of_ble_eq_true rfl, Nat.le_of_ble_eq_true rfl⟩) rfl hl.1 rfl (Nat.le_of_ble_eq_true rfl) dX6_fold_20 ⟨Nat.zero_le _, Nat.zero_le _⟩) U (fun r_5 A_6 B_7 H locs U9 hw => ?_)
    obtain ⟨eA, eB, hw⟩ := hw
    rw [eA, eB] at U9
    have U := U9
    refine lv_if_ne (tgt := 30) hx hb dX6_fold_23 (by decide) (fun c_8 => ?_) (fun c_8 => ?_)
    · have hw := hw.1 c_8
      refine lv_iload_n hx hb dX6_fold_30 rfl (lv_at hl 2 rfl) ?_
      refine lv_if_ne (tgt := 42) hx hb dX6_fold_31 (by decide) (fun c_9 => ?_) (fun c_9 => ?_)
      · have hw := hw.1 c_9
        refine lv_aload_n hx hb dX6_fold_42 rfl (lv_at hl 0 rfl) ?_
        refine lv_iload_n hx hb dX6_fold_43 rfl (lv_at hl 1 rfl) ?_
        refine u_ci (u_rV (As := [.int a0]) (rest := []) (C := RX6) S K U 5 5 (by decide) rfl rfl (c_X6_innerOf hw) (cwV 1 hts gX6_fold_X6_innerOf rfl rfl rfl (by decide +kernel) ⟨Nat.le_of_ble_eq_true rfl, Nat.le_of_ble_eq_true rfl⟩) rfl hl.1 rfl (Nat.le_of_ble_eq_true rfl) dX6_fold_44 ⟨Nat.zero_le _, Nat.zero_le _⟩) U (fun r_10 A_11 B_12 H locs U9 hw => ?_)
        obtain ⟨eA, eB, hw⟩ := hw
        rw [eA, eB] at U9
        have U := U9
        exact u_iret hx hb hr hlocks U ⟨rfl, rfl, hw⟩ dX6_fold_47
      · have hw := hw.2 c_9
        refine lv_aload_n hx hb dX6_fold_34 rfl (lv_at hl 0 rfl) ?_
        refine lv_iload_n hx hb dX6_fold_35 rfl (lv_at hl 1 rfl) ?_
        refine u_ci (u_rV (As := [.int a0]) (rest := []) (C := RX6) S K U 5 5 (by decide) rfl rfl (c_X6_outerOf hw) (cwV 1 hts gX6_fold_X6_outerOf rfl rfl rfl (by decide +kernel) ⟨Nat.le_of_ble_eq_true rfl, Nat.le_of_ble_eq_true rfl⟩) rfl hl.1 rfl (Nat.le_of_ble_eq_true rfl) dX6_fold_36 ⟨Nat.zero_le _, Nat.zero_le _⟩) U (fun r_13 A_14 B_15 H locs U9 hw => ?_)
        obtain ⟨eA, eB, hw⟩ := hw
        rw [eA, eB] at U9
        have U := U9
        refine lv_goto (tgt := 47) hx hb dX6_fold_39 (by decide) ?_
        exact u_iret hx hb hr hlocks U ⟨rfl, rfl, hw⟩ dX6_fold_47
    · have hw := hw.2 c_8
      refine lv_iconst (v := -1) hx hb dX6_fold_26 (by decide) ?_
      refine lv_goto (tgt := 47) hx hb dX6_fold_27 (by decide) ?_
      exact u_iret hx hb hr hlocks U ⟨rfl, rfl, hw⟩ dX6_fold_47
set_option maxHeartbeats 4000000 in
set_option maxRecDepth 100000 in
theorem t_X6_use_60 {p : Program} {l : Launch} {e : Env} {s : State} {m : MethodId} {args : Array Value} {below : List Frame} {meth : Method} {c : Code} {g : uG} {E202 : Int32 → SA → Prop} {Q : Int32 → SA → Prop} {v1 : Int32} {v2 : Int32} {B : SB} (C : uC p s m args meth c cX6_use 8 RX6 wsX6_use (some .int)) (K : UK g s) :
    ∀ {n : Nat} {v3 : Int32} {v4 : Int32} {A : SA} {H : Heap} {locs : List Loc} {ls : Array Slot}, wp_X6_use_60 E202 Q v1 v2 B n v3 v4 A → UU g A B s.heap H locs → lv_has ls 8 [(0, .ref (g.2.1 5)), (1, .int v1), (2, .int v2), (3, .int v3), (4, .int v4)] → (∀ (v3 : Int32) (A : SA) (H : Heap) (locs : List Loc) (ls : Array Slot), UU g A B s.heap H locs → lv_has ls 8 [(0, .ref (g.2.1 5)), (1, .int v1), (2, .int v2), (3, .int v3)] → E202 v3 A → W p l e rmX6_use s m args below meth c H locs 0 0 (MQ below (uQi g (fun r A1 B1 => B1 = B ∧ Q r A1 )) args s 0 0 (FA g)) (F0 m 202 ls [])) → W p l e rmX6_use s m args below meth c H locs 0 0 (MQ below (uQi g (fun r A1 B1 => B1 = B ∧ Q r A1 )) args s 0 0 (FA g)) (F0 m 60 ls []) := by
  obtain ⟨hx, hb, hml, hown, hts, hr, hlocks⟩ := id C
  have S : CallFix p m c cX6_use 8 s args wsX6_use RX6 := ⟨hx, hb, hml, hown, hts⟩
  intro n
  induction n with
  | zero => intro _ _ _ _ _ _ hw; exact False.elim hw
  | succ n ih =>
    intro v3 v4 A H locs ls hw U hl h202
    refine lv_iload hx hb dX6_use_60 (lv_at hl 4 rfl) ?_
    refine lv_aload_n hx hb dX6_use_62 rfl (lv_at hl 0 rfl) ?_
    refine u_get (C := RX6) (T := TX6) (N := 31) (v := .int (A 5 25)) hx hb hts hX6_use_X6 hown K U 5 5 (by decide) rfl rfl 25 (by decide) (hts (.fieldLink RX6 216 "TrialSearchModel" "rows" "I") (by decide +kernel)) rfl rfl dX6_use_63 ?_
    refine lv_icmp_ge (tgt := 202) hx hb dX6_use_66 (by decide) (fun c_12 => ?_) (fun c_12 => ?_)
    · have hw := hw.1 c_12
      exact h202 _ _ _ _ _ U (lv_sub hl [0, 1, 2, 3] rfl) hw
    · have hw := hw.2 c_12
      refine lv_bipush (v := 30) hx hb dX6_use_69 (by decide) ?_
      refine lv_iload hx hb dX6_use_71 (lv_at hl 4 rfl) ?_
      refine lv_imul hx hb dX6_use_73 ?_
      refine lv_iconst (v := 3) hx hb dX6_use_74 (by decide) ?_
      refine lv_iload_n hx hb dX6_use_75 rfl (lv_at hl 1 rfl) ?_
      refine lv_imul hx hb dX6_use_76 ?_
      refine lv_iadd hx hb dX6_use_77 ?_
      refine lv_topi (fun x_13 ex_13 => ?_)
      have hw := hw x_13 ex_13
      refine lv_istore (lv' := [(5, .int x_13), (0, .ref (g.2.1 5)), (1, .int v1), (2, .int v2), (3, .int v3), (4, .int v4)]) hx hb dX6_use_78 hl (by decide) rfl (fun ls hl => ?_)
      refine lv_aload_n hx hb dX6_use_80 rfl (lv_at hl 1 rfl) ?_
      refine lv_iload hx hb dX6_use_81 (lv_at hl 5 rfl) ?_
      refine u_ci (u_rV (As := [.int v4]) (rest := []) (C := RX6) S K U 5 5 (by decide) rfl rfl (c_X6_outerOf hw) (cwV 1 hts gX6_use_X6_outerOf rfl rfl rfl (by decide +kernel) ⟨Nat.le_of_ble_eq_true rfl, Nat.le_of_ble_eq_true rfl⟩) rfl hl.1 rfl (Nat.le_of_ble_eq_true rfl) dX6_use_83 ⟨Nat.zero_le _, Nat.zero_le _⟩) U (fun r_14 A_15 B_16 H locs U9 hw => ?_)
      obtain ⟨eA, eB, hw⟩ := hw
      rw [eA, eB] at U9
      have U := U9
      refine lv_iload_n hx hb dX6_use_86 rfl (lv_at hl 2 rfl) ?_
      refine lv_icmp_ne (tgt := 94) hx hb dX6_use_87 (by decide) (fun c_17 => ?_) (fun c_17 => ?_)
      · have hw := hw.1 c_17
        refine lv_iconst (v := 0) hx hb dX6_use_94 (by decide) ?_
        refine lv_istore (lv' := [(6, .int (0 : Int32)), (5, .int x_13), (0, .ref (g.2.1 5)), (1, .int v1), (2, .int v2), (3, .int v3), (4, .int v4)]) hx hb dX6_use_95 hl (by decide) rfl (fun ls hl => ?_)
        refine lv_iload_n hx hb dX6_use_97 rfl (lv_at hl 4 rfl) ?_
        refine lv_if_ge (tgt := 139) hx hb dX6_use_98 (by decide) (fun c_18 => ?_) (fun c_18 => ?_)
        · have hw := hw.1 c_18
          refine lv_iload hx hb dX6_use_139 (lv_at hl 0 rfl) ?_
          refine lv_if_ne (tgt := 196) hx hb dX6_use_141 (by decide) (fun c_19 => absurd c_19 (by decide)) (fun _ => ?_)
          refine lv_aload_n hx hb dX6_use_144 rfl (lv_at hl 2 rfl) ?_
          refine lv_iload hx hb dX6_use_145 (lv_at hl 6 rfl) ?_
          refine u_ci (u_rV (As := [.int v4]) (rest := []) (C := RX6) S K U 5 5 (by decide) rfl rfl (c_X6_innerOf hw) (cwV 1 hts gX6_use_X6_innerOf rfl rfl rfl (by decide +kernel) ⟨Nat.le_of_ble_eq_true rfl, Nat.le_of_ble_eq_true rfl⟩) rfl hl.1 rfl (Nat.le_of_ble_eq_true rfl) dX6_use_147 ⟨Nat.zero_le _, Nat.zero_le _⟩) U (fun r_20 A_21 B_22 H locs U9 hw => ?_)
          obtain ⟨eA, eB, hw⟩ := hw
          rw [eA, eB] at U9
          have U := U9
          refine lv_iload_n hx hb dX6_use_150 rfl (lv_at hl 4 rfl) ?_
          refine lv_icmp_ne (tgt := 158) hx hb dX6_use_151 (by decide) (fun c_23 => ?_) (fun c_23 => ?_)
          · have hw := hw.1 c_23
            refine lv_iconst (v := 0) hx hb dX6_use_158 (by decide) ?_
            refine lv_istore (lv' := [(7, .int (0 : Int32)), (6, .int (0 : Int32)), (5, .int x_13), (0, .ref (g.2.1 5)), (1, .int v1), (2, .int v2), (3, .int v3), (4, .int v4)]) hx hb dX6_use_159 hl (by decide) rfl (fun ls hl => ?_)
            refine lv_aload_n hx hb dX6_use_161 rfl (lv_at hl 3 rfl) ?_
            refine u_get (C := RX6) (T := TX6) (N := 31) (v := .ref (g.2.1 47)) hx hb hts hX6_use_X6 hown K U 5 5 (by decide) rfl rfl 30 (by decide) (hts (.fieldLink RX6 75 "TrialSearchModel" "counts" "[I") (by decide +kernel)) rfl rfl dX6_use_162 ?_
            refine lv_iload hx hb dX6_use_165 (lv_at hl 2 rfl) ?_
            refine lv_iload hx hb dX6_use_167 (lv_at hl 0 rfl) ?_
            refine lv_if_eq (tgt := 176) hx hb dX6_use_169 (by decide) (fun _ => ?_) (fun c_24 => absurd c_24 (by decide))
            refine lv_iconst (v := 0) hx hb dX6_use_176 (by decide) ?_
            refine lv_iadd hx hb dX6_use_177 ?_
            refine lv_dup2_11 hx hb dX6_use_178 rfl rfl ?_
            refine lv_topi (fun x_25 ex_25 => ?_)
            have hw := hw x_25 ex_25
            obtain ⟨hi_26, hw⟩ := hw
            refine u_iald (k := 47) (v := (A 47 x_25.toNatClampNeg)) hx hb K U rfl (by decide) rfl hi_26 rfl dX6_use_179 ?_
            refine lv_iconst (v := 1) hx hb dX6_use_180 (by decide) ?_
            refine lv_iadd hx hb dX6_use_181 ?_
            refine lv_topi (fun x_27 ex_27 => ?_)
            have hw := hw x_27 ex_27
            obtain ⟨hi_28, hw⟩ := hw
            refine u_iast (k := 47) hx hb K U rfl (by decide) rfl hi_28 dX6_use_182 (fun H locs U => ?_)
            refine lv_iload_n hx hb dX6_use_183 rfl (lv_at hl 6 rfl) ?_
            refine lv_iload hx hb dX6_use_184 (lv_at hl 0 rfl) ?_
            refine lv_if_eq (tgt := 193) hx hb dX6_use_186 (by decide) (fun _ => ?_) (fun c_29 => absurd c_29 (by decide))
            refine lv_iconst (v := 0) hx hb dX6_use_193 (by decide) ?_
            refine lv_iadd hx hb dX6_use_194 ?_
            refine lv_topi (fun x_30 ex_30 => ?_)
            have hw := hw x_30 ex_30
            refine lv_istore_n (lv' := [(3, .int x_30), (7, .int (0 : Int32)), (6, .int (0 : Int32)), (5, .int x_13), (0, .ref (g.2.1 5)), (1, .int v1), (2, .int v2), (4, .int v4)]) hx hb dX6_use_195 rfl hl (by decide) rfl (fun ls hl => ?_)
            obtain ⟨v4_31, ev4_31⟩ : ∃ y : Int32, y = v4 + 1 := ⟨_, rfl⟩
            have hw := hw v4_31 ev4_31
            refine lv_iinc (v := v4_31) (lv' := [(4, .int v4_31), (3, .int x_30), (7, .int (0 : Int32)), (6, .int (0 : Int32)), (5, .int x_13), (0, .ref (g.2.1 5)), (1, .int v1), (2, .int v2)]) hx hb dX6_use_196 hl (k := 7) rfl (by rw [ev4_31]; rfl) (by decide) rfl (fun ls hl => ?_)
            refine lv_goto (tgt := 60) hx hb dX6_use_199 (by decide) ?_
            exact ih hw U (lv_sub hl [5, 6, 7, 1, 0] rfl) h202
          · have hw := hw.2 c_23
            refine lv_iconst (v := 1) hx hb dX6_use_154 (by decide) ?_
            refine lv_goto (tgt := 159) hx hb dX6_use_155 (by decide) ?_
            refine lv_istore (lv' := [(7, .int (1 : Int32)), (6, .int (0 : Int32)), (5, .int x_13), (0, .ref (g.2.1 5)), (1, .int v1), (2, .int v2), (3, .int v3), (4, .int v4)]) hx hb dX6_use_159 hl (by decide) rfl (fun ls hl => ?_)
            refine lv_aload_n hx hb dX6_use_161 rfl (lv_at hl 3 rfl) ?_
            refine u_get (C := RX6) (T := TX6) (N := 31) (v := .ref (g.2.1 47)) hx hb hts hX6_use_X6 hown K U 5 5 (by decide) rfl rfl 30 (by decide) (hts (.fieldLink RX6 75 "TrialSearchModel" "counts" "[I") (by decide +kernel)) rfl rfl dX6_use_162 ?_
            refine lv_iload hx hb dX6_use_165 (lv_at hl 2 rfl) ?_
            refine lv_iload hx hb dX6_use_167 (lv_at hl 0 rfl) ?_
            refine lv_if_eq (tgt := 176) hx hb dX6_use_169 (by decide) (fun c_32 => absurd c_32 (by decide)) (fun _ => ?_)
            refine lv_iconst (v := 1) hx hb dX6_use_172 (by decide) ?_
            refine lv_goto (tgt := 177) hx hb dX6_use_173 (by decide) ?_
            refine lv_iadd hx hb dX6_use_177 ?_
            refine lv_dup2_11 hx hb dX6_use_178 rfl rfl ?_
            refine lv_topi (fun x_33 ex_33 => ?_)
            have hw := hw x_33 ex_33
            obtain ⟨hi_34, hw⟩ := hw
            refine u_iald (k := 47) (v := (A 47 x_33.toNatClampNeg)) hx hb K U rfl (by decide) rfl hi_34 rfl dX6_use_179 ?_
            refine lv_iconst (v := 1) hx hb dX6_use_180 (by decide) ?_
            refine lv_iadd hx hb dX6_use_181 ?_
            refine lv_topi (fun x_35 ex_35 => ?_)
            have hw := hw x_35 ex_35
            obtain ⟨hi_36, hw⟩ := hw
            refine u_iast (k := 47) hx hb K U rfl (by decide) rfl hi_36 dX6_use_182 (fun H locs U => ?_)
            refine lv_iload_n hx hb dX6_use_183 rfl (lv_at hl 6 rfl) ?_
            refine lv_iload hx hb dX6_use_184 (lv_at hl 0 rfl) ?_
            refine lv_if_eq (tgt := 193) hx hb dX6_use_186 (by decide) (fun c_37 => absurd c_37 (by decide)) (fun _ => ?_)
            refine lv_iconst (v := 1) hx hb dX6_use_189 (by decide) ?_
            refine lv_goto (tgt := 194) hx hb dX6_use_190 (by decide) ?_
            refine lv_iadd hx hb dX6_use_194 ?_
            refine lv_topi (fun x_38 ex_38 => ?_)
            have hw := hw x_38 ex_38
            refine lv_istore_n (lv' := [(3, .int x_38), (7, .int (1 : Int32)), (6, .int (0 : Int32)), (5, .int x_13), (0, .ref (g.2.1 5)), (1, .int v1), (2, .int v2), (4, .int v4)]) hx hb dX6_use_195 rfl hl (by decide) rfl (fun ls hl => ?_)
            obtain ⟨v4_39, ev4_39⟩ : ∃ y : Int32, y = v4 + 1 := ⟨_, rfl⟩
            have hw := hw v4_39 ev4_39
            refine lv_iinc (v := v4_39) (lv' := [(4, .int v4_39), (3, .int x_38), (7, .int (1 : Int32)), (6, .int (0 : Int32)), (5, .int x_13), (0, .ref (g.2.1 5)), (1, .int v1), (2, .int v2)]) hx hb dX6_use_196 hl (k := 7) rfl (by rw [ev4_39]; rfl) (by decide) rfl (fun ls hl => ?_)
            refine lv_goto (tgt := 60) hx hb dX6_use_199 (by decide) ?_
            exact ih hw U (lv_sub hl [5, 6, 7, 1, 0] rfl) h202
        · have hw := hw.2 c_18
          refine lv_aload_n hx hb dX6_use_101 rfl (lv_at hl 2 rfl) ?_
          refine u_get (C := RX6) (T := TX6) (N := 31) (v := .ref (g.2.1 47)) hx hb hts hX6_use_X6 hown K U 5 5 (by decide) rfl rfl 30 (by decide) (hts (.fieldLink RX6 75 "TrialSearchModel" "counts" "[I") (by decide +kernel)) rfl rfl dX6_use_102 ?_
          refine lv_iload hx hb dX6_use_105 (lv_at hl 1 rfl) ?_
          refine lv_iload hx hb dX6_use_107 (lv_at hl 0 rfl) ?_
          refine lv_if_eq (tgt := 116) hx hb dX6_use_109 (by decide) (fun _ => ?_) (fun c_40 => absurd c_40 (by decide))
          refine lv_iconst (v := 0) hx hb dX6_use_116 (by decide) ?_
          refine lv_iadd hx hb dX6_use_117 ?_
          refine lv_dup2_11 hx hb dX6_use_118 rfl rfl ?_
          refine lv_topi (fun x_41 ex_41 => ?_)
          have hw := hw x_41 ex_41
          obtain ⟨hi_42, hw⟩ := hw
          refine u_iald (k := 47) (v := (A 47 x_41.toNatClampNeg)) hx hb K U rfl (by decide) rfl hi_42 rfl dX6_use_119 ?_
          refine lv_iconst (v := 1) hx hb dX6_use_120 (by decide) ?_
          refine lv_iadd hx hb dX6_use_121 ?_
          refine lv_topi (fun x_43 ex_43 => ?_)
          have hw := hw x_43 ex_43
          obtain ⟨hi_44, hw⟩ := hw
          refine u_iast (k := 47) hx hb K U rfl (by decide) rfl hi_44 dX6_use_122 (fun H locs U => ?_)
          refine lv_iload_n hx hb dX6_use_123 rfl (lv_at hl 5 rfl) ?_
          refine lv_iload hx hb dX6_use_124 (lv_at hl 0 rfl) ?_
          refine lv_if_eq (tgt := 133) hx hb dX6_use_126 (by decide) (fun _ => ?_) (fun c_45 => absurd c_45 (by decide))
          refine lv_iconst (v := 0) hx hb dX6_use_133 (by decide) ?_
          refine lv_iadd hx hb dX6_use_134 ?_
          refine lv_topi (fun x_46 ex_46 => ?_)
          have hw := hw x_46 ex_46
          refine lv_istore_n (lv' := [(3, .int x_46), (6, .int (0 : Int32)), (5, .int x_13), (0, .ref (g.2.1 5)), (1, .int v1), (2, .int v2), (4, .int v4)]) hx hb dX6_use_135 rfl hl (by decide) rfl (fun ls hl => ?_)
          refine lv_goto (tgt := 196) hx hb dX6_use_136 (by decide) ?_
          obtain ⟨v4_47, ev4_47⟩ : ∃ y : Int32, y = v4 + 1 := ⟨_, rfl⟩
          have hw := hw v4_47 ev4_47
          refine lv_iinc (v := v4_47) (lv' := [(4, .int v4_47), (3, .int x_46), (6, .int (0 : Int32)), (5, .int x_13), (0, .ref (g.2.1 5)), (1, .int v1), (2, .int v2)]) hx hb dX6_use_196 hl (k := 6) rfl (by rw [ev4_47]; rfl) (by decide) rfl (fun ls hl => ?_)
          refine lv_goto (tgt := 60) hx hb dX6_use_199 (by decide) ?_
          exact ih hw U (lv_sub hl [4, 5, 6, 1, 0] rfl) h202
      · have hw := hw.2 c_17
        refine lv_iconst (v := 1) hx hb dX6_use_90 (by decide) ?_
        refine lv_goto (tgt := 95) hx hb dX6_use_91 (by decide) ?_
        refine lv_istore (lv' := [(6, .int (1 : Int32)), (5, .int x_13), (0, .ref (g.2.1 5)), (1, .int v1), (2, .int v2), (3, .int v3), (4, .int v4)]) hx hb dX6_use_95 hl (by decide) rfl (fun ls hl => ?_)
        refine lv_iload_n hx hb dX6_use_97 rfl (lv_at hl 4 rfl) ?_
        refine lv_if_ge (tgt := 139) hx hb dX6_use_98 (by decide) (fun c_48 => ?_) (fun c_48 => ?_)
        · have hw := hw.1 c_48
          refine lv_iload hx hb dX6_use_139 (lv_at hl 0 rfl) ?_
          refine lv_if_ne (tgt := 196) hx hb dX6_use_141 (by decide) (fun _ => ?_) (fun c_49 => absurd c_49 (by decide))
          obtain ⟨v4_50, ev4_50⟩ : ∃ y : Int32, y = v4 + 1 := ⟨_, rfl⟩
          have hw := hw v4_50 ev4_50
          refine lv_iinc (v := v4_50) (lv' := [(4, .int v4_50), (6, .int (1 : Int32)), (5, .int x_13), (0, .ref (g.2.1 5)), (1, .int v1), (2, .int v2), (3, .int v3)]) hx hb dX6_use_196 hl (k := 6) rfl (by rw [ev4_50]; rfl) (by decide) rfl (fun ls hl => ?_)
          refine lv_goto (tgt := 60) hx hb dX6_use_199 (by decide) ?_
          exact ih hw U (lv_sub hl [3, 4, 5, 6, 0] rfl) h202
        · have hw := hw.2 c_48
          refine lv_aload_n hx hb dX6_use_101 rfl (lv_at hl 2 rfl) ?_
          refine u_get (C := RX6) (T := TX6) (N := 31) (v := .ref (g.2.1 47)) hx hb hts hX6_use_X6 hown K U 5 5 (by decide) rfl rfl 30 (by decide) (hts (.fieldLink RX6 75 "TrialSearchModel" "counts" "[I") (by decide +kernel)) rfl rfl dX6_use_102 ?_
          refine lv_iload hx hb dX6_use_105 (lv_at hl 1 rfl) ?_
          refine lv_iload hx hb dX6_use_107 (lv_at hl 0 rfl) ?_
          refine lv_if_eq (tgt := 116) hx hb dX6_use_109 (by decide) (fun c_51 => absurd c_51 (by decide)) (fun _ => ?_)
          refine lv_iconst (v := 2) hx hb dX6_use_112 (by decide) ?_
          refine lv_goto (tgt := 117) hx hb dX6_use_113 (by decide) ?_
          refine lv_iadd hx hb dX6_use_117 ?_
          refine lv_dup2_11 hx hb dX6_use_118 rfl rfl ?_
          refine lv_topi (fun x_52 ex_52 => ?_)
          have hw := hw x_52 ex_52
          obtain ⟨hi_53, hw⟩ := hw
          refine u_iald (k := 47) (v := (A 47 x_52.toNatClampNeg)) hx hb K U rfl (by decide) rfl hi_53 rfl dX6_use_119 ?_
          refine lv_iconst (v := 1) hx hb dX6_use_120 (by decide) ?_
          refine lv_iadd hx hb dX6_use_121 ?_
          refine lv_topi (fun x_54 ex_54 => ?_)
          have hw := hw x_54 ex_54
          obtain ⟨hi_55, hw⟩ := hw
          refine u_iast (k := 47) hx hb K U rfl (by decide) rfl hi_55 dX6_use_122 (fun H locs U => ?_)
          refine lv_iload_n hx hb dX6_use_123 rfl (lv_at hl 5 rfl) ?_
          refine lv_iload hx hb dX6_use_124 (lv_at hl 0 rfl) ?_
          refine lv_if_eq (tgt := 133) hx hb dX6_use_126 (by decide) (fun c_56 => absurd c_56 (by decide)) (fun _ => ?_)
          refine lv_iconst (v := 1) hx hb dX6_use_129 (by decide) ?_
          refine lv_goto (tgt := 134) hx hb dX6_use_130 (by decide) ?_
          refine lv_iadd hx hb dX6_use_134 ?_
          refine lv_topi (fun x_57 ex_57 => ?_)
          have hw := hw x_57 ex_57
          refine lv_istore_n (lv' := [(3, .int x_57), (6, .int (1 : Int32)), (5, .int x_13), (0, .ref (g.2.1 5)), (1, .int v1), (2, .int v2), (4, .int v4)]) hx hb dX6_use_135 rfl hl (by decide) rfl (fun ls hl => ?_)
          refine lv_goto (tgt := 196) hx hb dX6_use_136 (by decide) ?_
          obtain ⟨v4_58, ev4_58⟩ : ∃ y : Int32, y = v4 + 1 := ⟨_, rfl⟩
          have hw := hw v4_58 ev4_58
          refine lv_iinc (v := v4_58) (lv' := [(4, .int v4_58), (3, .int x_57), (6, .int (1 : Int32)), (5, .int x_13), (0, .ref (g.2.1 5)), (1, .int v1), (2, .int v2)]) hx hb dX6_use_196 hl (k := 6) rfl (by rw [ev4_58]; rfl) (by decide) rfl (fun ls hl => ?_)
          refine lv_goto (tgt := 60) hx hb dX6_use_199 (by decide) ?_
          exact ih hw U (lv_sub hl [4, 5, 6, 1, 0] rfl) h202
set_option maxHeartbeats 4000000 in
set_option maxRecDepth 100000 in
theorem c_X6_use {l : Launch} {g : uG} {a0 : Int32} {a1 : Int32} {A : SA} {B : SB} {Q : Int32 → SA → Prop} (hw : wp_X6_use a0 a1 A B Q) : MI l yX6_use wsX6_use rmX6_use g A B [.ref (g.2.1 5), .int a0, .int a1] (fun r A1 B1 => B1 = B ∧ Q r A1 ) := by
  refine u_of (cc := cX6_use) (maxL := 8) (ret := (some .int)) (by decide) rfl (Nat.le_of_ble_eq_true rfl) ?_
  intro p e s m below meth c ls C K U hl
  obtain ⟨hx, hb, hml, hown, hts, hr, hlocks⟩ := id C
  have S : CallFix p m c cX6_use 8 s ([.ref (g.2.1 5), .int a0, .int a1] : List Value).toArray wsX6_use RX6 := ⟨hx, hb, hml, hown, hts⟩
  have hl : lv_has ls 8 [(0, .ref (g.2.1 5)), (1, .int a0), (2, .int a1)] := hl
  refine lv_aload_n hx hb dX6_use_0 rfl (lv_at hl 0 rfl) ?_
  refine u_get (C := RX6) (T := TX6) (N := 31) (v := .int (A 5 25)) hx hb hts hX6_use_X6 hown K U 5 5 (by decide) rfl rfl 25 (by decide) (hts (.fieldLink RX6 216 "TrialSearchModel" "rows" "I") (by decide +kernel)) rfl rfl dX6_use_1 ?_
  refine lv_if_eq (tgt := 41) hx hb dX6_use_4 (by decide) (fun c_1 => ?_) (fun c_1 => ?_)
  · have hw := hw.1 c_1
    refine lv_iconst (v := -1) hx hb dX6_use_41 (by decide) ?_
    exact u_iret hx hb hr hlocks U ⟨rfl, hw⟩ dX6_use_42
  · have hw := hw.2 c_1
    refine lv_iload_n hx hb dX6_use_7 rfl (lv_at hl 1 rfl) ?_
    refine lv_i2l hx hb dX6_use_8 rfl ?_
    refine lv_lconst (v := 0) hx hb dX6_use_9 (by decide) ?_
    refine lv_aload_n hx hb dX6_use_10 rfl (lv_at hl 0 rfl) ?_
    refine u_get (C := RX6) (T := TX6) (N := 31) (v := .int (A 5 26)) hx hb hts hX6_use_X6 hown K U 5 5 (by decide) rfl rfl 26 (by decide) (hts (.fieldLink RX6 219 "TrialSearchModel" "outers" "I") (by decide +kernel)) rfl rfl dX6_use_11 ?_
    refine lv_iconst (v := 1) hx hb dX6_use_14 (by decide) ?_
    refine lv_isub hx hb dX6_use_15 ?_
    refine lv_i2l hx hb dX6_use_16 rfl ?_
    refine u_ci (u_rS (As := [.long a0.toInt64, .long (0 : Int64), .long ((A 5 26) - (1 : Int32)).toInt64]) (rest := []) S K U (c_X6_in hw) (va_cwS 3 hts gX6_use_X6_in rfl rfl rfl (by decide +kernel) ⟨Nat.le_of_ble_eq_true rfl, Nat.le_of_ble_eq_true rfl⟩) rfl hl.1 rfl (Nat.le_of_ble_eq_true rfl) dX6_use_17 ⟨Nat.zero_le _, Nat.zero_le _⟩) U (fun r_2 A_3 B_4 H locs U9 hw => ?_)
    obtain ⟨eA, eB, hw⟩ := hw
    rw [eA, eB] at U9
    have U := U9
    refine lv_if_eq (tgt := 41) hx hb dX6_use_20 (by decide) (fun c_5 => ?_) (fun c_5 => ?_)
    · have hw := hw.1 c_5
      refine lv_iconst (v := -1) hx hb dX6_use_41 (by decide) ?_
      exact u_iret hx hb hr hlocks U ⟨rfl, hw⟩ dX6_use_42
    · have hw := hw.2 c_5
      refine lv_iload_n hx hb dX6_use_23 rfl (lv_at hl 2 rfl) ?_
      refine lv_i2l hx hb dX6_use_24 rfl ?_
      refine lv_ldc2 (v := -1) hx hb hown (hts (.constantLong RX6 84 (-1)) (by decide +kernel)) dX6_use_25 ?_
      refine lv_aload_n hx hb dX6_use_28 rfl (lv_at hl 0 rfl) ?_
      refine u_get (C := RX6) (T := TX6) (N := 31) (v := .int (A 5 27)) hx hb hts hX6_use_X6 hown K U 5 5 (by decide) rfl rfl 27 (by decide) (hts (.fieldLink RX6 222 "TrialSearchModel" "inners" "I") (by decide +kernel)) rfl rfl dX6_use_29 ?_
      refine lv_iconst (v := 1) hx hb dX6_use_32 (by decide) ?_
      refine lv_isub hx hb dX6_use_33 ?_
      refine lv_i2l hx hb dX6_use_34 rfl ?_
      refine u_ci (u_rS (As := [.long a1.toInt64, .long (-1 : Int64), .long ((A 5 27) - (1 : Int32)).toInt64]) (rest := []) S K U (c_X6_in hw) (va_cwS 3 hts gX6_use_X6_in rfl rfl rfl (by decide +kernel) ⟨Nat.le_of_ble_eq_true rfl, Nat.le_of_ble_eq_true rfl⟩) rfl hl.1 rfl (Nat.le_of_ble_eq_true rfl) dX6_use_35 ⟨Nat.zero_le _, Nat.zero_le _⟩) U (fun r_6 A_7 B_8 H locs U9 hw => ?_)
      obtain ⟨eA, eB, hw⟩ := hw
      rw [eA, eB] at U9
      have U := U9
      refine lv_if_ne (tgt := 43) hx hb dX6_use_38 (by decide) (fun c_9 => ?_) (fun c_9 => ?_)
      · have hw := hw.1 c_9
        refine lv_aload_n hx hb dX6_use_43 rfl (lv_at hl 0 rfl) ?_
        refine u_get (C := RX6) (T := TX6) (N := 31) (v := .ref (g.2.1 46)) hx hb hts hX6_use_X6 hown K U 5 5 (by decide) rfl rfl 29 (by decide) (hts (.fieldLink RX6 72 "TrialSearchModel" "isTested" "[Z") (by decide +kernel)) rfl rfl dX6_use_44 ?_
        refine lv_iload_n hx hb dX6_use_47 rfl (lv_at hl 1 rfl) ?_
        obtain ⟨hi_10, hw⟩ := hw
        refine u_zald (k := 46) (v := (A 46 a0.toNatClampNeg)) hx hb K U rfl (by decide) rfl hi_10 rfl dX6_use_48 ?_
        refine lv_if_eq (tgt := 55) hx hb dX6_use_49 (by decide) (fun c_11 => ?_) (fun c_11 => ?_)
        · have hw := hw.1 c_11
          refine lv_iconst (v := 0) hx hb dX6_use_55 (by decide) ?_
          refine lv_istore_n (lv' := [(3, .int (0 : Int32)), (0, .ref (g.2.1 5)), (1, .int a0), (2, .int a1)]) hx hb dX6_use_56 rfl hl (by decide) rfl (fun ls hl => ?_)
          refine lv_iconst (v := 0) hx hb dX6_use_57 (by decide) ?_
          refine lv_istore (lv' := [(4, .int (0 : Int32)), (3, .int (0 : Int32)), (0, .ref (g.2.1 5)), (1, .int a0), (2, .int a1)]) hx hb dX6_use_58 hl (by decide) rfl (fun ls hl => ?_)
          obtain ⟨n_59, hw⟩ := hw
          refine t_X6_use_60 C K hw U (lv_sub hl [2, 3, 4, 1, 0] rfl) (fun v3_60 A_61 H locs ls U hl hw => ?_)
          refine lv_aload_n hx hb dX6_use_202 rfl (lv_at hl 0 rfl) ?_
          refine u_get (C := RX6) (T := TX6) (N := 31) (v := .ref (g.2.1 46)) hx hb hts hX6_use_X6 hown K U 5 5 (by decide) rfl rfl 29 (by decide) (hts (.fieldLink RX6 72 "TrialSearchModel" "isTested" "[Z") (by decide +kernel)) rfl rfl dX6_use_203 ?_
          refine lv_iload_n hx hb dX6_use_206 rfl (lv_at hl 1 rfl) ?_
          refine lv_iload_n hx hb dX6_use_207 rfl (lv_at hl 2 rfl) ?_
          refine lv_if_ge (tgt := 215) hx hb dX6_use_208 (by decide) (fun c_62 => ?_) (fun c_62 => ?_)
          · have hw := hw.1 c_62
            refine lv_iconst (v := 0) hx hb dX6_use_215 (by decide) ?_
            obtain ⟨hi_63, hw⟩ := hw
            refine u_zast (k := 46) hx hb K U rfl (by decide) rfl hi_63 dX6_use_216 (fun H locs U => ?_)
            refine lv_iload_n hx hb dX6_use_217 rfl (lv_at hl 3 rfl) ?_
            exact u_iret hx hb hr hlocks U ⟨rfl, hw⟩ dX6_use_218
          · have hw := hw.2 c_62
            refine lv_iconst (v := 1) hx hb dX6_use_211 (by decide) ?_
            refine lv_goto (tgt := 216) hx hb dX6_use_212 (by decide) ?_
            obtain ⟨hi_64, hw⟩ := hw
            refine u_zast (k := 46) hx hb K U rfl (by decide) rfl hi_64 dX6_use_216 (fun H locs U => ?_)
            refine lv_iload_n hx hb dX6_use_217 rfl (lv_at hl 3 rfl) ?_
            exact u_iret hx hb hr hlocks U ⟨rfl, hw⟩ dX6_use_218
        · have hw := hw.2 c_11
          refine lv_bipush (v := -3) hx hb dX6_use_52 (by decide) ?_
          exact u_iret hx hb hr hlocks U ⟨rfl, hw⟩ dX6_use_54
      · have hw := hw.2 c_9
        refine lv_iconst (v := -1) hx hb dX6_use_41 (by decide) ?_
        exact u_iret hx hb hr hlocks U ⟨rfl, hw⟩ dX6_use_42
set_option maxHeartbeats 4000000 in
set_option maxRecDepth 100000 in
theorem c_X6_used {l : Launch} {g : uG} {a0 : Int32} {a1 : Int32} {a2 : Int32} {A : SA} {B : SB} {Q : Int32 → Prop} (hw : wp_X6_used a0 a1 a2 A B Q) : MI l yX6_used wsX6_used rmX6_used g A B [.ref (g.2.1 5), .int a0, .int a1, .int a2] (fun r A1 B1 => A1 = A ∧ B1 = B ∧ Q r ) := by
  refine u_of (cc := cX6_used) (maxL := 4) (ret := (some .int)) (by decide) rfl (Nat.le_of_ble_eq_true rfl) ?_
  intro p e s m below meth c ls C K U hl
  obtain ⟨hx, hb, hml, hown, hts, hr, hlocks⟩ := id C
  have S : CallFix p m c cX6_used 4 s ([.ref (g.2.1 5), .int a0, .int a1, .int a2] : List Value).toArray wsX6_used RX6 := ⟨hx, hb, hml, hown, hts⟩
  have hl : lv_has ls 4 [(0, .ref (g.2.1 5)), (1, .int a0), (2, .int a1), (3, .int a2)] := hl
  refine lv_iload_n hx hb dX6_used_0 rfl (lv_at hl 1 rfl) ?_
  refine lv_i2l hx hb dX6_used_1 rfl ?_
  refine lv_lconst (v := 0) hx hb dX6_used_2 (by decide) ?_
  refine lv_aload_n hx hb dX6_used_3 rfl (lv_at hl 0 rfl) ?_
  refine u_get (C := RX6) (T := TX6) (N := 31) (v := .int (A 5 25)) hx hb hts hX6_used_X6 hown K U 5 5 (by decide) rfl rfl 25 (by decide) (hts (.fieldLink RX6 216 "TrialSearchModel" "rows" "I") (by decide +kernel)) rfl rfl dX6_used_4 ?_
  refine lv_iconst (v := 1) hx hb dX6_used_7 (by decide) ?_
  refine lv_isub hx hb dX6_used_8 ?_
  refine lv_i2l hx hb dX6_used_9 rfl ?_
  refine u_ci (u_rS (As := [.long a0.toInt64, .long (0 : Int64), .long ((A 5 25) - (1 : Int32)).toInt64]) (rest := []) S K U (c_X6_in hw) (va_cwS 3 hts gX6_used_X6_in rfl rfl rfl (by decide +kernel) ⟨Nat.le_of_ble_eq_true rfl, Nat.le_of_ble_eq_true rfl⟩) rfl hl.1 rfl (Nat.le_of_ble_eq_true rfl) dX6_used_10 ⟨Nat.zero_le _, Nat.zero_le _⟩) U (fun r_1 A_2 B_3 H locs U9 hw => ?_)
  obtain ⟨eA, eB, hw⟩ := hw
  rw [eA, eB] at U9
  have U := U9
  refine lv_if_eq (tgt := 44) hx hb dX6_used_13 (by decide) (fun c_4 => ?_) (fun c_4 => ?_)
  · have hw := hw.1 c_4
    refine lv_iconst (v := -1) hx hb dX6_used_44 (by decide) ?_
    refine lv_goto (tgt := 63) hx hb dX6_used_45 (by decide) ?_
    exact u_iret hx hb hr hlocks U ⟨rfl, rfl, hw⟩ dX6_used_63
  · have hw := hw.2 c_4
    refine lv_iload_n hx hb dX6_used_16 rfl (lv_at hl 2 rfl) ?_
    refine lv_i2l hx hb dX6_used_17 rfl ?_
    refine lv_lconst (v := 0) hx hb dX6_used_18 (by decide) ?_
    refine lv_aload_n hx hb dX6_used_19 rfl (lv_at hl 0 rfl) ?_
    refine u_get (C := RX6) (T := TX6) (N := 31) (v := .int (A 5 26)) hx hb hts hX6_used_X6 hown K U 5 5 (by decide) rfl rfl 26 (by decide) (hts (.fieldLink RX6 219 "TrialSearchModel" "outers" "I") (by decide +kernel)) rfl rfl dX6_used_20 ?_
    refine lv_iconst (v := 1) hx hb dX6_used_23 (by decide) ?_
    refine lv_isub hx hb dX6_used_24 ?_
    refine lv_i2l hx hb dX6_used_25 rfl ?_
    refine u_ci (u_rS (As := [.long a1.toInt64, .long (0 : Int64), .long ((A 5 26) - (1 : Int32)).toInt64]) (rest := []) S K U (c_X6_in hw) (va_cwS 3 hts gX6_used_X6_in rfl rfl rfl (by decide +kernel) ⟨Nat.le_of_ble_eq_true rfl, Nat.le_of_ble_eq_true rfl⟩) rfl hl.1 rfl (Nat.le_of_ble_eq_true rfl) dX6_used_26 ⟨Nat.zero_le _, Nat.zero_le _⟩) U (fun r_5 A_6 B_7 H locs U9 hw => ?_)
    obtain ⟨eA, eB, hw⟩ := hw
    rw [eA, eB] at U9
    have U := U9
    refine lv_if_eq (tgt := 44) hx hb dX6_used_29 (by decide) (fun c_8 => ?_) (fun c_8 => ?_)
    · have hw := hw.1 c_8
      refine lv_iconst (v := -1) hx hb dX6_used_44 (by decide) ?_
      refine lv_goto (tgt := 63) hx hb dX6_used_45 (by decide) ?_
      exact u_iret hx hb hr hlocks U ⟨rfl, rfl, hw⟩ dX6_used_63
    · have hw := hw.2 c_8
      refine lv_iload_n hx hb dX6_used_32 rfl (lv_at hl 3 rfl) ?_
      refine lv_i2l hx hb dX6_used_33 rfl ?_
      refine lv_lconst (v := 0) hx hb dX6_used_34 (by decide) ?_
      refine lv_ldc2 (v := 2) hx hb hown (hts (.constantLong RX6 129 (2)) (by decide +kernel)) dX6_used_35 ?_
      refine u_ci (u_rS (As := [.long a2.toInt64, .long (0 : Int64), .long (2 : Int64)]) (rest := []) S K U (c_X6_in hw) (va_cwS 3 hts gX6_used_X6_in rfl rfl rfl (by decide +kernel) ⟨Nat.le_of_ble_eq_true rfl, Nat.le_of_ble_eq_true rfl⟩) rfl hl.1 rfl (Nat.le_of_ble_eq_true rfl) dX6_used_38 ⟨Nat.zero_le _, Nat.zero_le _⟩) U (fun r_9 A_10 B_11 H locs U9 hw => ?_)
      obtain ⟨eA, eB, hw⟩ := hw
      rw [eA, eB] at U9
      have U := U9
      refine lv_if_ne (tgt := 48) hx hb dX6_used_41 (by decide) (fun c_12 => ?_) (fun c_12 => ?_)
      · have hw := hw.1 c_12
        refine lv_aload_n hx hb dX6_used_48 rfl (lv_at hl 0 rfl) ?_
        refine u_get (C := RX6) (T := TX6) (N := 31) (v := .ref (g.2.1 47)) hx hb hts hX6_used_X6 hown K U 5 5 (by decide) rfl rfl 30 (by decide) (hts (.fieldLink RX6 75 "TrialSearchModel" "counts" "[I") (by decide +kernel)) rfl rfl dX6_used_49 ?_
        refine lv_bipush (v := 30) hx hb dX6_used_52 (by decide) ?_
        refine lv_iload_n hx hb dX6_used_54 rfl (lv_at hl 1 rfl) ?_
        refine lv_imul hx hb dX6_used_55 ?_
        refine lv_iconst (v := 3) hx hb dX6_used_56 (by decide) ?_
        refine lv_iload_n hx hb dX6_used_57 rfl (lv_at hl 2 rfl) ?_
        refine lv_imul hx hb dX6_used_58 ?_
        refine lv_iadd hx hb dX6_used_59 ?_
        refine lv_iload_n hx hb dX6_used_60 rfl (lv_at hl 3 rfl) ?_
        refine lv_iadd hx hb dX6_used_61 ?_
        refine lv_topi (fun x_13 ex_13 => ?_)
        have hw := hw x_13 ex_13
        obtain ⟨hi_14, hw⟩ := hw
        refine u_iald (k := 47) (v := (A 47 x_13.toNatClampNeg)) hx hb K U rfl (by decide) rfl hi_14 rfl dX6_used_62 ?_
        exact u_iret hx hb hr hlocks U ⟨rfl, rfl, hw⟩ dX6_used_63
      · have hw := hw.2 c_12
        refine lv_iconst (v := -1) hx hb dX6_used_44 (by decide) ?_
        refine lv_goto (tgt := 63) hx hb dX6_used_45 (by decide) ?_
        exact u_iret hx hb hr hlocks U ⟨rfl, rfl, hw⟩ dX6_used_63
