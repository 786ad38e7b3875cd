set_option maxHeartbeats 4000000 in
set_option maxRecDepth 100000 in
theorem c_X5_name {l : Launch} {g : uG} {a0 : Int32} {a1 : Int32} {a2 : Int32} {A : SA} {B : SB} {Q : Int32 → SA → SB → Prop} (hw : wp_X5_name a0 a1 a2 A B Q) : MI l yX5_name wsX5_name rmX5_name g A B [.ref (g.2.1 0), .int a0, .int a1, .int a2] Q := by
  refine u_of (cc := cX5_name) (maxL := 4) (ret := (some .int)) (by decide) rfl (Nat.le_of_ble_eq_true rfl) ?_
  intro p e s m below meth c ls C K U hl
  obtain ⟨hx, hb, hml, hown, hts, hr, hlocks⟩ := id C
  have S : CallFix p m c cX5_name 4 s ([.ref (g.2.1 0), .int a0, .int a1, .int a2] : List Value).toArray wsX5_name RX5 := ⟨hx, hb, hml, hown, hts⟩
  have hl : lv_has ls 4 [(0, .ref (g.2.1 0)), (1, .int a0), (2, .int a1), (3, .int a2)] := hl
  refine lv_iload_n hx hb dX5_name_0 rfl (lv_at hl 1 rfl) ?_
  refine lv_i2l hx hb dX5_name_1 rfl ?_
  refine lv_lconst (v := 1) hx hb dX5_name_2 (by decide) ?_
  refine lv_ldc2 (v := 30) hx hb hown (hts (.constantLong RX5 39 (30)) (by decide +kernel)) dX5_name_3 ?_
  refine u_ci (u_rS (As := [.long a0.toInt64, .long (1 : Int64), .long (30 : Int64)]) (rest := []) S K U (c_X5_within hw) (va_cwS 3 hts gX5_name_X5_within rfl rfl rfl (by decide +kernel) ⟨Nat.le_of_ble_eq_true rfl, Nat.le_of_ble_eq_true rfl⟩) rfl hl.1 rfl (Nat.le_of_ble_eq_true rfl) dX5_name_6 ⟨Nat.zero_le _, Nat.zero_le _⟩) U (fun r_1 A_2 B_3 H locs U9 hw => ?_)
  obtain ⟨eA, eB, hw⟩ := hw
  rw [eA, eB] at U9
  have U := U9
  refine lv_if_eq (tgt := 33) hx hb dX5_name_9 (by decide) (fun c_4 => ?_) (fun c_4 => ?_)
  · have hw := hw.1 c_4
    refine lv_iconst (v := -1) hx hb dX5_name_33 (by decide) ?_
    exact u_iret hx hb hr hlocks U hw dX5_name_34
  · have hw := hw.2 c_4
    refine lv_iload_n hx hb dX5_name_12 rfl (lv_at hl 2 rfl) ?_
    refine lv_i2l hx hb dX5_name_13 rfl ?_
    refine lv_ldc2 (v := -1) hx hb hown (hts (.constantLong RX5 45 (-1)) (by decide +kernel)) dX5_name_14 ?_
    refine lv_aload_n hx hb dX5_name_17 rfl (lv_at hl 0 rfl) ?_
    refine u_get (C := RX5) (T := TX5) (N := 4) (v := .ref (g.2.1 1)) hx hb hts hX5_name_X5 hown K U 0 4 (by decide) rfl rfl 0 (by decide) (hts (.fieldLink RX5 12 "TrialSearch" "space" "LTrialSearch$Space;") (by decide +kernel)) rfl rfl dX5_name_18 ?_
    refine u_get (C := RX3) (T := TX3) (N := 9) (v := .int (A 1 0)) hx hb hts hX5_name_X3 hown K U 1 2 (by decide) rfl rfl 0 (by decide) (hts (.fieldLink RX5 47 "TrialSearch$Space" "names" "I") (by decide +kernel)) rfl rfl dX5_name_21 ?_
    refine lv_iconst (v := 1) hx hb dX5_name_24 (by decide) ?_
    refine lv_isub hx hb dX5_name_25 ?_
    refine lv_i2l hx hb dX5_name_26 rfl ?_
    refine u_ci (u_rS (As := [.long a1.toInt64, .long (-1 : Int64), .long ((A 1 0) - (1 : Int32)).toInt64]) (rest := []) S K U (c_X5_within hw) (va_cwS 3 hts gX5_name_X5_within rfl rfl rfl (by decide +kernel) ⟨Nat.le_of_ble_eq_true rfl, Nat.le_of_ble_eq_true rfl⟩) rfl hl.1 rfl (Nat.le_of_ble_eq_true rfl) dX5_name_27 ⟨Nat.zero_le _, Nat.zero_le _⟩) U (fun r_5 A_6 B_7 H locs U9 hw => ?_)
    obtain ⟨eA, eB, hw⟩ := hw
    rw [eA, eB] at U9
    have U := U9
    refine lv_if_ne (tgt := 35) hx hb dX5_name_30 (by decide) (fun c_8 => ?_) (fun c_8 => ?_)
    · have hw := hw.1 c_8
      refine lv_iload_n hx hb dX5_name_35 rfl (lv_at hl 2 rfl) ?_
      refine lv_if_lt (tgt := 53) hx hb dX5_name_36 (by decide) (fun c_9 => ?_) (fun c_9 => ?_)
      · have hw := hw.1 c_9
        refine lv_aload_n hx hb dX5_name_53 rfl (lv_at hl 0 rfl) ?_
        refine u_get (C := RX5) (T := TX5) (N := 4) (v := .ref (g.2.1 2)) hx hb hts hX5_name_X5 hown K U 0 4 (by decide) rfl rfl 1 (by decide) (hts (.fieldLink RX5 21 "TrialSearch" "trials" "LTrialSearch$Trials;") (by decide +kernel)) rfl rfl dX5_name_54 ?_
        refine u_get (C := RX4) (T := TX4) (N := 12) (v := .int (A 2 0)) hx hb hts hX5_name_X4 hown K U 2 3 (by decide) rfl rfl 0 (by decide) (hts (.fieldLink RX5 53 "TrialSearch$Trials" "made" "I") (by decide +kernel)) rfl rfl dX5_name_57 ?_
        refine lv_if_le (tgt := 66) hx hb dX5_name_60 (by decide) (fun c_10 => ?_) (fun c_10 => ?_)
        · have hw := hw.1 c_10
          refine lv_aload_n hx hb dX5_name_66 rfl (lv_at hl 0 rfl) ?_
          refine u_get (C := RX5) (T := TX5) (N := 4) (v := .ref (g.2.1 1)) hx hb hts hX5_name_X5 hown K U 0 4 (by decide) rfl rfl 0 (by decide) (hts (.fieldLink RX5 12 "TrialSearch" "space" "LTrialSearch$Space;") (by decide +kernel)) rfl rfl dX5_name_67 ?_
          refine u_get (C := RX3) (T := TX3) (N := 9) (v := .int (A 1 0)) hx hb hts hX5_name_X3 hown K U 1 2 (by decide) rfl rfl 0 (by decide) (hts (.fieldLink RX5 47 "TrialSearch$Space" "names" "I") (by decide +kernel)) rfl rfl dX5_name_70 ?_
          refine lv_bipush (v := 8) hx hb dX5_name_73 (by decide) ?_
          refine lv_icmp_ge (tgt := 91) hx hb dX5_name_75 (by decide) (fun c_11 => ?_) (fun c_11 => ?_)
          · have hw := hw.1 c_11
            refine lv_bipush (v := -4) hx hb dX5_name_91 (by decide) ?_
            exact u_iret hx hb hr hlocks U hw dX5_name_93
          · have hw := hw.2 c_11
            refine lv_aload_n hx hb dX5_name_78 rfl (lv_at hl 0 rfl) ?_
            refine u_get (C := RX5) (T := TX5) (N := 4) (v := .ref (g.2.1 1)) hx hb hts hX5_name_X5 hown K U 0 4 (by decide) rfl rfl 0 (by decide) (hts (.fieldLink RX5 12 "TrialSearch" "space" "LTrialSearch$Space;") (by decide +kernel)) rfl rfl dX5_name_79 ?_
            refine lv_iload_n hx hb dX5_name_82 rfl (lv_at hl 1 rfl) ?_
            refine lv_iload_n hx hb dX5_name_83 rfl (lv_at hl 2 rfl) ?_
            refine lv_iload_n hx hb dX5_name_84 rfl (lv_at hl 3 rfl) ?_
            refine u_ci (u_rV (As := [.int a0, .int a1, .int a2]) (rest := []) (C := RX3) S K U 1 2 (by decide) rfl rfl (c_X3_add hw) (cwV 3 hts gX5_name_X3_add rfl rfl rfl (by decide +kernel) ⟨Nat.le_of_ble_eq_true rfl, Nat.le_of_ble_eq_true rfl⟩) rfl hl.1 rfl (Nat.le_of_ble_eq_true rfl) dX5_name_85 ⟨Nat.zero_le _, Nat.zero_le _⟩) U (fun r_12 A_13 B_14 H locs U hw => ?_)
            refine lv_goto (tgt := 93) hx hb dX5_name_88 (by decide) ?_
            exact u_iret hx hb hr hlocks U hw dX5_name_93
        · have hw := hw.2 c_10
          refine lv_bipush (v := -3) hx hb dX5_name_63 (by decide) ?_
          exact u_iret hx hb hr hlocks U hw dX5_name_65
      · have hw := hw.2 c_9
        refine lv_iload_n hx hb dX5_name_39 rfl (lv_at hl 3 rfl) ?_
        refine lv_i2l hx hb dX5_name_40 rfl ?_
        refine lv_lconst (v := 1) hx hb dX5_name_41 (by decide) ?_
        refine lv_ldc2 (v := 1073741823) hx hb hown (hts (.constantLong RX5 51 (1073741823)) (by decide +kernel)) dX5_name_42 ?_
        refine u_ci (u_rS (As := [.long a2.toInt64, .long (1 : Int64), .long (1073741823 : Int64)]) (rest := []) S K U (c_X5_within hw) (va_cwS 3 hts gX5_name_X5_within rfl rfl rfl (by decide +kernel) ⟨Nat.le_of_ble_eq_true rfl, Nat.le_of_ble_eq_true rfl⟩) rfl hl.1 rfl (Nat.le_of_ble_eq_true rfl) dX5_name_45 ⟨Nat.zero_le _, Nat.zero_le _⟩) U (fun r_15 A_16 B_17 H locs U9 hw => ?_)
        obtain ⟨eA, eB, hw⟩ := hw
        rw [eA, eB] at U9
        have U := U9
        refine lv_if_ne (tgt := 53) hx hb dX5_name_48 (by decide) (fun c_18 => ?_) (fun c_18 => ?_)
        · have hw := hw.1 c_18
          refine lv_aload_n hx hb dX5_name_53 rfl (lv_at hl 0 rfl) ?_
          refine u_get (C := RX5) (T := TX5) (N := 4) (v := .ref (g.2.1 2)) hx hb hts hX5_name_X5 hown K U 0 4 (by decide) rfl rfl 1 (by decide) (hts (.fieldLink RX5 21 "TrialSearch" "trials" "LTrialSearch$Trials;") (by decide +kernel)) rfl rfl dX5_name_54 ?_
          refine u_get (C := RX4) (T := TX4) (N := 12) (v := .int (A 2 0)) hx hb hts hX5_name_X4 hown K U 2 3 (by decide) rfl rfl 0 (by decide) (hts (.fieldLink RX5 53 "TrialSearch$Trials" "made" "I") (by decide +kernel)) rfl rfl dX5_name_57 ?_
          refine lv_if_le (tgt := 66) hx hb dX5_name_60 (by decide) (fun c_19 => ?_) (fun c_19 => ?_)
          · have hw := hw.1 c_19
            refine lv_aload_n hx hb dX5_name_66 rfl (lv_at hl 0 rfl) ?_
            refine u_get (C := RX5) (T := TX5) (N := 4) (v := .ref (g.2.1 1)) hx hb hts hX5_name_X5 hown K U 0 4 (by decide) rfl rfl 0 (by decide) (hts (.fieldLink RX5 12 "TrialSearch" "space" "LTrialSearch$Space;") (by decide +kernel)) rfl rfl dX5_name_67 ?_
            refine u_get (C := RX3) (T := TX3) (N := 9) (v := .int (A 1 0)) hx hb hts hX5_name_X3 hown K U 1 2 (by decide) rfl rfl 0 (by decide) (hts (.fieldLink RX5 47 "TrialSearch$Space" "names" "I") (by decide +kernel)) rfl rfl dX5_name_70 ?_
            refine lv_bipush (v := 8) hx hb dX5_name_73 (by decide) ?_
            refine lv_icmp_ge (tgt := 91) hx hb dX5_name_75 (by decide) (fun c_20 => ?_) (fun c_20 => ?_)
            · have hw := hw.1 c_20
              refine lv_bipush (v := -4) hx hb dX5_name_91 (by decide) ?_
              exact u_iret hx hb hr hlocks U hw dX5_name_93
            · have hw := hw.2 c_20
              refine lv_aload_n hx hb dX5_name_78 rfl (lv_at hl 0 rfl) ?_
              refine u_get (C := RX5) (T := TX5) (N := 4) (v := .ref (g.2.1 1)) hx hb hts hX5_name_X5 hown K U 0 4 (by decide) rfl rfl 0 (by decide) (hts (.fieldLink RX5 12 "TrialSearch" "space" "LTrialSearch$Space;") (by decide +kernel)) rfl rfl dX5_name_79 ?_
              refine lv_iload_n hx hb dX5_name_82 rfl (lv_at hl 1 rfl) ?_
              refine lv_iload_n hx hb dX5_name_83 rfl (lv_at hl 2 rfl) ?_
              refine lv_iload_n hx hb dX5_name_84 rfl (lv_at hl 3 rfl) ?_
              refine u_ci (u_rV (As := [.int a0, .int a1, .int a2]) (rest := []) (C := RX3) S K U 1 2 (by decide) rfl rfl (c_X3_add hw) (cwV 3 hts gX5_name_X3_add rfl rfl rfl (by decide +kernel) ⟨Nat.le_of_ble_eq_true rfl, Nat.le_of_ble_eq_true rfl⟩) rfl hl.1 rfl (Nat.le_of_ble_eq_true rfl) dX5_name_85 ⟨Nat.zero_le _, Nat.zero_le _⟩) U (fun r_21 A_22 B_23 H locs U hw => ?_)
              refine lv_goto (tgt := 93) hx hb dX5_name_88 (by decide) ?_
              exact u_iret hx hb hr hlocks U hw dX5_name_93
          · have hw := hw.2 c_19
            refine lv_bipush (v := -3) hx hb dX5_name_63 (by decide) ?_
            exact u_iret hx hb hr hlocks U hw dX5_name_65
        · have hw := hw.2 c_18
          refine lv_iconst (v := -1) hx hb dX5_name_51 (by decide) ?_
          exact u_iret hx hb hr hlocks U hw dX5_name_52
    · have hw := hw.2 c_8
      refine lv_iconst (v := -1) hx hb dX5_name_33 (by decide) ?_
      exact u_iret hx hb hr hlocks U hw dX5_name_34
set_option maxHeartbeats 4000000 in
set_option maxRecDepth 100000 in
theorem c_X5_points {l : Launch} {g : uG}  {A : SA} {B : SB} {Q : Int64 → Prop} (hw : wp_X5_points  A B Q) : ML l yX5_points wsX5_points rmX5_points g A B [.ref (g.2.1 0)] (fun r A1 B1 => A1 = A ∧ B1 = B ∧ Q r ) := by
  refine u_of (cc := cX5_points) (maxL := 1) (ret := (some .long)) (by decide) rfl (Nat.le_of_ble_eq_true rfl) ?_
  intro p e s m below meth c ls C K U hl
  obtain ⟨hx, hb, hml, hown, hts, hr, hlocks⟩ := id C
  have S : CallFix p m c cX5_points 1 s ([.ref (g.2.1 0)] : List Value).toArray wsX5_points RX5 := ⟨hx, hb, hml, hown, hts⟩
  have hl : lv_has ls 1 [(0, .ref (g.2.1 0))] := hl
  refine lv_aload_n hx hb dX5_points_0 rfl (lv_at hl 0 rfl) ?_
  refine u_get (C := RX5) (T := TX5) (N := 4) (v := .ref (g.2.1 1)) hx hb hts hX5_points_X5 hown K U 0 4 (by decide) rfl rfl 0 (by decide) (hts (.fieldLink RX5 12 "TrialSearch" "space" "LTrialSearch$Space;") (by decide +kernel)) rfl rfl dX5_points_1 ?_
  refine u_get (C := RX3) (T := TX3) (N := 9) (v := .long (B 1 1)) hx hb hts hX5_points_X3 hown K U 1 2 (by decide) rfl rfl 1 (by decide) (hts (.fieldLink RX5 60 "TrialSearch$Space" "all" "J") (by decide +kernel)) rfl rfl dX5_points_4 ?_
  exact u_lret hx hb hr hlocks U ⟨rfl, rfl, hw⟩ dX5_points_7
set_option maxHeartbeats 4000000 in
set_option maxRecDepth 100000 in
theorem c_X5_isPoint {l : Launch} {g : uG} {a0 : Int64} {A : SA} {B : SB} {Q : Int32 → Prop} (hw : wp_X5_isPoint a0 A B Q) : MI l yX5_isPoint wsX5_isPoint rmX5_isPoint g A B [.ref (g.2.1 0), .long a0] (fun r A1 B1 => A1 = A ∧ B1 = B ∧ Q r ) := by
  refine u_of (cc := cX5_isPoint) (maxL := 3) (ret := (some .boolean)) (by decide) rfl (Nat.le_of_ble_eq_true rfl) ?_
  intro p e s m below meth c ls C K U hl
  obtain ⟨hx, hb, hml, hown, hts, hr, hlocks⟩ := id C
  have S : CallFix p m c cX5_isPoint 3 s ([.ref (g.2.1 0), .long a0] : List Value).toArray wsX5_isPoint RX5 := ⟨hx, hb, hml, hown, hts⟩
  have hl : lv_has ls 3 [(0, .ref (g.2.1 0)), (1, .long a0)] := hl
  refine lv_lload_n hx hb dX5_isPoint_0 rfl (lv_at hl 1 rfl) ?_
  refine lv_lconst (v := 0) hx hb dX5_isPoint_1 (by decide) ?_
  refine lv_aload_n hx hb dX5_isPoint_2 rfl (lv_at hl 0 rfl) ?_
  refine u_get (C := RX5) (T := TX5) (N := 4) (v := .ref (g.2.1 1)) hx hb hts hX5_isPoint_X5 hown K U 0 4 (by decide) rfl rfl 0 (by decide) (hts (.fieldLink RX5 12 "TrialSearch" "space" "LTrialSearch$Space;") (by decide +kernel)) rfl rfl dX5_isPoint_3 ?_
  refine u_get (C := RX3) (T := TX3) (N := 9) (v := .long (B 1 1)) hx hb hts hX5_isPoint_X3 hown K U 1 2 (by decide) rfl rfl 1 (by decide) (hts (.fieldLink RX5 60 "TrialSearch$Space" "all" "J") (by decide +kernel)) rfl rfl dX5_isPoint_6 ?_
  refine lv_lconst (v := 1) hx hb dX5_isPoint_9 (by decide) ?_
  refine lv_lsub hx hb dX5_isPoint_10 ?_
  refine u_ci (u_rS (As := [.long a0, .long (0 : Int64), .long ((B 1 1) - (1 : Int64))]) (rest := []) S K U (c_X5_within hw) (va_cwS 3 hts gX5_isPoint_X5_within rfl rfl rfl (by decide +kernel) ⟨Nat.le_of_ble_eq_true rfl, Nat.le_of_ble_eq_true rfl⟩) rfl hl.1 rfl (Nat.le_of_ble_eq_true rfl) dX5_isPoint_11 ⟨Nat.zero_le _, Nat.zero_le _⟩) U (fun r_1 A_2 B_3 H locs U9 hw => ?_)
  obtain ⟨eA, eB, hw⟩ := hw
  rw [eA, eB] at U9
  have U := U9
  obtain ⟨hn_4, hw⟩ := hw
  exact u_zret hx hb hr hlocks U hn_4 ⟨rfl, rfl, hw⟩ dX5_isPoint_14
set_option maxHeartbeats 4000000 in
set_option maxRecDepth 100000 in
theorem c_X5_value {l : Launch} {g : uG} {a0 : Int64} {a1 : Int32} {A : SA} {B : SB} {Q : Int32 → SA → Prop} (hw : wp_X5_value a0 a1 A B Q) : MI l yX5_value wsX5_value rmX5_value g A B [.ref (g.2.1 0), .long a0, .int a1] (fun r A1 B1 => B1 = B ∧ Q r A1 ) := by
  refine u_of (cc := cX5_value) (maxL := 4) (ret := (some .int)) (by decide) rfl (Nat.le_of_ble_eq_true rfl) ?_
  intro p e s m below meth c ls C K U hl
  obtain ⟨hx, hb, hml, hown, hts, hr, hlocks⟩ := id C
  have S : CallFix p m c cX5_value 4 s ([.ref (g.2.1 0), .long a0, .int a1] : List Value).toArray wsX5_value RX5 := ⟨hx, hb, hml, hown, hts⟩
  have hl : lv_has ls 4 [(0, .ref (g.2.1 0)), (1, .long a0), (3, .int a1)] := hl
  refine lv_aload_n hx hb dX5_value_0 rfl (lv_at hl 0 rfl) ?_
  refine lv_lload_n hx hb dX5_value_1 rfl (lv_at hl 1 rfl) ?_
  refine u_ci (u_rV (As := [.long a0]) (rest := []) (C := RX5) S K U 0 4 (by decide) rfl rfl (c_X5_isPoint hw) (cwV 1 hts gX5_value_X5_isPoint rfl rfl rfl (by decide +kernel) ⟨Nat.le_of_ble_eq_true rfl, Nat.le_of_ble_eq_true rfl⟩) rfl hl.1 rfl (Nat.le_of_ble_eq_true rfl) dX5_value_2 ⟨Nat.zero_le _, Nat.zero_le _⟩) U (fun r_1 A_2 B_3 H locs U9 hw => ?_)
  obtain ⟨eA, eB, hw⟩ := hw
  rw [eA, eB] at U9
  have U := U9
  refine lv_if_eq (tgt := 27) hx hb dX5_value_5 (by decide) (fun c_4 => ?_) (fun c_4 => ?_)
  · have hw := hw.1 c_4
    refine lv_iconst (v := -1) hx hb dX5_value_27 (by decide) ?_
    exact u_iret hx hb hr hlocks U ⟨rfl, hw⟩ dX5_value_28
  · have hw := hw.2 c_4
    refine lv_iload_n hx hb dX5_value_8 rfl (lv_at hl 2 rfl) ?_
    refine lv_i2l hx hb dX5_value_9 rfl ?_
    refine lv_lconst (v := 0) hx hb dX5_value_10 (by decide) ?_
    refine lv_aload_n hx hb dX5_value_11 rfl (lv_at hl 0 rfl) ?_
    refine u_get (C := RX5) (T := TX5) (N := 4) (v := .ref (g.2.1 1)) hx hb hts hX5_value_X5 hown K U 0 4 (by decide) rfl rfl 0 (by decide) (hts (.fieldLink RX5 12 "TrialSearch" "space" "LTrialSearch$Space;") (by decide +kernel)) rfl rfl dX5_value_12 ?_
    refine u_get (C := RX3) (T := TX3) (N := 9) (v := .int (A 1 0)) hx hb hts hX5_value_X3 hown K U 1 2 (by decide) rfl rfl 0 (by decide) (hts (.fieldLink RX5 47 "TrialSearch$Space" "names" "I") (by decide +kernel)) rfl rfl dX5_value_15 ?_
    refine lv_iconst (v := 1) hx hb dX5_value_18 (by decide) ?_
    refine lv_isub hx hb dX5_value_19 ?_
    refine lv_i2l hx hb dX5_value_20 rfl ?_
    refine u_ci (u_rS (As := [.long a1.toInt64, .long (0 : Int64), .long ((A 1 0) - (1 : Int32)).toInt64]) (rest := []) S K U (c_X5_within hw) (va_cwS 3 hts gX5_value_X5_within rfl rfl rfl (by decide +kernel) ⟨Nat.le_of_ble_eq_true rfl, Nat.le_of_ble_eq_true rfl⟩) rfl hl.1 rfl (Nat.le_of_ble_eq_true rfl) dX5_value_21 ⟨Nat.zero_le _, Nat.zero_le _⟩) U (fun r_5 A_6 B_7 H locs U9 hw => ?_)
    obtain ⟨eA, eB, hw⟩ := hw
    rw [eA, eB] at U9
    have U := U9
    refine lv_if_ne (tgt := 29) hx hb dX5_value_24 (by decide) (fun c_8 => ?_) (fun c_8 => ?_)
    · have hw := hw.1 c_8
      refine lv_aload_n hx hb dX5_value_29 rfl (lv_at hl 0 rfl) ?_
      refine u_get (C := RX5) (T := TX5) (N := 4) (v := .ref (g.2.1 1)) hx hb hts hX5_value_X5 hown K U 0 4 (by decide) rfl rfl 0 (by decide) (hts (.fieldLink RX5 12 "TrialSearch" "space" "LTrialSearch$Space;") (by decide +kernel)) rfl rfl dX5_value_30 ?_
      refine lv_lload_n hx hb dX5_value_33 rfl (lv_at hl 1 rfl) ?_
      refine lv_aload_n hx hb dX5_value_34 rfl (lv_at hl 0 rfl) ?_
      refine u_get (C := RX5) (T := TX5) (N := 4) (v := .ref (g.2.1 1)) hx hb hts hX5_value_X5 hown K U 0 4 (by decide) rfl rfl 0 (by decide) (hts (.fieldLink RX5 12 "TrialSearch" "space" "LTrialSearch$Space;") (by decide +kernel)) rfl rfl dX5_value_35 ?_
      refine u_get (C := RX3) (T := TX3) (N := 9) (v := .ref (g.2.1 6)) hx hb hts hX5_value_X3 hown K U 1 2 (by decide) rfl rfl 2 (by decide) (hts (.fieldLink RX5 68 "TrialSearch$Space" "left" "[I") (by decide +kernel)) rfl rfl dX5_value_38 ?_
      refine u_cv (u_rV (As := [.long a0, .ref (g.2.1 6)]) (rest := []) (C := RX3) S K U 1 2 (by decide) rfl rfl (c_X3_read hw) (cwV 2 hts gX5_value_X3_read rfl rfl rfl (by decide +kernel) ⟨Nat.le_of_ble_eq_true rfl, Nat.le_of_ble_eq_true rfl⟩) rfl hl.1 rfl (Nat.le_of_ble_eq_true rfl) dX5_value_41 ⟨Nat.zero_le _, Nat.zero_le _⟩) U (fun A_10 B_11 H locs U9 hw => ?_)
      obtain ⟨eB, hw⟩ := hw
      rw [eB] at U9
      have U := U9
      refine lv_aload_n hx hb dX5_value_44 rfl (lv_at hl 0 rfl) ?_
      refine u_get (C := RX5) (T := TX5) (N := 4) (v := .ref (g.2.1 1)) hx hb hts hX5_value_X5 hown K U 0 4 (by decide) rfl rfl 0 (by decide) (hts (.fieldLink RX5 12 "TrialSearch" "space" "LTrialSearch$Space;") (by decide +kernel)) rfl rfl dX5_value_45 ?_
      refine u_get (C := RX3) (T := TX3) (N := 9) (v := .ref (g.2.1 6)) hx hb hts hX5_value_X3 hown K U 1 2 (by decide) rfl rfl 2 (by decide) (hts (.fieldLink RX5 68 "TrialSearch$Space" "left" "[I") (by decide +kernel)) rfl rfl dX5_value_48 ?_
      refine lv_iload_n hx hb dX5_value_51 rfl (lv_at hl 2 rfl) ?_
      obtain ⟨hi_12, hw⟩ := hw
      refine u_iald (k := 6) (v := (A_10 6 a1.toNatClampNeg)) hx hb K U rfl (by decide) rfl hi_12 rfl dX5_value_52 ?_
      exact u_iret hx hb hr hlocks U ⟨rfl, hw⟩ dX5_value_53
    · have hw := hw.2 c_8
      refine lv_iconst (v := -1) hx hb dX5_value_27 (by decide) ?_
      exact u_iret hx hb hr hlocks U ⟨rfl, hw⟩ dX5_value_28
set_option maxHeartbeats 4000000 in
set_option maxRecDepth 100000 in
theorem c_X5_number {l : Launch} {g : uG} {a0 : Int64} {A : SA} {B : SB} {Q : Int64 → SA → Prop} (hw : wp_X5_number a0 A B Q) : ML l yX5_number wsX5_number rmX5_number g A B [.ref (g.2.1 0), .long a0] (fun r A1 B1 => B1 = B ∧ Q r A1 ) := by
  refine u_of (cc := cX5_number) (maxL := 3) (ret := (some .long)) (by decide) rfl (Nat.le_of_ble_eq_true rfl) ?_
  intro p e s m below meth c ls C K U hl
  obtain ⟨hx, hb, hml, hown, hts, hr, hlocks⟩ := id C
  have S : CallFix p m c cX5_number 3 s ([.ref (g.2.1 0), .long a0] : List Value).toArray wsX5_number RX5 := ⟨hx, hb, hml, hown, hts⟩
  have hl : lv_has ls 3 [(0, .ref (g.2.1 0)), (1, .long a0)] := hl
  refine lv_aload_n hx hb dX5_number_0 rfl (lv_at hl 0 rfl) ?_
  refine u_get (C := RX5) (T := TX5) (N := 4) (v := .ref (g.2.1 1)) hx hb hts hX5_number_X5 hown K U 0 4 (by decide) rfl rfl 0 (by decide) (hts (.fieldLink RX5 12 "TrialSearch" "space" "LTrialSearch$Space;") (by decide +kernel)) rfl rfl dX5_number_1 ?_
  refine lv_lload_n hx hb dX5_number_4 rfl (lv_at hl 1 rfl) ?_
  refine lv_aload_n hx hb dX5_number_5 rfl (lv_at hl 0 rfl) ?_
  refine u_get (C := RX5) (T := TX5) (N := 4) (v := .ref (g.2.1 1)) hx hb hts hX5_number_X5 hown K U 0 4 (by decide) rfl rfl 0 (by decide) (hts (.fieldLink RX5 12 "TrialSearch" "space" "LTrialSearch$Space;") (by decide +kernel)) rfl rfl dX5_number_6 ?_
  refine u_get (C := RX3) (T := TX3) (N := 9) (v := .ref (g.2.1 6)) hx hb hts hX5_number_X3 hown K U 1 2 (by decide) rfl rfl 2 (by decide) (hts (.fieldLink RX5 68 "TrialSearch$Space" "left" "[I") (by decide +kernel)) rfl rfl dX5_number_9 ?_
  refine u_ci (u_rV (As := [.long a0, .ref (g.2.1 6)]) (rest := []) (C := RX3) S K U 1 2 (by decide) rfl rfl (c_X3_takeBits hw) (cwV 2 hts gX5_number_X3_takeBits rfl rfl rfl (by decide +kernel) ⟨Nat.le_of_ble_eq_true rfl, Nat.le_of_ble_eq_true rfl⟩) rfl hl.1 rfl (Nat.le_of_ble_eq_true rfl) dX5_number_12 ⟨Nat.zero_le _, Nat.zero_le _⟩) U (fun r_1 A_2 B_3 H locs U9 hw => ?_)
  obtain ⟨eB, hw⟩ := hw
  rw [eB] at U9
  have U := U9
  refine lv_if_eq (tgt := 35) hx hb dX5_number_15 (by decide) (fun c_4 => ?_) (fun c_4 => ?_)
  · have hw := hw.1 c_4
    refine lv_ldc2 (v := -2) hx hb hown (hts (.constantLong RX5 84 (-2)) (by decide +kernel)) dX5_number_35 ?_
    exact u_lret hx hb hr hlocks U ⟨rfl, hw⟩ dX5_number_38
  · have hw := hw.2 c_4
    refine lv_aload_n hx hb dX5_number_18 rfl (lv_at hl 0 rfl) ?_
    refine u_get (C := RX5) (T := TX5) (N := 4) (v := .ref (g.2.1 1)) hx hb hts hX5_number_X5 hown K U 0 4 (by decide) rfl rfl 0 (by decide) (hts (.fieldLink RX5 12 "TrialSearch" "space" "LTrialSearch$Space;") (by decide +kernel)) rfl rfl dX5_number_19 ?_
    refine lv_aload_n hx hb dX5_number_22 rfl (lv_at hl 0 rfl) ?_
    refine u_get (C := RX5) (T := TX5) (N := 4) (v := .ref (g.2.1 1)) hx hb hts hX5_number_X5 hown K U 0 4 (by decide) rfl rfl 0 (by decide) (hts (.fieldLink RX5 12 "TrialSearch" "space" "LTrialSearch$Space;") (by decide +kernel)) rfl rfl dX5_number_23 ?_
    refine u_get (C := RX3) (T := TX3) (N := 9) (v := .ref (g.2.1 6)) hx hb hts hX5_number_X3 hown K U 1 2 (by decide) rfl rfl 2 (by decide) (hts (.fieldLink RX5 68 "TrialSearch$Space" "left" "[I") (by decide +kernel)) rfl rfl dX5_number_26 ?_
    refine u_cl (u_rV (As := [.ref (g.2.1 6)]) (rest := []) (C := RX3) S K U 1 2 (by decide) rfl rfl (c_X3_place hw) (cwV 1 hts gX5_number_X3_place rfl rfl rfl (by decide +kernel) ⟨Nat.le_of_ble_eq_true rfl, Nat.le_of_ble_eq_true rfl⟩) rfl hl.1 rfl (Nat.le_of_ble_eq_true rfl) dX5_number_29 ⟨Nat.zero_le _, Nat.zero_le _⟩) U (fun r_5 A_6 B_7 H locs U9 hw => ?_)
    obtain ⟨eA, eB, hw⟩ := hw
    rw [eA, eB] at U9
    have U := U9
    refine lv_goto (tgt := 38) hx hb dX5_number_32 (by decide) ?_
    exact u_lret hx hb hr hlocks U ⟨rfl, hw⟩ dX5_number_38
set_option maxHeartbeats 4000000 in
set_option maxRecDepth 100000 in
theorem c_X5_distance {l : Launch} {g : uG} {a0 : Int64} {a1 : Int64} {A : SA} {B : SB} {Q : Int32 → SA → Prop} (hw : wp_X5_distance a0 a1 A B Q) : MI l yX5_distance wsX5_distance rmX5_distance g A B [.ref (g.2.1 0), .long a0, .long a1] (fun r A1 B1 => B1 = B ∧ Q r A1 ) := by
  refine u_of (cc := cX5_distance) (maxL := 5) (ret := (some .int)) (by decide) rfl (Nat.le_of_ble_eq_true rfl) ?_
  intro p e s m below meth c ls C K U hl
  obtain ⟨hx, hb, hml, hown, hts, hr, hlocks⟩ := id C
  have S : CallFix p m c cX5_distance 5 s ([.ref (g.2.1 0), .long a0, .long a1] : List Value).toArray wsX5_distance RX5 := ⟨hx, hb, hml, hown, hts⟩
  have hl : lv_has ls 5 [(0, .ref (g.2.1 0)), (1, .long a0), (3, .long a1)] := hl
  refine lv_aload_n hx hb dX5_distance_0 rfl (lv_at hl 0 rfl) ?_
  refine lv_lload_n hx hb dX5_distance_1 rfl (lv_at hl 1 rfl) ?_
  refine u_ci (u_rV (As := [.long a0]) (rest := []) (C := RX5) S K U 0 4 (by decide) rfl rfl (c_X5_isPoint hw) (cwV 1 hts gX5_distance_X5_isPoint rfl rfl rfl (by decide +kernel) ⟨Nat.le_of_ble_eq_true rfl, Nat.le_of_ble_eq_true rfl⟩) rfl hl.1 rfl (Nat.le_of_ble_eq_true rfl) dX5_distance_2 ⟨Nat.zero_le _, Nat.zero_le _⟩) U (fun r_1 A_2 B_3 H locs U9 hw => ?_)
  obtain ⟨eA, eB, hw⟩ := hw
  rw [eA, eB] at U9
  have U := U9
  refine lv_if_eq (tgt := 16) hx hb dX5_distance_5 (by decide) (fun c_4 => ?_) (fun c_4 => ?_)
  · have hw := hw.1 c_4
    refine lv_iconst (v := -1) hx hb dX5_distance_16 (by decide) ?_
    exact u_iret hx hb hr hlocks U ⟨rfl, hw⟩ dX5_distance_17
  · have hw := hw.2 c_4
    refine lv_aload_n hx hb dX5_distance_8 rfl (lv_at hl 0 rfl) ?_
    refine lv_lload_n hx hb dX5_distance_9 rfl (lv_at hl 2 rfl) ?_
    refine u_ci (u_rV (As := [.long a1]) (rest := []) (C := RX5) S K U 0 4 (by decide) rfl rfl (c_X5_isPoint hw) (cwV 1 hts gX5_distance_X5_isPoint rfl rfl rfl (by decide +kernel) ⟨Nat.le_of_ble_eq_true rfl, Nat.le_of_ble_eq_true rfl⟩) rfl hl.1 rfl (Nat.le_of_ble_eq_true rfl) dX5_distance_10 ⟨Nat.zero_le _, Nat.zero_le _⟩) U (fun r_5 A_6 B_7 H locs U9 hw => ?_)
    obtain ⟨eA, eB, hw⟩ := hw
    rw [eA, eB] at U9
    have U := U9
    refine lv_if_ne (tgt := 18) hx hb dX5_distance_13 (by decide) (fun c_8 => ?_) (fun c_8 => ?_)
    · have hw := hw.1 c_8
      refine lv_aload_n hx hb dX5_distance_18 rfl (lv_at hl 0 rfl) ?_
      refine u_get (C := RX5) (T := TX5) (N := 4) (v := .ref (g.2.1 1)) hx hb hts hX5_distance_X5 hown K U 0 4 (by decide) rfl rfl 0 (by decide) (hts (.fieldLink RX5 12 "TrialSearch" "space" "LTrialSearch$Space;") (by decide +kernel)) rfl rfl dX5_distance_19 ?_
      refine lv_lload_n hx hb dX5_distance_22 rfl (lv_at hl 1 rfl) ?_
      refine lv_aload_n hx hb dX5_distance_23 rfl (lv_at hl 0 rfl) ?_
      refine u_get (C := RX5) (T := TX5) (N := 4) (v := .ref (g.2.1 1)) hx hb hts hX5_distance_X5 hown K U 0 4 (by decide) rfl rfl 0 (by decide) (hts (.fieldLink RX5 12 "TrialSearch" "space" "LTrialSearch$Space;") (by decide +kernel)) rfl rfl dX5_distance_24 ?_
      refine u_get (C := RX3) (T := TX3) (N := 9) (v := .ref (g.2.1 6)) hx hb hts hX5_distance_X3 hown K U 1 2 (by decide) rfl rfl 2 (by decide) (hts (.fieldLink RX5 68 "TrialSearch$Space" "left" "[I") (by decide +kernel)) rfl rfl dX5_distance_27 ?_
      refine u_cv (u_rV (As := [.long a0, .ref (g.2.1 6)]) (rest := []) (C := RX3) S K U 1 2 (by decide) rfl rfl (c_X3_read hw) (cwV 2 hts gX5_distance_X3_read rfl rfl rfl (by decide +kernel) ⟨Nat.le_of_ble_eq_true rfl, Nat.le_of_ble_eq_true rfl⟩) rfl hl.1 rfl (Nat.le_of_ble_eq_true rfl) dX5_distance_30 ⟨Nat.zero_le _, Nat.zero_le _⟩) U (fun A_10 B_11 H locs U9 hw => ?_)
      obtain ⟨eB, hw⟩ := hw
      rw [eB] at U9
      have U := U9
      refine lv_aload_n hx hb dX5_distance_33 rfl (lv_at hl 0 rfl) ?_
      refine u_get (C := RX5) (T := TX5) (N := 4) (v := .ref (g.2.1 1)) hx hb hts hX5_distance_X5 hown K U 0 4 (by decide) rfl rfl 0 (by decide) (hts (.fieldLink RX5 12 "TrialSearch" "space" "LTrialSearch$Space;") (by decide +kernel)) rfl rfl dX5_distance_34 ?_
      refine lv_lload_n hx hb dX5_distance_37 rfl (lv_at hl 2 rfl) ?_
      refine lv_aload_n hx hb dX5_distance_38 rfl (lv_at hl 0 rfl) ?_
      refine u_get (C := RX5) (T := TX5) (N := 4) (v := .ref (g.2.1 1)) hx hb hts hX5_distance_X5 hown K U 0 4 (by decide) rfl rfl 0 (by decide) (hts (.fieldLink RX5 12 "TrialSearch" "space" "LTrialSearch$Space;") (by decide +kernel)) rfl rfl dX5_distance_39 ?_
      refine u_get (C := RX3) (T := TX3) (N := 9) (v := .ref (g.2.1 7)) hx hb hts hX5_distance_X3 hown K U 1 2 (by decide) rfl rfl 3 (by decide) (hts (.fieldLink RX5 86 "TrialSearch$Space" "right" "[I") (by decide +kernel)) rfl rfl dX5_distance_42 ?_
      refine u_cv (u_rV (As := [.long a1, .ref (g.2.1 7)]) (rest := []) (C := RX3) S K U 1 2 (by decide) rfl rfl (c_X3_read hw) (cwV 2 hts gX5_distance_X3_read rfl rfl rfl (by decide +kernel) ⟨Nat.le_of_ble_eq_true rfl, Nat.le_of_ble_eq_true rfl⟩) rfl hl.1 rfl (Nat.le_of_ble_eq_true rfl) dX5_distance_45 ⟨Nat.zero_le _, Nat.zero_le _⟩) U (fun A_13 B_14 H locs U9 hw => ?_)
      obtain ⟨eB, hw⟩ := hw
      rw [eB] at U9
      have U := U9
      refine lv_aload_n hx hb dX5_distance_48 rfl (lv_at hl 0 rfl) ?_
      refine u_get (C := RX5) (T := TX5) (N := 4) (v := .ref (g.2.1 1)) hx hb hts hX5_distance_X5 hown K U 0 4 (by decide) rfl rfl 0 (by decide) (hts (.fieldLink RX5 12 "TrialSearch" "space" "LTrialSearch$Space;") (by decide +kernel)) rfl rfl dX5_distance_49 ?_
      refine lv_aload_n hx hb dX5_distance_52 rfl (lv_at hl 0 rfl) ?_
      refine u_get (C := RX5) (T := TX5) (N := 4) (v := .ref (g.2.1 1)) hx hb hts hX5_distance_X5 hown K U 0 4 (by decide) rfl rfl 0 (by decide) (hts (.fieldLink RX5 12 "TrialSearch" "space" "LTrialSearch$Space;") (by decide +kernel)) rfl rfl dX5_distance_53 ?_
      refine u_get (C := RX3) (T := TX3) (N := 9) (v := .ref (g.2.1 6)) hx hb hts hX5_distance_X3 hown K U 1 2 (by decide) rfl rfl 2 (by decide) (hts (.fieldLink RX5 68 "TrialSearch$Space" "left" "[I") (by decide +kernel)) rfl rfl dX5_distance_56 ?_
      refine lv_aload_n hx hb dX5_distance_59 rfl (lv_at hl 0 rfl) ?_
      refine u_get (C := RX5) (T := TX5) (N := 4) (v := .ref (g.2.1 1)) hx hb hts hX5_distance_X5 hown K U 0 4 (by decide) rfl rfl 0 (by decide) (hts (.fieldLink RX5 12 "TrialSearch" "space" "LTrialSearch$Space;") (by decide +kernel)) rfl rfl dX5_distance_60 ?_
      refine u_get (C := RX3) (T := TX3) (N := 9) (v := .ref (g.2.1 7)) hx hb hts hX5_distance_X3 hown K U 1 2 (by decide) rfl rfl 3 (by decide) (hts (.fieldLink RX5 86 "TrialSearch$Space" "right" "[I") (by decide +kernel)) rfl rfl dX5_distance_63 ?_
      refine u_ci (u_rV (As := [.ref (g.2.1 6), .ref (g.2.1 7)]) (rest := []) (C := RX3) S K U 1 2 (by decide) rfl rfl (c_X3_apart hw) (cwV 2 hts gX5_distance_X3_apart rfl rfl rfl (by decide +kernel) ⟨Nat.le_of_ble_eq_true rfl, Nat.le_of_ble_eq_true rfl⟩) rfl hl.1 rfl (Nat.le_of_ble_eq_true rfl) dX5_distance_66 ⟨Nat.zero_le _, Nat.zero_le _⟩) U (fun r_15 A_16 B_17 H locs U9 hw => ?_)
      obtain ⟨eA, eB, hw⟩ := hw
      rw [eA, eB] at U9
      have U := U9
      exact u_iret hx hb hr hlocks U ⟨rfl, hw⟩ dX5_distance_69
    · have hw := hw.2 c_8
      refine lv_iconst (v := -1) hx hb dX5_distance_16 (by decide) ?_
      exact u_iret hx hb hr hlocks U ⟨rfl, hw⟩ dX5_distance_17
set_option maxHeartbeats 4000000 in
set_option maxRecDepth 100000 in
theorem c_X5_placeBy {l : Launch} {g : uG} {a0 : Int32} {a1 : Int32} {A : SA} {B : SB} {Q : Int64 → SA → Prop} (hw : wp_X5_placeBy a0 a1 A B Q) : ML l yX5_placeBy wsX5_placeBy rmX5_placeBy g A B [.ref (g.2.1 0), .int a0, .int a1] (fun r A1 B1 => B1 = B ∧ Q r A1 ) := by
  refine u_of (cc := cX5_placeBy) (maxL := 3) (ret := (some .long)) (by decide) rfl (Nat.le_of_ble_eq_true rfl) ?_
  intro p e s m below meth c ls C K U hl
  obtain ⟨hx, hb, hml, hown, hts, hr, hlocks⟩ := id C
  have S : CallFix p m c cX5_placeBy 3 s ([.ref (g.2.1 0), .int a0, .int a1] : List Value).toArray wsX5_placeBy RX5 := ⟨hx, hb, hml, hown, hts⟩
  have hl : lv_has ls 3 [(0, .ref (g.2.1 0)), (1, .int a0), (2, .int a1)] := hl
  refine lv_iload_n hx hb dX5_placeBy_0 rfl (lv_at hl 1 rfl) ?_
  refine lv_if_ne (tgt := 17) hx hb dX5_placeBy_1 (by decide) (fun c_1 => ?_) (fun c_1 => ?_)
  · have hw := hw.1 c_1
    refine lv_iload_n hx hb dX5_placeBy_17 rfl (lv_at hl 1 rfl) ?_
    refine lv_iconst (v := 1) hx hb dX5_placeBy_18 (by decide) ?_
    refine lv_icmp_ne (tgt := 34) hx hb dX5_placeBy_19 (by decide) (fun c_2 => ?_) (fun c_2 => ?_)
    · have hw := hw.1 c_2
      refine lv_aload_n hx hb dX5_placeBy_34 rfl (lv_at hl 0 rfl) ?_
      refine u_get (C := RX5) (T := TX5) (N := 4) (v := .ref (g.2.1 1)) hx hb hts hX5_placeBy_X5 hown K U 0 4 (by decide) rfl rfl 0 (by decide) (hts (.fieldLink RX5 12 "TrialSearch" "space" "LTrialSearch$Space;") (by decide +kernel)) rfl rfl dX5_placeBy_35 ?_
      refine lv_iload_n hx hb dX5_placeBy_38 rfl (lv_at hl 2 rfl) ?_
      refine lv_aload_n hx hb dX5_placeBy_39 rfl (lv_at hl 0 rfl) ?_
      refine u_get (C := RX5) (T := TX5) (N := 4) (v := .ref (g.2.1 1)) hx hb hts hX5_placeBy_X5 hown K U 0 4 (by decide) rfl rfl 0 (by decide) (hts (.fieldLink RX5 12 "TrialSearch" "space" "LTrialSearch$Space;") (by decide +kernel)) rfl rfl dX5_placeBy_40 ?_
      refine u_get (C := RX3) (T := TX3) (N := 9) (v := .ref (g.2.1 6)) hx hb hts hX5_placeBy_X3 hown K U 1 2 (by decide) rfl rfl 2 (by decide) (hts (.fieldLink RX5 68 "TrialSearch$Space" "left" "[I") (by decide +kernel)) rfl rfl dX5_placeBy_43 ?_
      refine u_cv (u_rV (As := [.int a1, .ref (g.2.1 6)]) (rest := []) (C := RX3) S K U 1 2 (by decide) rfl rfl (c_X3_pickEach hw) (cwV 2 hts gX5_placeBy_X3_pickEach rfl rfl rfl (by decide +kernel) ⟨Nat.le_of_ble_eq_true rfl, Nat.le_of_ble_eq_true rfl⟩) rfl hl.1 rfl (Nat.le_of_ble_eq_true rfl) dX5_placeBy_46 ⟨Nat.zero_le _, Nat.zero_le _⟩) U (fun A_4 B_5 H locs U9 hw => ?_)
      obtain ⟨eB, hw⟩ := hw
      rw [eB] at U9
      have U := U9
      refine lv_aload_n hx hb dX5_placeBy_49 rfl (lv_at hl 0 rfl) ?_
      refine u_get (C := RX5) (T := TX5) (N := 4) (v := .ref (g.2.1 1)) hx hb hts hX5_placeBy_X5 hown K U 0 4 (by decide) rfl rfl 0 (by decide) (hts (.fieldLink RX5 12 "TrialSearch" "space" "LTrialSearch$Space;") (by decide +kernel)) rfl rfl dX5_placeBy_50 ?_
      refine lv_aload_n hx hb dX5_placeBy_53 rfl (lv_at hl 0 rfl) ?_
      refine u_get (C := RX5) (T := TX5) (N := 4) (v := .ref (g.2.1 1)) hx hb hts hX5_placeBy_X5 hown K U 0 4 (by decide) rfl rfl 0 (by decide) (hts (.fieldLink RX5 12 "TrialSearch" "space" "LTrialSearch$Space;") (by decide +kernel)) rfl rfl dX5_placeBy_54 ?_
      refine u_get (C := RX3) (T := TX3) (N := 9) (v := .ref (g.2.1 6)) hx hb hts hX5_placeBy_X3 hown K U 1 2 (by decide) rfl rfl 2 (by decide) (hts (.fieldLink RX5 68 "TrialSearch$Space" "left" "[I") (by decide +kernel)) rfl rfl dX5_placeBy_57 ?_
      refine u_cl (u_rV (As := [.ref (g.2.1 6)]) (rest := []) (C := RX3) S K U 1 2 (by decide) rfl rfl (c_X3_place hw) (cwV 1 hts gX5_placeBy_X3_place rfl rfl rfl (by decide +kernel) ⟨Nat.le_of_ble_eq_true rfl, Nat.le_of_ble_eq_true rfl⟩) rfl hl.1 rfl (Nat.le_of_ble_eq_true rfl) dX5_placeBy_60 ⟨Nat.zero_le _, Nat.zero_le _⟩) U (fun r_6 A_7 B_8 H locs U9 hw => ?_)
      obtain ⟨eA, eB, hw⟩ := hw
      rw [eA, eB] at U9
      have U := U9
      exact u_lret hx hb hr hlocks U ⟨rfl, hw⟩ dX5_placeBy_63
    · have hw := hw.2 c_2
      refine lv_aload_n hx hb dX5_placeBy_22 rfl (lv_at hl 0 rfl) ?_
      refine u_get (C := RX5) (T := TX5) (N := 4) (v := .ref (g.2.1 1)) hx hb hts hX5_placeBy_X5 hown K U 0 4 (by decide) rfl rfl 0 (by decide) (hts (.fieldLink RX5 12 "TrialSearch" "space" "LTrialSearch$Space;") (by decide +kernel)) rfl rfl dX5_placeBy_23 ?_
      refine u_get (C := RX3) (T := TX3) (N := 9) (v := .long (B 1 1)) hx hb hts hX5_placeBy_X3 hown K U 1 2 (by decide) rfl rfl 1 (by decide) (hts (.fieldLink RX5 60 "TrialSearch$Space" "all" "J") (by decide +kernel)) rfl rfl dX5_placeBy_26 ?_
      refine lv_iload_n hx hb dX5_placeBy_29 rfl (lv_at hl 2 rfl) ?_
      refine u_cl (u_rS (As := [.long (B 1 1), .int a1]) (rest := []) S K U (c_X2_pick hw) (va_cwS 2 hts gX5_placeBy_X2_pick rfl rfl rfl (by decide +kernel) ⟨Nat.le_of_ble_eq_true rfl, Nat.le_of_ble_eq_true rfl⟩) rfl hl.1 rfl (Nat.le_of_ble_eq_true rfl) dX5_placeBy_30 ⟨Nat.zero_le _, Nat.zero_le _⟩) U (fun r_9 A_10 B_11 H locs U9 hw => ?_)
      obtain ⟨eA, eB, hw⟩ := hw
      rw [eA, eB] at U9
      have U := U9
      exact u_lret hx hb hr hlocks U ⟨rfl, hw⟩ dX5_placeBy_33
  · have hw := hw.2 c_1
    refine lv_iload_n hx hb dX5_placeBy_4 rfl (lv_at hl 2 rfl) ?_
    refine lv_i2l hx hb dX5_placeBy_5 rfl ?_
    refine lv_aload_n hx hb dX5_placeBy_6 rfl (lv_at hl 0 rfl) ?_
    refine u_get (C := RX5) (T := TX5) (N := 4) (v := .ref (g.2.1 1)) hx hb hts hX5_placeBy_X5 hown K U 0 4 (by decide) rfl rfl 0 (by decide) (hts (.fieldLink RX5 12 "TrialSearch" "space" "LTrialSearch$Space;") (by decide +kernel)) rfl rfl dX5_placeBy_7 ?_
    refine u_get (C := RX3) (T := TX3) (N := 9) (v := .long (B 1 1)) hx hb hts hX5_placeBy_X3 hown K U 1 2 (by decide) rfl rfl 1 (by decide) (hts (.fieldLink RX5 60 "TrialSearch$Space" "all" "J") (by decide +kernel)) rfl rfl dX5_placeBy_10 ?_
    refine u_cl (u_rS (As := [.long a1.toInt64, .long (B 1 1)]) (rest := []) S K U (c_X5_rest hw) (va_cwS 2 hts gX5_placeBy_X5_rest rfl rfl rfl (by decide +kernel) ⟨Nat.le_of_ble_eq_true rfl, Nat.le_of_ble_eq_true rfl⟩) rfl hl.1 rfl (Nat.le_of_ble_eq_true rfl) dX5_placeBy_13 ⟨Nat.zero_le _, Nat.zero_le _⟩) U (fun r_12 A_13 B_14 H locs U9 hw => ?_)
    obtain ⟨eA, eB, hw⟩ := hw
    rw [eA, eB] at U9
    have U := U9
    exact u_lret hx hb hr hlocks U ⟨rfl, hw⟩ dX5_placeBy_16
set_option maxHeartbeats 4000000 in
set_option maxRecDepth 100000 in
theorem c_X5_trial {l : Launch} {g : uG} {a0 : Int32} {a1 : Int32} {A : SA} {B : SB} {Q : Int32 → SA → SB → Prop} (hw : wp_X5_trial a0 a1 A B Q) : MI l yX5_trial wsX5_trial rmX5_trial g A B [.ref (g.2.1 0), .int a0, .int a1] Q := by
  refine u_of (cc := cX5_trial) (maxL := 3) (ret := (some .int)) (by decide) rfl (Nat.le_of_ble_eq_true rfl) ?_
  intro p e s m below meth c ls C K U hl
  obtain ⟨hx, hb, hml, hown, hts, hr, hlocks⟩ := id C
  have S : CallFix p m c cX5_trial 3 s ([.ref (g.2.1 0), .int a0, .int a1] : List Value).toArray wsX5_trial RX5 := ⟨hx, hb, hml, hown, hts⟩
  have hl : lv_has ls 3 [(0, .ref (g.2.1 0)), (1, .int a0), (2, .int a1)] := hl
  refine lv_iload_n hx hb dX5_trial_0 rfl (lv_at hl 1 rfl) ?_
  refine lv_i2l hx hb dX5_trial_1 rfl ?_
  refine lv_lconst (v := 0) hx hb dX5_trial_2 (by decide) ?_
  refine lv_ldc2 (v := 2) hx hb hown (hts (.constantLong RX5 93 (2)) (by decide +kernel)) dX5_trial_3 ?_
  refine u_ci (u_rS (As := [.long a0.toInt64, .long (0 : Int64), .long (2 : Int64)]) (rest := []) S K U (c_X5_within hw) (va_cwS 3 hts gX5_trial_X5_within rfl rfl rfl (by decide +kernel) ⟨Nat.le_of_ble_eq_true rfl, Nat.le_of_ble_eq_true rfl⟩) rfl hl.1 rfl (Nat.le_of_ble_eq_true rfl) dX5_trial_6 ⟨Nat.zero_le _, Nat.zero_le _⟩) U (fun r_1 A_2 B_3 H locs U9 hw => ?_)
  obtain ⟨eA, eB, hw⟩ := hw
  rw [eA, eB] at U9
  have U := U9
  refine lv_if_eq (tgt := 20) hx hb dX5_trial_9 (by decide) (fun c_4 => ?_) (fun c_4 => ?_)
  · have hw := hw.1 c_4
    refine lv_iconst (v := -1) hx hb dX5_trial_20 (by decide) ?_
    exact u_iret hx hb hr hlocks U hw dX5_trial_21
  · have hw := hw.2 c_4
    refine lv_iload_n hx hb dX5_trial_12 rfl (lv_at hl 1 rfl) ?_
    refine lv_if_ne (tgt := 22) hx hb dX5_trial_13 (by decide) (fun c_5 => ?_) (fun c_5 => ?_)
    · have hw := hw.1 c_5
      refine lv_aload_n hx hb dX5_trial_22 rfl (lv_at hl 0 rfl) ?_
      refine u_get (C := RX5) (T := TX5) (N := 4) (v := .ref (g.2.1 2)) hx hb hts hX5_trial_X5 hown K U 0 4 (by decide) rfl rfl 1 (by decide) (hts (.fieldLink RX5 21 "TrialSearch" "trials" "LTrialSearch$Trials;") (by decide +kernel)) rfl rfl dX5_trial_23 ?_
      refine u_get (C := RX4) (T := TX4) (N := 12) (v := .int (A 2 0)) hx hb hts hX5_trial_X4 hown K U 2 3 (by decide) rfl rfl 0 (by decide) (hts (.fieldLink RX5 53 "TrialSearch$Trials" "made" "I") (by decide +kernel)) rfl rfl dX5_trial_26 ?_
      refine lv_bipush (v := 60) hx hb dX5_trial_29 (by decide) ?_
      refine lv_icmp_ge (tgt := 50) hx hb dX5_trial_31 (by decide) (fun c_6 => ?_) (fun c_6 => ?_)
      · have hw := hw.1 c_6
        refine lv_bipush (v := -4) hx hb dX5_trial_50 (by decide) ?_
        exact u_iret hx hb hr hlocks U hw dX5_trial_52
      · have hw := hw.2 c_6
        refine lv_aload_n hx hb dX5_trial_34 rfl (lv_at hl 0 rfl) ?_
        refine u_get (C := RX5) (T := TX5) (N := 4) (v := .ref (g.2.1 2)) hx hb hts hX5_trial_X5 hown K U 0 4 (by decide) rfl rfl 1 (by decide) (hts (.fieldLink RX5 21 "TrialSearch" "trials" "LTrialSearch$Trials;") (by decide +kernel)) rfl rfl dX5_trial_35 ?_
        refine lv_aload_n hx hb dX5_trial_38 rfl (lv_at hl 0 rfl) ?_
        refine lv_iload_n hx hb dX5_trial_39 rfl (lv_at hl 1 rfl) ?_
        refine lv_iload_n hx hb dX5_trial_40 rfl (lv_at hl 2 rfl) ?_
        refine u_cl (u_rV (As := [.int a0, .int a1]) (rest := [.ref (g.2.1 2)]) (C := RX5) S K U 0 4 (by decide) rfl rfl (c_X5_placeBy hw) (cwV 2 hts gX5_trial_X5_placeBy rfl rfl rfl (by decide +kernel) ⟨Nat.le_of_ble_eq_true rfl, Nat.le_of_ble_eq_true rfl⟩) rfl hl.1 rfl (Nat.le_of_ble_eq_true rfl) dX5_trial_41 ⟨Nat.zero_le _, Nat.zero_le _⟩) U (fun r_7 A_8 B_9 H locs U9 hw => ?_)
        obtain ⟨eB, hw⟩ := hw
        rw [eB] at U9
        have U := U9
        refine u_ci (u_rV (As := [.long r_7]) (rest := []) (C := RX4) S K U 2 3 (by decide) rfl rfl (c_X4_add hw) (cwV 1 hts gX5_trial_X4_add rfl rfl rfl (by decide +kernel) ⟨Nat.le_of_ble_eq_true rfl, Nat.le_of_ble_eq_true rfl⟩) rfl hl.1 rfl (Nat.le_of_ble_eq_true rfl) dX5_trial_44 ⟨Nat.zero_le _, Nat.zero_le _⟩) U (fun r_10 A_11 B_12 H locs U hw => ?_)
        refine lv_goto (tgt := 52) hx hb dX5_trial_47 (by decide) ?_
        exact u_iret hx hb hr hlocks U hw dX5_trial_52
    · have hw := hw.2 c_5
      refine lv_iload_n hx hb dX5_trial_16 rfl (lv_at hl 2 rfl) ?_
      refine lv_if_ge (tgt := 22) hx hb dX5_trial_17 (by decide) (fun c_13 => ?_) (fun c_13 => ?_)
      · have hw := hw.1 c_13
        refine lv_aload_n hx hb dX5_trial_22 rfl (lv_at hl 0 rfl) ?_
        refine u_get (C := RX5) (T := TX5) (N := 4) (v := .ref (g.2.1 2)) hx hb hts hX5_trial_X5 hown K U 0 4 (by decide) rfl rfl 1 (by decide) (hts (.fieldLink RX5 21 "TrialSearch" "trials" "LTrialSearch$Trials;") (by decide +kernel)) rfl rfl dX5_trial_23 ?_
        refine u_get (C := RX4) (T := TX4) (N := 12) (v := .int (A 2 0)) hx hb hts hX5_trial_X4 hown K U 2 3 (by decide) rfl rfl 0 (by decide) (hts (.fieldLink RX5 53 "TrialSearch$Trials" "made" "I") (by decide +kernel)) rfl rfl dX5_trial_26 ?_
        refine lv_bipush (v := 60) hx hb dX5_trial_29 (by decide) ?_
        refine lv_icmp_ge (tgt := 50) hx hb dX5_trial_31 (by decide) (fun c_14 => ?_) (fun c_14 => ?_)
        · have hw := hw.1 c_14
          refine lv_bipush (v := -4) hx hb dX5_trial_50 (by decide) ?_
          exact u_iret hx hb hr hlocks U hw dX5_trial_52
        · have hw := hw.2 c_14
          refine lv_aload_n hx hb dX5_trial_34 rfl (lv_at hl 0 rfl) ?_
          refine u_get (C := RX5) (T := TX5) (N := 4) (v := .ref (g.2.1 2)) hx hb hts hX5_trial_X5 hown K U 0 4 (by decide) rfl rfl 1 (by decide) (hts (.fieldLink RX5 21 "TrialSearch" "trials" "LTrialSearch$Trials;") (by decide +kernel)) rfl rfl dX5_trial_35 ?_
          refine lv_aload_n hx hb dX5_trial_38 rfl (lv_at hl 0 rfl) ?_
          refine lv_iload_n hx hb dX5_trial_39 rfl (lv_at hl 1 rfl) ?_
          refine lv_iload_n hx hb dX5_trial_40 rfl (lv_at hl 2 rfl) ?_
          refine u_cl (u_rV (As := [.int a0, .int a1]) (rest := [.ref (g.2.1 2)]) (C := RX5) S K U 0 4 (by decide) rfl rfl (c_X5_placeBy hw) (cwV 2 hts gX5_trial_X5_placeBy rfl rfl rfl (by decide +kernel) ⟨Nat.le_of_ble_eq_true rfl, Nat.le_of_ble_eq_true rfl⟩) rfl hl.1 rfl (Nat.le_of_ble_eq_true rfl) dX5_trial_41 ⟨Nat.zero_le _, Nat.zero_le _⟩) U (fun r_15 A_16 B_17 H locs U9 hw => ?_)
          obtain ⟨eB, hw⟩ := hw
          rw [eB] at U9
          have U := U9
          refine u_ci (u_rV (As := [.long r_15]) (rest := []) (C := RX4) S K U 2 3 (by decide) rfl rfl (c_X4_add hw) (cwV 1 hts gX5_trial_X4_add rfl rfl rfl (by decide +kernel) ⟨Nat.le_of_ble_eq_true rfl, Nat.le_of_ble_eq_true rfl⟩) rfl hl.1 rfl (Nat.le_of_ble_eq_true rfl) dX5_trial_44 ⟨Nat.zero_le _, Nat.zero_le _⟩) U (fun r_18 A_19 B_20 H locs U hw => ?_)
          refine lv_goto (tgt := 52) hx hb dX5_trial_47 (by decide) ?_
          exact u_iret hx hb hr hlocks U hw dX5_trial_52
      · have hw := hw.2 c_13
        refine lv_iconst (v := -1) hx hb dX5_trial_20 (by decide) ?_
        exact u_iret hx hb hr hlocks U hw dX5_trial_21
set_option maxHeartbeats 4000000 in
set_option maxRecDepth 100000 in
theorem c_X5_guess {l : Launch} {g : uG} {a0 : Int32} {a1 : Int32} {a2 : Int32} {A : SA} {B : SB} {Q : Int32 → SA → SB → Prop} (hw : wp_X5_guess a0 a1 a2 A B Q) : MI l yX5_guess wsX5_guess rmX5_guess g A B [.ref (g.2.1 0), .int a0, .int a1, .int a2] Q := by
  refine u_of (cc := cX5_guess) (maxL := 4) (ret := (some .int)) (by decide) rfl (Nat.le_of_ble_eq_true rfl) ?_
  intro p e s m below meth c ls C K U hl
  obtain ⟨hx, hb, hml, hown, hts, hr, hlocks⟩ := id C
  have S : CallFix p m c cX5_guess 4 s ([.ref (g.2.1 0), .int a0, .int a1, .int a2] : List Value).toArray wsX5_guess RX5 := ⟨hx, hb, hml, hown, hts⟩
  have hl : lv_has ls 4 [(0, .ref (g.2.1 0)), (1, .int a0), (2, .int a1), (3, .int a2)] := hl
  refine lv_iload_n hx hb dX5_guess_0 rfl (lv_at hl 2 rfl) ?_
  refine lv_i2l hx hb dX5_guess_1 rfl ?_
  refine lv_lconst (v := 1) hx hb dX5_guess_2 (by decide) ?_
  refine lv_ldc2 (v := 40) hx hb hown (hts (.constantLong RX5 102 (40)) (by decide +kernel)) dX5_guess_3 ?_
  refine u_ci (u_rS (As := [.long a1.toInt64, .long (1 : Int64), .long (40 : Int64)]) (rest := []) S K U (c_X5_within hw) (va_cwS 3 hts gX5_guess_X5_within rfl rfl rfl (by decide +kernel) ⟨Nat.le_of_ble_eq_true rfl, Nat.le_of_ble_eq_true rfl⟩) rfl hl.1 rfl (Nat.le_of_ble_eq_true rfl) dX5_guess_6 ⟨Nat.zero_le _, Nat.zero_le _⟩) U (fun r_1 A_2 B_3 H locs U9 hw => ?_)
  obtain ⟨eA, eB, hw⟩ := hw
  rw [eA, eB] at U9
  have U := U9
  refine lv_if_eq (tgt := 24) hx hb dX5_guess_9 (by decide) (fun c_4 => ?_) (fun c_4 => ?_)
  · have hw := hw.1 c_4
    refine lv_iconst (v := -1) hx hb dX5_guess_24 (by decide) ?_
    exact u_iret hx hb hr hlocks U hw dX5_guess_25
  · have hw := hw.2 c_4
    refine lv_iload_n hx hb dX5_guess_12 rfl (lv_at hl 3 rfl) ?_
    refine lv_i2l hx hb dX5_guess_13 rfl ?_
    refine lv_lconst (v := 1) hx hb dX5_guess_14 (by decide) ?_
    refine lv_ldc2 (v := 5) hx hb hown (hts (.constantLong RX5 104 (5)) (by decide +kernel)) dX5_guess_15 ?_
    refine u_ci (u_rS (As := [.long a2.toInt64, .long (1 : Int64), .long (5 : Int64)]) (rest := []) S K U (c_X5_within hw) (va_cwS 3 hts gX5_guess_X5_within rfl rfl rfl (by decide +kernel) ⟨Nat.le_of_ble_eq_true rfl, Nat.le_of_ble_eq_true rfl⟩) rfl hl.1 rfl (Nat.le_of_ble_eq_true rfl) dX5_guess_18 ⟨Nat.zero_le _, Nat.zero_le _⟩) U (fun r_5 A_6 B_7 H locs U9 hw => ?_)
    obtain ⟨eA, eB, hw⟩ := hw
    rw [eA, eB] at U9
    have U := U9
    refine lv_if_ne (tgt := 26) hx hb dX5_guess_21 (by decide) (fun c_8 => ?_) (fun c_8 => ?_)
    · have hw := hw.1 c_8
      refine lv_aload_n hx hb dX5_guess_26 rfl (lv_at hl 0 rfl) ?_
      refine u_get (C := RX5) (T := TX5) (N := 4) (v := .ref (g.2.1 2)) hx hb hts hX5_guess_X5 hown K U 0 4 (by decide) rfl rfl 1 (by decide) (hts (.fieldLink RX5 21 "TrialSearch" "trials" "LTrialSearch$Trials;") (by decide +kernel)) rfl rfl dX5_guess_27 ?_
      refine u_get (C := RX4) (T := TX4) (N := 12) (v := .int (A 2 0)) hx hb hts hX5_guess_X4 hown K U 2 3 (by decide) rfl rfl 0 (by decide) (hts (.fieldLink RX5 53 "TrialSearch$Trials" "made" "I") (by decide +kernel)) rfl rfl dX5_guess_30 ?_
      refine lv_bipush (v := 60) hx hb dX5_guess_33 (by decide) ?_
      refine lv_icmp_ge (tgt := 58) hx hb dX5_guess_35 (by decide) (fun c_9 => ?_) (fun c_9 => ?_)
      · have hw := hw.1 c_9
        refine lv_bipush (v := -4) hx hb dX5_guess_58 (by decide) ?_
        exact u_iret hx hb hr hlocks U hw dX5_guess_60
      · have hw := hw.2 c_9
        refine lv_aload_n hx hb dX5_guess_38 rfl (lv_at hl 0 rfl) ?_
        refine u_get (C := RX5) (T := TX5) (N := 4) (v := .ref (g.2.1 2)) hx hb hts hX5_guess_X5 hown K U 0 4 (by decide) rfl rfl 1 (by decide) (hts (.fieldLink RX5 21 "TrialSearch" "trials" "LTrialSearch$Trials;") (by decide +kernel)) rfl rfl dX5_guess_39 ?_
        refine lv_aload_n hx hb dX5_guess_42 rfl (lv_at hl 0 rfl) ?_
        refine u_get (C := RX5) (T := TX5) (N := 4) (v := .ref (g.2.1 2)) hx hb hts hX5_guess_X5 hown K U 0 4 (by decide) rfl rfl 1 (by decide) (hts (.fieldLink RX5 21 "TrialSearch" "trials" "LTrialSearch$Trials;") (by decide +kernel)) rfl rfl dX5_guess_43 ?_
        refine lv_iload_n hx hb dX5_guess_46 rfl (lv_at hl 1 rfl) ?_
        refine lv_iload_n hx hb dX5_guess_47 rfl (lv_at hl 2 rfl) ?_
        refine lv_iload_n hx hb dX5_guess_48 rfl (lv_at hl 3 rfl) ?_
        refine u_cl (u_rV (As := [.int a0, .int a1, .int a2]) (rest := [.ref (g.2.1 2)]) (C := RX4) S K U 2 3 (by decide) rfl rfl (c_X4_bestCandidate hw) (cwV 3 hts gX5_guess_X4_bestCandidate rfl rfl rfl (by decide +kernel) ⟨Nat.le_of_ble_eq_true rfl, Nat.le_of_ble_eq_true rfl⟩) rfl hl.1 rfl (Nat.le_of_ble_eq_true rfl) dX5_guess_49 ⟨Nat.zero_le _, Nat.zero_le _⟩) U (fun r_10 A_11 B_12 H locs U9 hw => ?_)
        obtain ⟨eB, hw⟩ := hw
        rw [eB] at U9
        have U := U9
        refine u_ci (u_rV (As := [.long r_10]) (rest := []) (C := RX4) S K U 2 3 (by decide) rfl rfl (c_X4_add hw) (cwV 1 hts gX5_guess_X4_add rfl rfl rfl (by decide +kernel) ⟨Nat.le_of_ble_eq_true rfl, Nat.le_of_ble_eq_true rfl⟩) rfl hl.1 rfl (Nat.le_of_ble_eq_true rfl) dX5_guess_52 ⟨Nat.zero_le _, Nat.zero_le _⟩) U (fun r_13 A_14 B_15 H locs U hw => ?_)
        refine lv_goto (tgt := 60) hx hb dX5_guess_55 (by decide) ?_
        exact u_iret hx hb hr hlocks U hw dX5_guess_60
    · have hw := hw.2 c_8
      refine lv_iconst (v := -1) hx hb dX5_guess_24 (by decide) ?_
      exact u_iret hx hb hr hlocks U hw dX5_guess_25
set_option maxHeartbeats 4000000 in
set_option maxRecDepth 100000 in
theorem c_X5_forecast {l : Launch} {g : uG} {a0 : Int64} {a1 : Int32} {a2 : Int32} {A : SA} {B : SB} {Q : Int64 → SA → Prop} (hw : wp_X5_forecast a0 a1 a2 A B Q) : ML l yX5_forecast wsX5_forecast rmX5_forecast g A B [.ref (g.2.1 0), .long a0, .int a1, .int a2] (fun r A1 B1 => B1 = B ∧ Q r A1 ) := by
  refine u_of (cc := cX5_forecast) (maxL := 11) (ret := (some .long)) (by decide) rfl (Nat.le_of_ble_eq_true rfl) ?_
  intro p e s m below meth c ls C K U hl
  obtain ⟨hx, hb, hml, hown, hts, hr, hlocks⟩ := id C
  have S : CallFix p m c cX5_forecast 11 s ([.ref (g.2.1 0), .long a0, .int a1, .int a2] : List Value).toArray wsX5_forecast RX5 := ⟨hx, hb, hml, hown, hts⟩
  have hl : lv_has ls 11 [(0, .ref (g.2.1 0)), (1, .long a0), (3, .int a1), (4, .int a2)] := hl
  refine lv_aload_n hx hb dX5_forecast_0 rfl (lv_at hl 0 rfl) ?_
  refine lv_lload_n hx hb dX5_forecast_1 rfl (lv_at hl 1 rfl) ?_
  refine u_ci (u_rV (As := [.long a0]) (rest := []) (C := RX5) S K U 0 4 (by decide) rfl rfl (c_X5_isPoint hw) (cwV 1 hts gX5_forecast_X5_isPoint rfl rfl rfl (by decide +kernel) ⟨Nat.le_of_ble_eq_true rfl, Nat.le_of_ble_eq_true rfl⟩) rfl hl.1 rfl (Nat.le_of_ble_eq_true rfl) dX5_forecast_2 ⟨Nat.zero_le _, Nat.zero_le _⟩) U (fun r_1 A_2 B_3 H locs U9 hw => ?_)
  obtain ⟨eA, eB, hw⟩ := hw
  rw [eA, eB] at U9
  have U := U9
  refine lv_if_eq (tgt := 31) hx hb dX5_forecast_5 (by decide) (fun c_4 => ?_) (fun c_4 => ?_)
  · have hw := hw.1 c_4
    refine lv_ldc2 (v := -1000000000000000001) hx hb hown (hts (.constantLong RX5 110 (-1000000000000000001)) (by decide +kernel)) dX5_forecast_31 ?_
    exact u_lret hx hb hr hlocks U ⟨rfl, hw⟩ dX5_forecast_34
  · have hw := hw.2 c_4
    refine lv_iload_n hx hb dX5_forecast_8 rfl (lv_at hl 2 rfl) ?_
    refine lv_i2l hx hb dX5_forecast_9 rfl ?_
    refine lv_lconst (v := 1) hx hb dX5_forecast_10 (by decide) ?_
    refine lv_ldc2 (v := 5) hx hb hown (hts (.constantLong RX5 104 (5)) (by decide +kernel)) dX5_forecast_11 ?_
    refine u_ci (u_rS (As := [.long a1.toInt64, .long (1 : Int64), .long (5 : Int64)]) (rest := []) S K U (c_X5_within hw) (va_cwS 3 hts gX5_forecast_X5_within rfl rfl rfl (by decide +kernel) ⟨Nat.le_of_ble_eq_true rfl, Nat.le_of_ble_eq_true rfl⟩) rfl hl.1 rfl (Nat.le_of_ble_eq_true rfl) dX5_forecast_14 ⟨Nat.zero_le _, Nat.zero_le _⟩) U (fun r_5 A_6 B_7 H locs U9 hw => ?_)
    obtain ⟨eA, eB, hw⟩ := hw
    rw [eA, eB] at U9
    have U := U9
    refine lv_if_eq (tgt := 31) hx hb dX5_forecast_17 (by decide) (fun c_8 => ?_) (fun c_8 => ?_)
    · have hw := hw.1 c_8
      refine lv_ldc2 (v := -1000000000000000001) hx hb hown (hts (.constantLong RX5 110 (-1000000000000000001)) (by decide +kernel)) dX5_forecast_31 ?_
      exact u_lret hx hb hr hlocks U ⟨rfl, hw⟩ dX5_forecast_34
    · have hw := hw.2 c_8
      refine lv_iload hx hb dX5_forecast_20 (lv_at hl 3 rfl) ?_
      refine lv_i2l hx hb dX5_forecast_22 rfl ?_
      refine lv_lconst (v := 0) hx hb dX5_forecast_23 (by decide) ?_
      refine lv_lconst (v := 1) hx hb dX5_forecast_24 (by decide) ?_
      refine u_ci (u_rS (As := [.long a2.toInt64, .long (0 : Int64), .long (1 : Int64)]) (rest := []) S K U (c_X5_within hw) (va_cwS 3 hts gX5_forecast_X5_within rfl rfl rfl (by decide +kernel) ⟨Nat.le_of_ble_eq_true rfl, Nat.le_of_ble_eq_true rfl⟩) rfl hl.1 rfl (Nat.le_of_ble_eq_true rfl) dX5_forecast_25 ⟨Nat.zero_le _, Nat.zero_le _⟩) U (fun r_9 A_10 B_11 H locs U9 hw => ?_)
      obtain ⟨eA, eB, hw⟩ := hw
      rw [eA, eB] at U9
      have U := U9
      refine lv_if_ne (tgt := 35) hx hb dX5_forecast_28 (by decide) (fun c_12 => ?_) (fun c_12 => ?_)
      · have hw := hw.1 c_12
        refine lv_aload_n hx hb dX5_forecast_35 rfl (lv_at hl 0 rfl) ?_
        refine u_get (C := RX5) (T := TX5) (N := 4) (v := .ref (g.2.1 2)) hx hb hts hX5_forecast_X5 hown K U 0 4 (by decide) rfl rfl 1 (by decide) (hts (.fieldLink RX5 21 "TrialSearch" "trials" "LTrialSearch$Trials;") (by decide +kernel)) rfl rfl dX5_forecast_36 ?_
        refine u_get (C := RX4) (T := TX4) (N := 12) (v := .int (A 2 1)) hx hb hts hX5_forecast_X4 hown K U 2 3 (by decide) rfl rfl 1 (by decide) (hts (.fieldLink RX5 112 "TrialSearch$Trials" "scored" "I") (by decide +kernel)) rfl rfl dX5_forecast_39 ?_
        refine lv_if_ne (tgt := 49) hx hb dX5_forecast_42 (by decide) (fun c_13 => ?_) (fun c_13 => ?_)
        · have hw := hw.1 c_13
          refine lv_aload_n hx hb dX5_forecast_49 rfl (lv_at hl 0 rfl) ?_
          refine u_get (C := RX5) (T := TX5) (N := 4) (v := .ref (g.2.1 2)) hx hb hts hX5_forecast_X5 hown K U 0 4 (by decide) rfl rfl 1 (by decide) (hts (.fieldLink RX5 21 "TrialSearch" "trials" "LTrialSearch$Trials;") (by decide +kernel)) rfl rfl dX5_forecast_50 ?_
          refine lv_lload_n hx hb dX5_forecast_53 rfl (lv_at hl 1 rfl) ?_
          refine lv_iload_n hx hb dX5_forecast_54 rfl (lv_at hl 2 rfl) ?_
          refine u_cl (u_rV (As := [.long a0, .int a1]) (rest := []) (C := RX4) S K U 2 3 (by decide) rfl rfl (c_X4_nearSum hw) (cwV 2 hts gX5_forecast_X4_nearSum rfl rfl rfl (by decide +kernel) ⟨Nat.le_of_ble_eq_true rfl, Nat.le_of_ble_eq_true rfl⟩) rfl hl.1 rfl (Nat.le_of_ble_eq_true rfl) dX5_forecast_55 ⟨Nat.zero_le _, Nat.zero_le _⟩) U (fun r_14 A_15 B_16 H locs U9 hw => ?_)
          obtain ⟨eB, hw⟩ := hw
          rw [eB] at U9
          have U := U9
          refine lv_lstore (lv' := [(5, .long r_14), (0, .ref (g.2.1 0)), (1, .long a0), (3, .int a1), (4, .int a2)]) hx hb dX5_forecast_58 hl (by decide) rfl (fun ls hl => ?_)
          refine lv_iload_n hx hb dX5_forecast_60 rfl (lv_at hl 3 rfl) ?_
          refine lv_aload_n hx hb dX5_forecast_61 rfl (lv_at hl 1 rfl) ?_
          refine u_get (C := RX5) (T := TX5) (N := 4) (v := .ref (g.2.1 2)) hx hb hts hX5_forecast_X5 hown K U 0 4 (by decide) rfl rfl 1 (by decide) (hts (.fieldLink RX5 21 "TrialSearch" "trials" "LTrialSearch$Trials;") (by decide +kernel)) rfl rfl dX5_forecast_62 ?_
          refine u_get (C := RX4) (T := TX4) (N := 12) (v := .int (A_15 2 1)) hx hb hts hX5_forecast_X4 hown K U 2 3 (by decide) rfl rfl 1 (by decide) (hts (.fieldLink RX5 112 "TrialSearch$Trials" "scored" "I") (by decide +kernel)) rfl rfl dX5_forecast_65 ?_
          refine va_mmin (rest := []) hx hb (hml.trans hl.1.symm) hown (hts (.methodLink RX5 121 Lib.Math.min.name) (by decide +kernel)) (hts (.static Lib.Math.min.name) (by decide +kernel)) (hts (.initialized "java/lang/Math") (by decide +kernel)) (hts (.code Lib.Math.min.name Lib.Math.min.code 2 (some .int)) (by decide +kernel)) (Nat.le_of_ble_eq_true rfl) (Nat.le_of_ble_eq_true rfl) (Nat.zero_le _) (Nat.zero_le _) dX5_forecast_68 ?_
          refine lv_i2l hx hb dX5_forecast_71 rfl ?_
          refine lv_topl (fun x_17 ex_17 => ?_)
          have hw := hw x_17 ex_17
          refine lv_lstore (lv' := [(7, .long x_17), (5, .long r_14), (0, .ref (g.2.1 0)), (1, .long a0), (3, .int a1), (4, .int a2)]) hx hb dX5_forecast_72 hl (by decide) rfl (fun ls hl => ?_)
          refine lv_lload hx hb dX5_forecast_74 (lv_at hl 1 rfl) ?_
          refine va_mabs_long (rest := []) hx hb (hml.trans hl.1.symm) hown (hts (.methodLink RX5 127 Lib.MathLoose.abs_long.x) (by decide +kernel)) (hts (.static Lib.MathLoose.abs_long.x) (by decide +kernel)) (hts (.initialized "java/lang/Math") (by decide +kernel)) (hts (.code Lib.MathLoose.abs_long.x Lib.MathLoose.abs_long.code 2 (some .long)) (by decide +kernel)) (Nat.le_of_ble_eq_true rfl) (Nat.le_of_ble_eq_true rfl) (Nat.zero_le _) (Nat.zero_le _) dX5_forecast_76 ?_
          refine lv_lload hx hb dX5_forecast_79 (lv_at hl 0 rfl) ?_
          refine u_cl (u_rS (As := [.long (if 0 < r_14 then r_14 else -r_14), .long x_17]) (rest := []) S K U (c_X5_commonDivisor hw) (va_cwS 2 hts gX5_forecast_X5_commonDivisor rfl rfl rfl (by decide +kernel) ⟨Nat.le_of_ble_eq_true rfl, Nat.le_of_ble_eq_true rfl⟩) rfl hl.1 rfl (Nat.le_of_ble_eq_true rfl) dX5_forecast_81 ⟨Nat.zero_le _, Nat.zero_le _⟩) U (fun r_18 A_19 B_20 H locs U9 hw => ?_)
          obtain ⟨eA, eB, hw⟩ := hw
          rw [eA, eB] at U9
          have U := U9
          refine lv_lstore (lv' := [(9, .long r_18), (7, .long x_17), (5, .long r_14), (0, .ref (g.2.1 0)), (1, .long a0), (3, .int a1), (4, .int a2)]) hx hb dX5_forecast_84 hl (by decide) rfl (fun ls hl => ?_)
          refine lv_iload hx hb dX5_forecast_86 (lv_at hl 6 rfl) ?_
          refine lv_if_ne (tgt := 96) hx hb dX5_forecast_88 (by decide) (fun c_21 => ?_) (fun c_21 => ?_)
          · have hw := hw.1 c_21
            refine lv_lload hx hb dX5_forecast_96 (lv_at hl 1 rfl) ?_
            refine lv_lload hx hb dX5_forecast_98 (lv_at hl 0 rfl) ?_
            refine u_cl (u_rS (As := [.long x_17, .long r_18]) (rest := []) S K U (c_X5_cut hw) (va_cwS 2 hts gX5_forecast_X5_cut rfl rfl rfl (by decide +kernel) ⟨Nat.le_of_ble_eq_true rfl, Nat.le_of_ble_eq_true rfl⟩) rfl hl.1 rfl (Nat.le_of_ble_eq_true rfl) dX5_forecast_100 ⟨Nat.zero_le _, Nat.zero_le _⟩) U (fun r_22 A_23 B_24 H locs U9 hw => ?_)
            obtain ⟨eA, eB, hw⟩ := hw
            rw [eA, eB] at U9
            have U := U9
            exact u_lret hx hb hr hlocks U ⟨rfl, hw⟩ dX5_forecast_103
          · have hw := hw.2 c_21
            refine lv_lload hx hb dX5_forecast_91 (lv_at hl 2 rfl) ?_
            refine lv_goto (tgt := 98) hx hb dX5_forecast_93 (by decide) ?_
            refine lv_lload hx hb dX5_forecast_98 (lv_at hl 0 rfl) ?_
            refine u_cl (u_rS (As := [.long r_14, .long r_18]) (rest := []) S K U (c_X5_cut hw) (va_cwS 2 hts gX5_forecast_X5_cut rfl rfl rfl (by decide +kernel) ⟨Nat.le_of_ble_eq_true rfl, Nat.le_of_ble_eq_true rfl⟩) rfl hl.1 rfl (Nat.le_of_ble_eq_true rfl) dX5_forecast_100 ⟨Nat.zero_le _, Nat.zero_le _⟩) U (fun r_25 A_26 B_27 H locs U9 hw => ?_)
            obtain ⟨eA, eB, hw⟩ := hw
            rw [eA, eB] at U9
            have U := U9
            exact u_lret hx hb hr hlocks U ⟨rfl, hw⟩ dX5_forecast_103
        · have hw := hw.2 c_13
          refine lv_ldc2 (v := -1000000000000000002) hx hb hown (hts (.constantLong RX5 115 (-1000000000000000002)) (by decide +kernel)) dX5_forecast_45 ?_
          exact u_lret hx hb hr hlocks U ⟨rfl, hw⟩ dX5_forecast_48
      · have hw := hw.2 c_12
        refine lv_ldc2 (v := -1000000000000000001) hx hb hown (hts (.constantLong RX5 110 (-1000000000000000001)) (by decide +kernel)) dX5_forecast_31 ?_
        exact u_lret hx hb hr hlocks U ⟨rfl, hw⟩ dX5_forecast_34
set_option maxHeartbeats 4000000 in
set_option maxRecDepth 100000 in
theorem c_X5_isTrial {l : Launch} {g : uG} {a0 : Int32} {A : SA} {B : SB} {Q : Int32 → Prop} (hw : wp_X5_isTrial a0 A B Q) : MI l yX5_isTrial wsX5_isTrial rmX5_isTrial g A B [.ref (g.2.1 0), .int a0] (fun r A1 B1 => A1 = A ∧ B1 = B ∧ Q r ) := by
  refine u_of (cc := cX5_isTrial) (maxL := 2) (ret := (some .boolean)) (by decide) rfl (Nat.le_of_ble_eq_true rfl) ?_
  intro p e s m below meth c ls C K U hl
  obtain ⟨hx, hb, hml, hown, hts, hr, hlocks⟩ := id C
  have S : CallFix p m c cX5_isTrial 2 s ([.ref (g.2.1 0), .int a0] : List Value).toArray wsX5_isTrial RX5 := ⟨hx, hb, hml, hown, hts⟩
  have hl : lv_has ls 2 [(0, .ref (g.2.1 0)), (1, .int a0)] := hl
  refine lv_iload_n hx hb dX5_isTrial_0 rfl (lv_at hl 1 rfl) ?_
  refine lv_i2l hx hb dX5_isTrial_1 rfl ?_
  refine lv_lconst (v := 0) hx hb dX5_isTrial_2 (by decide) ?_
  refine lv_aload_n hx hb dX5_isTrial_3 rfl (lv_at hl 0 rfl) ?_
  refine u_get (C := RX5) (T := TX5) (N := 4) (v := .ref (g.2.1 2)) hx hb hts hX5_isTrial_X5 hown K U 0 4 (by decide) rfl rfl 1 (by decide) (hts (.fieldLink RX5 21 "TrialSearch" "trials" "LTrialSearch$Trials;") (by decide +kernel)) rfl rfl dX5_isTrial_4 ?_
  refine u_get (C := RX4) (T := TX4) (N := 12) (v := .int (A 2 0)) hx hb hts hX5_isTrial_X4 hown K U 2 3 (by decide) rfl rfl 0 (by decide) (hts (.fieldLink RX5 53 "TrialSearch$Trials" "made" "I") (by decide +kernel)) rfl rfl dX5_isTrial_7 ?_
  refine lv_iconst (v := 1) hx hb dX5_isTrial_10 (by decide) ?_
  refine lv_isub hx hb dX5_isTrial_11 ?_
  refine lv_i2l hx hb dX5_isTrial_12 rfl ?_
  refine u_ci (u_rS (As := [.long a0.toInt64, .long (0 : Int64), .long ((A 2 0) - (1 : Int32)).toInt64]) (rest := []) S K U (c_X5_within hw) (va_cwS 3 hts gX5_isTrial_X5_within rfl rfl rfl (by decide +kernel) ⟨Nat.le_of_ble_eq_true rfl, Nat.le_of_ble_eq_true rfl⟩) rfl hl.1 rfl (Nat.le_of_ble_eq_true rfl) dX5_isTrial_13 ⟨Nat.zero_le _, Nat.zero_le _⟩) U (fun r_1 A_2 B_3 H locs U9 hw => ?_)
  obtain ⟨eA, eB, hw⟩ := hw
  rw [eA, eB] at U9
  have U := U9
  obtain ⟨hn_4, hw⟩ := hw
  exact u_zret hx hb hr hlocks U hn_4 ⟨rfl, rfl, hw⟩ dX5_isTrial_16
set_option maxHeartbeats 4000000 in
set_option maxRecDepth 100000 in
theorem c_X5_isMark {l : Launch} {g : uG} {a0 : Int32} {a1 : Int32} {A : SA} {B : SB} {Q : Int32 → Prop} (hw : wp_X5_isMark a0 a1 A B Q) : MI l yX5_isMark wsX5_isMark rmX5_isMark g A B [.int a0, .int a1] (fun r A1 B1 => A1 = A ∧ B1 = B ∧ Q r ) := by
  refine u_of (cc := cX5_isMark) (maxL := 2) (ret := (some .boolean)) (by decide) rfl (Nat.le_of_ble_eq_true rfl) ?_
  intro p e s m below meth c ls C K U hl
  obtain ⟨hx, hb, hml, hown, hts, hr, hlocks⟩ := id C
  have S : CallFix p m c cX5_isMark 2 s ([.int a0, .int a1] : List Value).toArray wsX5_isMark RX5 := ⟨hx, hb, hml, hown, hts⟩
  have hl : lv_has ls 2 [(0, .int a0), (1, .int a1)] := hl
  refine lv_iload_n hx hb dX5_isMark_0 rfl (lv_at hl 1 rfl) ?_
  refine lv_if_eq (tgt := 18) hx hb dX5_isMark_1 (by decide) (fun c_1 => ?_) (fun c_1 => ?_)
  · have hw := hw.1 c_1
    refine lv_iconst (v := 1) hx hb dX5_isMark_18 (by decide) ?_
    refine lv_goto (tgt := 23) hx hb dX5_isMark_19 (by decide) ?_
    exact u_zret hx hb hr hlocks U (by decide +kernel) ⟨rfl, rfl, hw⟩ dX5_isMark_23
  · have hw := hw.2 c_1
    refine lv_iload_n hx hb dX5_isMark_4 rfl (lv_at hl 0 rfl) ?_
    refine lv_i2l hx hb dX5_isMark_5 rfl ?_
    refine lv_ldc2 (v := -1000000) hx hb hown (hts (.constantLong RX5 264 (-1000000)) (by decide +kernel)) dX5_isMark_6 ?_
    refine lv_ldc2 (v := 1000000) hx hb hown (hts (.constantLong RX5 183 (1000000)) (by decide +kernel)) dX5_isMark_9 ?_
    refine u_ci (u_rS (As := [.long a0.toInt64, .long (-1000000 : Int64), .long (1000000 : Int64)]) (rest := []) S K U (c_X5_within hw) (va_cwS 3 hts gX5_isMark_X5_within rfl rfl rfl (by decide +kernel) ⟨Nat.le_of_ble_eq_true rfl, Nat.le_of_ble_eq_true rfl⟩) rfl hl.1 rfl (Nat.le_of_ble_eq_true rfl) dX5_isMark_12 ⟨Nat.zero_le _, Nat.zero_le _⟩) U (fun r_2 A_3 B_4 H locs U9 hw => ?_)
    obtain ⟨eA, eB, hw⟩ := hw
    rw [eA, eB] at U9
    have U := U9
    refine lv_if_eq (tgt := 22) hx hb dX5_isMark_15 (by decide) (fun c_5 => ?_) (fun c_5 => ?_)
    · have hw := hw.1 c_5
      refine lv_iconst (v := 0) hx hb dX5_isMark_22 (by decide) ?_
      exact u_zret hx hb hr hlocks U (by decide +kernel) ⟨rfl, rfl, hw⟩ dX5_isMark_23
    · have hw := hw.2 c_5
      refine lv_iconst (v := 1) hx hb dX5_isMark_18 (by decide) ?_
      refine lv_goto (tgt := 23) hx hb dX5_isMark_19 (by decide) ?_
      exact u_zret hx hb hr hlocks U (by decide +kernel) ⟨rfl, rfl, hw⟩ dX5_isMark_23
set_option maxHeartbeats 4000000 in
set_option maxRecDepth 100000 in
theorem c_X5_score {l : Launch} {g : uG} {a0 : Int32} {a1 : Int32} {a2 : Int32} {A : SA} {B : SB} {Q : Int32 → SA → Prop} (hw : wp_X5_score a0 a1 a2 A B Q) : MI l yX5_score wsX5_score rmX5_score g A B [.ref (g.2.1 0), .int a0, .int a1, .int a2] (fun r A1 B1 => B1 = B ∧ Q r A1 ) := by
  refine u_of (cc := cX5_score) (maxL := 4) (ret := (some .int)) (by decide) rfl (Nat.le_of_ble_eq_true rfl) ?_
  intro p e s m below meth c ls C K U hl
  obtain ⟨hx, hb, hml, hown, hts, hr, hlocks⟩ := id C
  have S : CallFix p m c cX5_score 4 s ([.ref (g.2.1 0), .int a0, .int a1, .int a2] : List Value).toArray wsX5_score RX5 := ⟨hx, hb, hml, hown, hts⟩
  have hl : lv_has ls 4 [(0, .ref (g.2.1 0)), (1, .int a0), (2, .int a1), (3, .int a2)] := hl
  refine lv_aload_n hx hb dX5_score_0 rfl (lv_at hl 0 rfl) ?_
  refine lv_iload_n hx hb dX5_score_1 rfl (lv_at hl 1 rfl) ?_
  refine u_ci (u_rV (As := [.int a0]) (rest := []) (C := RX5) S K U 0 4 (by decide) rfl rfl (c_X5_isTrial hw) (cwV 1 hts gX5_score_X5_isTrial rfl rfl rfl (by decide +kernel) ⟨Nat.le_of_ble_eq_true rfl, Nat.le_of_ble_eq_true rfl⟩) rfl hl.1 rfl (Nat.le_of_ble_eq_true rfl) dX5_score_2 ⟨Nat.zero_le _, Nat.zero_le _⟩) U (fun r_1 A_2 B_3 H locs U9 hw => ?_)
  obtain ⟨eA, eB, hw⟩ := hw
  rw [eA, eB] at U9
  have U := U9
  refine lv_if_eq (tgt := 16) hx hb dX5_score_5 (by decide) (fun c_4 => ?_) (fun c_4 => ?_)
  · have hw := hw.1 c_4
    refine lv_iconst (v := -1) hx hb dX5_score_16 (by decide) ?_
    exact u_iret hx hb hr hlocks U ⟨rfl, hw⟩ dX5_score_17
  · have hw := hw.2 c_4
    refine lv_iload_n hx hb dX5_score_8 rfl (lv_at hl 2 rfl) ?_
    refine lv_iload_n hx hb dX5_score_9 rfl (lv_at hl 3 rfl) ?_
    refine u_ci (u_rS (As := [.int a1, .int a2]) (rest := []) S K U (c_X5_isMark hw) (va_cwS 2 hts gX5_score_X5_isMark rfl rfl rfl (by decide +kernel) ⟨Nat.le_of_ble_eq_true rfl, Nat.le_of_ble_eq_true rfl⟩) rfl hl.1 rfl (Nat.le_of_ble_eq_true rfl) dX5_score_10 ⟨Nat.zero_le _, Nat.zero_le _⟩) U (fun r_5 A_6 B_7 H locs U9 hw => ?_)
    obtain ⟨eA, eB, hw⟩ := hw
    rw [eA, eB] at U9
    have U := U9
    refine lv_if_ne (tgt := 18) hx hb dX5_score_13 (by decide) (fun c_8 => ?_) (fun c_8 => ?_)
    · have hw := hw.1 c_8
      refine lv_aload_n hx hb dX5_score_18 rfl (lv_at hl 0 rfl) ?_
      refine u_get (C := RX5) (T := TX5) (N := 4) (v := .ref (g.2.1 2)) hx hb hts hX5_score_X5 hown K U 0 4 (by decide) rfl rfl 1 (by decide) (hts (.fieldLink RX5 21 "TrialSearch" "trials" "LTrialSearch$Trials;") (by decide +kernel)) rfl rfl dX5_score_19 ?_
      refine u_get (C := RX4) (T := TX4) (N := 12) (v := .ref (g.2.1 14)) hx hb hts hX5_score_X4 hown K U 2 3 (by decide) rfl rfl 3 (by decide) (hts (.fieldLink RX5 146 "TrialSearch$Trials" "states" "[I") (by decide +kernel)) rfl rfl dX5_score_22 ?_
      refine lv_iload_n hx hb dX5_score_25 rfl (lv_at hl 1 rfl) ?_
      obtain ⟨hi_9, hw⟩ := hw
      refine u_iald (k := 14) (v := (A 14 a0.toNatClampNeg)) hx hb K U rfl (by decide) rfl hi_9 rfl dX5_score_26 ?_
      refine lv_if_ne (tgt := 43) hx hb dX5_score_27 (by decide) (fun c_10 => ?_) (fun c_10 => ?_)
      · have hw := hw.1 c_10
        refine lv_bipush (v := -3) hx hb dX5_score_43 (by decide) ?_
        exact u_iret hx hb hr hlocks U ⟨rfl, hw⟩ dX5_score_45
      · have hw := hw.2 c_10
        refine lv_aload_n hx hb dX5_score_30 rfl (lv_at hl 0 rfl) ?_
        refine u_get (C := RX5) (T := TX5) (N := 4) (v := .ref (g.2.1 2)) hx hb hts hX5_score_X5 hown K U 0 4 (by decide) rfl rfl 1 (by decide) (hts (.fieldLink RX5 21 "TrialSearch" "trials" "LTrialSearch$Trials;") (by decide +kernel)) rfl rfl dX5_score_31 ?_
        refine lv_iload_n hx hb dX5_score_34 rfl (lv_at hl 1 rfl) ?_
        refine lv_iload_n hx hb dX5_score_35 rfl (lv_at hl 2 rfl) ?_
        refine lv_iload_n hx hb dX5_score_36 rfl (lv_at hl 3 rfl) ?_
        refine u_ci (u_rV (As := [.int a0, .int a1, .int a2]) (rest := []) (C := RX4) S K U 2 3 (by decide) rfl rfl (c_X4_close hw) (cwV 3 hts gX5_score_X4_close rfl rfl rfl (by decide +kernel) ⟨Nat.le_of_ble_eq_true rfl, Nat.le_of_ble_eq_true rfl⟩) rfl hl.1 rfl (Nat.le_of_ble_eq_true rfl) dX5_score_37 ⟨Nat.zero_le _, Nat.zero_le _⟩) U (fun r_11 A_12 B_13 H locs U9 hw => ?_)
        obtain ⟨eB, hw⟩ := hw
        rw [eB] at U9
        have U := U9
        refine lv_goto (tgt := 45) hx hb dX5_score_40 (by decide) ?_
        exact u_iret hx hb hr hlocks U ⟨rfl, hw⟩ dX5_score_45
    · have hw := hw.2 c_8
      refine lv_iconst (v := -1) hx hb dX5_score_16 (by decide) ?_
      exact u_iret hx hb hr hlocks U ⟨rfl, hw⟩ dX5_score_17
set_option maxHeartbeats 4000000 in
set_option maxRecDepth 100000 in
theorem c_X5_report {l : Launch} {g : uG} {a0 : Int32} {a1 : Int32} {a2 : Int32} {A : SA} {B : SB} {Q : Int32 → SA → Prop} (hw : wp_X5_report a0 a1 a2 A B Q) : MI l yX5_report wsX5_report rmX5_report g A B [.ref (g.2.1 0), .int a0, .int a1, .int a2] (fun r A1 B1 => B1 = B ∧ Q r A1 ) := by
  refine u_of (cc := cX5_report) (maxL := 4) (ret := (some .int)) (by decide) rfl (Nat.le_of_ble_eq_true rfl) ?_
  intro p e s m below meth c ls C K U hl
  obtain ⟨hx, hb, hml, hown, hts, hr, hlocks⟩ := id C
  have S : CallFix p m c cX5_report 4 s ([.ref (g.2.1 0), .int a0, .int a1, .int a2] : List Value).toArray wsX5_report RX5 := ⟨hx, hb, hml, hown, hts⟩
  have hl : lv_has ls 4 [(0, .ref (g.2.1 0)), (1, .int a0), (2, .int a1), (3, .int a2)] := hl
  refine lv_aload_n hx hb dX5_report_0 rfl (lv_at hl 0 rfl) ?_
  refine lv_iload_n hx hb dX5_report_1 rfl (lv_at hl 1 rfl) ?_
  refine u_ci (u_rV (As := [.int a0]) (rest := []) (C := RX5) S K U 0 4 (by decide) rfl rfl (c_X5_isTrial hw) (cwV 1 hts gX5_report_X5_isTrial rfl rfl rfl (by decide +kernel) ⟨Nat.le_of_ble_eq_true rfl, Nat.le_of_ble_eq_true rfl⟩) rfl hl.1 rfl (Nat.le_of_ble_eq_true rfl) dX5_report_2 ⟨Nat.zero_le _, Nat.zero_le _⟩) U (fun r_1 A_2 B_3 H locs U9 hw => ?_)
  obtain ⟨eA, eB, hw⟩ := hw
  rw [eA, eB] at U9
  have U := U9
  refine lv_if_eq (tgt := 28) hx hb dX5_report_5 (by decide) (fun c_4 => ?_) (fun c_4 => ?_)
  · have hw := hw.1 c_4
    refine lv_iconst (v := -1) hx hb dX5_report_28 (by decide) ?_
    exact u_iret hx hb hr hlocks U ⟨rfl, hw⟩ dX5_report_29
  · have hw := hw.2 c_4
    refine lv_iload_n hx hb dX5_report_8 rfl (lv_at hl 2 rfl) ?_
    refine lv_iconst (v := 1) hx hb dX5_report_9 (by decide) ?_
    refine u_ci (u_rS (As := [.int a1, .int (1 : Int32)]) (rest := []) S K U (c_X5_isMark hw) (va_cwS 2 hts gX5_report_X5_isMark rfl rfl rfl (by decide +kernel) ⟨Nat.le_of_ble_eq_true rfl, Nat.le_of_ble_eq_true rfl⟩) rfl hl.1 rfl (Nat.le_of_ble_eq_true rfl) dX5_report_10 ⟨Nat.zero_le _, Nat.zero_le _⟩) U (fun r_5 A_6 B_7 H locs U9 hw => ?_)
    obtain ⟨eA, eB, hw⟩ := hw
    rw [eA, eB] at U9
    have U := U9
    refine lv_if_eq (tgt := 28) hx hb dX5_report_13 (by decide) (fun c_8 => ?_) (fun c_8 => ?_)
    · have hw := hw.1 c_8
      refine lv_iconst (v := -1) hx hb dX5_report_28 (by decide) ?_
      exact u_iret hx hb hr hlocks U ⟨rfl, hw⟩ dX5_report_29
    · have hw := hw.2 c_8
      refine lv_iload_n hx hb dX5_report_16 rfl (lv_at hl 3 rfl) ?_
      refine lv_i2l hx hb dX5_report_17 rfl ?_
      refine lv_lconst (v := 0) hx hb dX5_report_18 (by decide) ?_
      refine lv_ldc2 (v := 60) hx hb hown (hts (.constantLong RX5 153 (60)) (by decide +kernel)) dX5_report_19 ?_
      refine u_ci (u_rS (As := [.long a2.toInt64, .long (0 : Int64), .long (60 : Int64)]) (rest := []) S K U (c_X5_within hw) (va_cwS 3 hts gX5_report_X5_within rfl rfl rfl (by decide +kernel) ⟨Nat.le_of_ble_eq_true rfl, Nat.le_of_ble_eq_true rfl⟩) rfl hl.1 rfl (Nat.le_of_ble_eq_true rfl) dX5_report_22 ⟨Nat.zero_le _, Nat.zero_le _⟩) U (fun r_9 A_10 B_11 H locs U9 hw => ?_)
      obtain ⟨eA, eB, hw⟩ := hw
      rw [eA, eB] at U9
      have U := U9
      refine lv_if_ne (tgt := 30) hx hb dX5_report_25 (by decide) (fun c_12 => ?_) (fun c_12 => ?_)
      · have hw := hw.1 c_12
        refine lv_aload_n hx hb dX5_report_30 rfl (lv_at hl 0 rfl) ?_
        refine u_get (C := RX5) (T := TX5) (N := 4) (v := .ref (g.2.1 2)) hx hb hts hX5_report_X5 hown K U 0 4 (by decide) rfl rfl 1 (by decide) (hts (.fieldLink RX5 21 "TrialSearch" "trials" "LTrialSearch$Trials;") (by decide +kernel)) rfl rfl dX5_report_31 ?_
        refine u_get (C := RX4) (T := TX4) (N := 12) (v := .ref (g.2.1 14)) hx hb hts hX5_report_X4 hown K U 2 3 (by decide) rfl rfl 3 (by decide) (hts (.fieldLink RX5 146 "TrialSearch$Trials" "states" "[I") (by decide +kernel)) rfl rfl dX5_report_34 ?_
        refine lv_iload_n hx hb dX5_report_37 rfl (lv_at hl 1 rfl) ?_
        obtain ⟨hi_13, hw⟩ := hw
        refine u_iald (k := 14) (v := (A 14 a0.toNatClampNeg)) hx hb K U rfl (by decide) rfl hi_13 rfl dX5_report_38 ?_
        refine lv_if_eq (tgt := 45) hx hb dX5_report_39 (by decide) (fun c_14 => ?_) (fun c_14 => ?_)
        · have hw := hw.1 c_14
          refine lv_aload_n hx hb dX5_report_45 rfl (lv_at hl 0 rfl) ?_
          refine u_get (C := RX5) (T := TX5) (N := 4) (v := .ref (g.2.1 2)) hx hb hts hX5_report_X5 hown K U 0 4 (by decide) rfl rfl 1 (by decide) (hts (.fieldLink RX5 21 "TrialSearch" "trials" "LTrialSearch$Trials;") (by decide +kernel)) rfl rfl dX5_report_46 ?_
          refine u_get (C := RX4) (T := TX4) (N := 12) (v := .ref (g.2.1 16)) hx hb hts hX5_report_X4 hown K U 2 3 (by decide) rfl rfl 5 (by decide) (hts (.fieldLink RX5 155 "TrialSearch$Trials" "steps" "[I") (by decide +kernel)) rfl rfl dX5_report_49 ?_
          refine lv_iload_n hx hb dX5_report_52 rfl (lv_at hl 1 rfl) ?_
          obtain ⟨hi_15, hw⟩ := hw
          refine u_iald (k := 16) (v := (A 16 a0.toNatClampNeg)) hx hb K U rfl (by decide) rfl hi_15 rfl dX5_report_53 ?_
          refine lv_bipush (v := 20) hx hb dX5_report_54 (by decide) ?_
          refine lv_icmp_ge (tgt := 72) hx hb dX5_report_56 (by decide) (fun c_16 => ?_) (fun c_16 => ?_)
          · have hw := hw.1 c_16
            refine lv_bipush (v := -4) hx hb dX5_report_72 (by decide) ?_
            exact u_iret hx hb hr hlocks U ⟨rfl, hw⟩ dX5_report_74
          · have hw := hw.2 c_16
            refine lv_aload_n hx hb dX5_report_59 rfl (lv_at hl 0 rfl) ?_
            refine u_get (C := RX5) (T := TX5) (N := 4) (v := .ref (g.2.1 2)) hx hb hts hX5_report_X5 hown K U 0 4 (by decide) rfl rfl 1 (by decide) (hts (.fieldLink RX5 21 "TrialSearch" "trials" "LTrialSearch$Trials;") (by decide +kernel)) rfl rfl dX5_report_60 ?_
            refine lv_iload_n hx hb dX5_report_63 rfl (lv_at hl 1 rfl) ?_
            refine lv_iload_n hx hb dX5_report_64 rfl (lv_at hl 2 rfl) ?_
            refine lv_iload_n hx hb dX5_report_65 rfl (lv_at hl 3 rfl) ?_
            refine u_ci (u_rV (As := [.int a0, .int a1, .int a2]) (rest := []) (C := RX4) S K U 2 3 (by decide) rfl rfl (c_X4_addReport hw) (cwV 3 hts gX5_report_X4_addReport rfl rfl rfl (by decide +kernel) ⟨Nat.le_of_ble_eq_true rfl, Nat.le_of_ble_eq_true rfl⟩) rfl hl.1 rfl (Nat.le_of_ble_eq_true rfl) dX5_report_66 ⟨Nat.zero_le _, Nat.zero_le _⟩) U (fun r_17 A_18 B_19 H locs U9 hw => ?_)
            obtain ⟨eB, hw⟩ := hw
            rw [eB] at U9
            have U := U9
            refine lv_goto (tgt := 74) hx hb dX5_report_69 (by decide) ?_
            exact u_iret hx hb hr hlocks U ⟨rfl, hw⟩ dX5_report_74
        · have hw := hw.2 c_14
          refine lv_bipush (v := -3) hx hb dX5_report_42 (by decide) ?_
          exact u_iret hx hb hr hlocks U ⟨rfl, hw⟩ dX5_report_44
      · have hw := hw.2 c_12
        refine lv_iconst (v := -1) hx hb dX5_report_28 (by decide) ?_
        exact u_iret hx hb hr hlocks U ⟨rfl, hw⟩ dX5_report_29
set_option maxHeartbeats 4000000 in
set_option maxRecDepth 100000 in
theorem c_X5_told {l : Launch} {g : uG} {a0 : Int32} {a1 : Int32} {A : SA} {B : SB} {Q : Int32 → Prop} (hw : wp_X5_told a0 a1 A B Q) : MI l yX5_told wsX5_told rmX5_told g A B [.ref (g.2.1 0), .int a0, .int a1] (fun r A1 B1 => A1 = A ∧ B1 = B ∧ Q r ) := by
  refine u_of (cc := cX5_told) (maxL := 3) (ret := (some .int)) (by decide) rfl (Nat.le_of_ble_eq_true rfl) ?_
  intro p e s m below meth c ls C K U hl
  obtain ⟨hx, hb, hml, hown, hts, hr, hlocks⟩ := id C
  have S : CallFix p m c cX5_told 3 s ([.ref (g.2.1 0), .int a0, .int a1] : List Value).toArray wsX5_told RX5 := ⟨hx, hb, hml, hown, hts⟩
  have hl : lv_has ls 3 [(0, .ref (g.2.1 0)), (1, .int a0), (2, .int a1)] := hl
  refine lv_aload_n hx hb dX5_told_0 rfl (lv_at hl 0 rfl) ?_
  refine lv_iload_n hx hb dX5_told_1 rfl (lv_at hl 1 rfl) ?_
  refine u_ci (u_rV (As := [.int a0]) (rest := []) (C := RX5) S K U 0 4 (by decide) rfl rfl (c_X5_isTrial hw) (cwV 1 hts gX5_told_X5_isTrial rfl rfl rfl (by decide +kernel) ⟨Nat.le_of_ble_eq_true rfl, Nat.le_of_ble_eq_true rfl⟩) rfl hl.1 rfl (Nat.le_of_ble_eq_true rfl) dX5_told_2 ⟨Nat.zero_le _, Nat.zero_le _⟩) U (fun r_1 A_2 B_3 H locs U9 hw => ?_)
  obtain ⟨eA, eB, hw⟩ := hw
  rw [eA, eB] at U9
  have U := U9
  refine lv_if_ne (tgt := 10) hx hb dX5_told_5 (by decide) (fun c_4 => ?_) (fun c_4 => ?_)
  · have hw := hw.1 c_4
    refine lv_iload_n hx hb dX5_told_10 rfl (lv_at hl 2 rfl) ?_
    by_cases h_5 : a1 = 0
    · have hw := hw.1 h_5
      refine lv_tableIn (off := 33) (tgt := 44) hx hb dX5_told_11 (by rw [h_5]; decide) (by rw [h_5]; decide) (by rw [h_5]; rfl) (by decide) ?_
      refine lv_aload_n hx hb dX5_told_44 rfl (lv_at hl 0 rfl) ?_
      refine u_get (C := RX5) (T := TX5) (N := 4) (v := .ref (g.2.1 2)) hx hb hts hX5_told_X5 hown K U 0 4 (by decide) rfl rfl 1 (by decide) (hts (.fieldLink RX5 21 "TrialSearch" "trials" "LTrialSearch$Trials;") (by decide +kernel)) rfl rfl dX5_told_45 ?_
      refine u_get (C := RX4) (T := TX4) (N := 12) (v := .ref (g.2.1 14)) hx hb hts hX5_told_X4 hown K U 2 3 (by decide) rfl rfl 3 (by decide) (hts (.fieldLink RX5 146 "TrialSearch$Trials" "states" "[I") (by decide +kernel)) rfl rfl dX5_told_48 ?_
      refine lv_iload_n hx hb dX5_told_51 rfl (lv_at hl 1 rfl) ?_
      obtain ⟨hi_6, hw⟩ := hw
      refine u_iald (k := 14) (v := (A 14 a0.toNatClampNeg)) hx hb K U rfl (by decide) rfl hi_6 rfl dX5_told_52 ?_
      exact u_iret hx hb hr hlocks U ⟨rfl, rfl, hw⟩ dX5_told_53
    · have hw := hw.2 h_5
      by_cases h_7 : a1 = 1
      · have hw := hw.1 h_7
        refine lv_tableIn (off := 43) (tgt := 54) hx hb dX5_told_11 (by rw [h_7]; decide) (by rw [h_7]; decide) (by rw [h_7]; rfl) (by decide) ?_
        refine lv_aload_n hx hb dX5_told_54 rfl (lv_at hl 0 rfl) ?_
        refine u_get (C := RX5) (T := TX5) (N := 4) (v := .ref (g.2.1 2)) hx hb hts hX5_told_X5 hown K U 0 4 (by decide) rfl rfl 1 (by decide) (hts (.fieldLink RX5 21 "TrialSearch" "trials" "LTrialSearch$Trials;") (by decide +kernel)) rfl rfl dX5_told_55 ?_
        refine u_get (C := RX4) (T := TX4) (N := 12) (v := .ref (g.2.1 15)) hx hb hts hX5_told_X4 hown K U 2 3 (by decide) rfl rfl 4 (by decide) (hts (.fieldLink RX5 161 "TrialSearch$Trials" "scores" "[I") (by decide +kernel)) rfl rfl dX5_told_58 ?_
        refine lv_iload_n hx hb dX5_told_61 rfl (lv_at hl 1 rfl) ?_
        obtain ⟨hi_8, hw⟩ := hw
        refine u_iald (k := 15) (v := (A 15 a0.toNatClampNeg)) hx hb K U rfl (by decide) rfl hi_8 rfl dX5_told_62 ?_
        exact u_iret hx hb hr hlocks U ⟨rfl, rfl, hw⟩ dX5_told_63
      · have hw := hw.2 h_7
        by_cases h_9 : a1 = 2
        · have hw := hw.1 h_9
          refine lv_tableIn (off := 53) (tgt := 64) hx hb dX5_told_11 (by rw [h_9]; decide) (by rw [h_9]; decide) (by rw [h_9]; rfl) (by decide) ?_
          refine lv_aload_n hx hb dX5_told_64 rfl (lv_at hl 0 rfl) ?_
          refine u_get (C := RX5) (T := TX5) (N := 4) (v := .ref (g.2.1 2)) hx hb hts hX5_told_X5 hown K U 0 4 (by decide) rfl rfl 1 (by decide) (hts (.fieldLink RX5 21 "TrialSearch" "trials" "LTrialSearch$Trials;") (by decide +kernel)) rfl rfl dX5_told_65 ?_
          refine u_get (C := RX4) (T := TX4) (N := 12) (v := .ref (g.2.1 16)) hx hb hts hX5_told_X4 hown K U 2 3 (by decide) rfl rfl 5 (by decide) (hts (.fieldLink RX5 155 "TrialSearch$Trials" "steps" "[I") (by decide +kernel)) rfl rfl dX5_told_68 ?_
          refine lv_iload_n hx hb dX5_told_71 rfl (lv_at hl 1 rfl) ?_
          obtain ⟨hi_10, hw⟩ := hw
          refine u_iald (k := 16) (v := (A 16 a0.toNatClampNeg)) hx hb K U rfl (by decide) rfl hi_10 rfl dX5_told_72 ?_
          exact u_iret hx hb hr hlocks U ⟨rfl, rfl, hw⟩ dX5_told_73
        · have hw := hw.2 h_9
          by_cases h_11 : a1 = 3
          · have hw := hw.1 h_11
            refine lv_tableIn (off := 63) (tgt := 74) hx hb dX5_told_11 (by rw [h_11]; decide) (by rw [h_11]; decide) (by rw [h_11]; rfl) (by decide) ?_
            refine lv_aload_n hx hb dX5_told_74 rfl (lv_at hl 0 rfl) ?_
            refine u_get (C := RX5) (T := TX5) (N := 4) (v := .ref (g.2.1 3)) hx hb hts hX5_told_X5 hown K U 0 4 (by decide) rfl rfl 2 (by decide) (hts (.fieldLink RX5 28 "TrialSearch" "rounds" "LTrialSearch$Rounds;") (by decide +kernel)) rfl rfl dX5_told_75 ?_
            refine u_get (C := RX1) (T := TX1) (N := 10) (v := .ref (g.2.1 22)) hx hb hts hX5_told_X1 hown K U 3 1 (by decide) rfl rfl 2 (by decide) (hts (.fieldLink RX5 164 "TrialSearch$Rounds" "marks" "[I") (by decide +kernel)) rfl rfl dX5_told_78 ?_
            refine lv_iload_n hx hb dX5_told_81 rfl (lv_at hl 1 rfl) ?_
            obtain ⟨hi_12, hw⟩ := hw
            refine u_iald (k := 22) (v := (A 22 a0.toNatClampNeg)) hx hb K U rfl (by decide) rfl hi_12 rfl dX5_told_82 ?_
            exact u_iret hx hb hr hlocks U ⟨rfl, rfl, hw⟩ dX5_told_83
          · have hw := hw.2 h_11
            by_cases h_13 : a1 = 4
            · have hw := hw.1 h_13
              refine lv_tableIn (off := 73) (tgt := 84) hx hb dX5_told_11 (by rw [h_13]; decide) (by rw [h_13]; decide) (by rw [h_13]; rfl) (by decide) ?_
              refine lv_aload_n hx hb dX5_told_84 rfl (lv_at hl 0 rfl) ?_
              refine u_get (C := RX5) (T := TX5) (N := 4) (v := .ref (g.2.1 3)) hx hb hts hX5_told_X5 hown K U 0 4 (by decide) rfl rfl 2 (by decide) (hts (.fieldLink RX5 28 "TrialSearch" "rounds" "LTrialSearch$Rounds;") (by decide +kernel)) rfl rfl dX5_told_85 ?_
              refine lv_iload_n hx hb dX5_told_88 rfl (lv_at hl 1 rfl) ?_
              refine u_ci (u_rV (As := [.int a0]) (rest := []) (C := RX1) S K U 3 1 (by decide) rfl rfl (c_X1_isIn hw) (cwV 1 hts gX5_told_X1_isIn rfl rfl rfl (by decide +kernel) ⟨Nat.le_of_ble_eq_true rfl, Nat.le_of_ble_eq_true rfl⟩) rfl hl.1 rfl (Nat.le_of_ble_eq_true rfl) dX5_told_89 ⟨Nat.zero_le _, Nat.zero_le _⟩) U (fun r_14 A_15 B_16 H locs U9 hw => ?_)
              obtain ⟨eA, eB, hw⟩ := hw
              rw [eA, eB] at U9
              have U := U9
              refine lv_if_eq (tgt := 99) hx hb dX5_told_92 (by decide) (fun c_17 => ?_) (fun c_17 => ?_)
              · have hw := hw.1 c_17
                refine lv_iconst (v := 0) hx hb dX5_told_99 (by decide) ?_
                exact u_iret hx hb hr hlocks U ⟨rfl, rfl, hw⟩ dX5_told_100
              · have hw := hw.2 c_17
                refine lv_iconst (v := 1) hx hb dX5_told_95 (by decide) ?_
                refine lv_goto (tgt := 100) hx hb dX5_told_96 (by decide) ?_
                exact u_iret hx hb hr hlocks U ⟨rfl, rfl, hw⟩ dX5_told_100
            · have hw := hw.2 h_13
              have nh_5 := lv_neT (a := 0) h_5 (by decide)
              have nh_7 := lv_neT (a := 1) h_7 (by decide)
              have nh_9 := lv_neT (a := 2) h_9 (by decide)
              have nh_11 := lv_neT (a := 3) h_11 (by decide)
              have nh_13 := lv_neT (a := 4) h_13 (by decide)
              refine lv_tableOut (tgt := 101) hx hb dX5_told_11 (by omega) (by decide) ?_
              refine lv_iconst (v := -1) hx hb dX5_told_101 (by decide) ?_
              exact u_iret hx hb hr hlocks U ⟨rfl, rfl, hw⟩ dX5_told_102
  · have hw := hw.2 c_4
    refine lv_iconst (v := -1) hx hb dX5_told_8 (by decide) ?_
    exact u_iret hx hb hr hlocks U ⟨rfl, rfl, hw⟩ dX5_told_9
set_option maxHeartbeats 4000000 in
set_option maxRecDepth 100000 in
theorem c_X5_point {l : Launch} {g : uG} {a0 : Int32} {A : SA} {B : SB} {Q : Int64 → Prop} (hw : wp_X5_point a0 A B Q) : ML l yX5_point wsX5_point rmX5_point g A B [.ref (g.2.1 0), .int a0] (fun r A1 B1 => A1 = A ∧ B1 = B ∧ Q r ) := by
  refine u_of (cc := cX5_point) (maxL := 2) (ret := (some .long)) (by decide) rfl (Nat.le_of_ble_eq_true rfl) ?_
  intro p e s m below meth c ls C K U hl
  obtain ⟨hx, hb, hml, hown, hts, hr, hlocks⟩ := id C
  have S : CallFix p m c cX5_point 2 s ([.ref (g.2.1 0), .int a0] : List Value).toArray wsX5_point RX5 := ⟨hx, hb, hml, hown, hts⟩
  have hl : lv_has ls 2 [(0, .ref (g.2.1 0)), (1, .int a0)] := hl
  refine lv_aload_n hx hb dX5_point_0 rfl (lv_at hl 0 rfl) ?_
  refine lv_iload_n hx hb dX5_point_1 rfl (lv_at hl 1 rfl) ?_
  refine u_ci (u_rV (As := [.int a0]) (rest := []) (C := RX5) S K U 0 4 (by decide) rfl rfl (c_X5_isTrial hw) (cwV 1 hts gX5_point_X5_isTrial rfl rfl rfl (by decide +kernel) ⟨Nat.le_of_ble_eq_true rfl, Nat.le_of_ble_eq_true rfl⟩) rfl hl.1 rfl (Nat.le_of_ble_eq_true rfl) dX5_point_2 ⟨Nat.zero_le _, Nat.zero_le _⟩) U (fun r_1 A_2 B_3 H locs U9 hw => ?_)
  obtain ⟨eA, eB, hw⟩ := hw
  rw [eA, eB] at U9
  have U := U9
  refine lv_if_eq (tgt := 20) hx hb dX5_point_5 (by decide) (fun c_4 => ?_) (fun c_4 => ?_)
  · have hw := hw.1 c_4
    refine lv_ldc2 (v := -1) hx hb hown (hts (.constantLong RX5 45 (-1)) (by decide +kernel)) dX5_point_20 ?_
    exact u_lret hx hb hr hlocks U ⟨rfl, rfl, hw⟩ dX5_point_23
  · have hw := hw.2 c_4
    refine lv_aload_n hx hb dX5_point_8 rfl (lv_at hl 0 rfl) ?_
    refine u_get (C := RX5) (T := TX5) (N := 4) (v := .ref (g.2.1 2)) hx hb hts hX5_point_X5 hown K U 0 4 (by decide) rfl rfl 1 (by decide) (hts (.fieldLink RX5 21 "TrialSearch" "trials" "LTrialSearch$Trials;") (by decide +kernel)) rfl rfl dX5_point_9 ?_
    refine u_get (C := RX4) (T := TX4) (N := 12) (v := .ref (g.2.1 13)) hx hb hts hX5_point_X4 hown K U 2 3 (by decide) rfl rfl 2 (by decide) (hts (.fieldLink RX5 170 "TrialSearch$Trials" "places" "[J") (by decide +kernel)) rfl rfl dX5_point_12 ?_
    refine lv_iload_n hx hb dX5_point_15 rfl (lv_at hl 1 rfl) ?_
    obtain ⟨hi_5, hw⟩ := hw
    refine u_lald (k := 13) (v := (B 13 a0.toNatClampNeg)) hx hb K U rfl (by decide) rfl hi_5 rfl dX5_point_16 ?_
    refine lv_goto (tgt := 23) hx hb dX5_point_17 (by decide) ?_
    exact u_lret hx hb hr hlocks U ⟨rfl, rfl, hw⟩ dX5_point_23
set_option maxHeartbeats 4000000 in
set_option maxRecDepth 100000 in
theorem c_X5_reported {l : Launch} {g : uG} {a0 : Int32} {a1 : Int32} {A : SA} {B : SB} {Q : Int32 → Prop} (hw : wp_X5_reported a0 a1 A B Q) : MI l yX5_reported wsX5_reported rmX5_reported g A B [.ref (g.2.1 0), .int a0, .int a1] (fun r A1 B1 => A1 = A ∧ B1 = B ∧ Q r ) := by
  refine u_of (cc := cX5_reported) (maxL := 3) (ret := (some .int)) (by decide) rfl (Nat.le_of_ble_eq_true rfl) ?_
  intro p e s m below meth c ls C K U hl
  obtain ⟨hx, hb, hml, hown, hts, hr, hlocks⟩ := id C
  have S : CallFix p m c cX5_reported 3 s ([.ref (g.2.1 0), .int a0, .int a1] : List Value).toArray wsX5_reported RX5 := ⟨hx, hb, hml, hown, hts⟩
  have hl : lv_has ls 3 [(0, .ref (g.2.1 0)), (1, .int a0), (2, .int a1)] := hl
  refine lv_aload_n hx hb dX5_reported_0 rfl (lv_at hl 0 rfl) ?_
  refine lv_iload_n hx hb dX5_reported_1 rfl (lv_at hl 1 rfl) ?_
  refine u_ci (u_rV (As := [.int a0]) (rest := []) (C := RX5) S K U 0 4 (by decide) rfl rfl (c_X5_isTrial hw) (cwV 1 hts gX5_reported_X5_isTrial rfl rfl rfl (by decide +kernel) ⟨Nat.le_of_ble_eq_true rfl, Nat.le_of_ble_eq_true rfl⟩) rfl hl.1 rfl (Nat.le_of_ble_eq_true rfl) dX5_reported_2 ⟨Nat.zero_le _, Nat.zero_le _⟩) U (fun r_1 A_2 B_3 H locs U9 hw => ?_)
  obtain ⟨eA, eB, hw⟩ := hw
  rw [eA, eB] at U9
  have U := U9
  refine lv_if_eq (tgt := 29) hx hb dX5_reported_5 (by decide) (fun c_4 => ?_) (fun c_4 => ?_)
  · have hw := hw.1 c_4
    refine lv_ldc (v := -2000000) hx hb hown (hts (.constant RX5 174 (-2000000)) (by decide +kernel)) dX5_reported_29 ?_
    exact u_iret hx hb hr hlocks U ⟨rfl, rfl, hw⟩ dX5_reported_31
  · have hw := hw.2 c_4
    refine lv_iload_n hx hb dX5_reported_8 rfl (lv_at hl 2 rfl) ?_
    refine lv_i2l hx hb dX5_reported_9 rfl ?_
    refine lv_lconst (v := 0) hx hb dX5_reported_10 (by decide) ?_
    refine lv_aload_n hx hb dX5_reported_11 rfl (lv_at hl 0 rfl) ?_
    refine u_get (C := RX5) (T := TX5) (N := 4) (v := .ref (g.2.1 2)) hx hb hts hX5_reported_X5 hown K U 0 4 (by decide) rfl rfl 1 (by decide) (hts (.fieldLink RX5 21 "TrialSearch" "trials" "LTrialSearch$Trials;") (by decide +kernel)) rfl rfl dX5_reported_12 ?_
    refine u_get (C := RX4) (T := TX4) (N := 12) (v := .ref (g.2.1 16)) hx hb hts hX5_reported_X4 hown K U 2 3 (by decide) rfl rfl 5 (by decide) (hts (.fieldLink RX5 155 "TrialSearch$Trials" "steps" "[I") (by decide +kernel)) rfl rfl dX5_reported_15 ?_
    refine lv_iload_n hx hb dX5_reported_18 rfl (lv_at hl 1 rfl) ?_
    obtain ⟨hi_5, hw⟩ := hw
    refine u_iald (k := 16) (v := (A 16 a0.toNatClampNeg)) hx hb K U rfl (by decide) rfl hi_5 rfl dX5_reported_19 ?_
    refine lv_iconst (v := 1) hx hb dX5_reported_20 (by decide) ?_
    refine lv_isub hx hb dX5_reported_21 ?_
    refine lv_i2l hx hb dX5_reported_22 rfl ?_
    refine u_ci (u_rS (As := [.long a1.toInt64, .long (0 : Int64), .long ((A 16 a0.toNatClampNeg) - (1 : Int32)).toInt64]) (rest := []) S K U (c_X5_within hw) (va_cwS 3 hts gX5_reported_X5_within rfl rfl rfl (by decide +kernel) ⟨Nat.le_of_ble_eq_true rfl, Nat.le_of_ble_eq_true rfl⟩) rfl hl.1 rfl (Nat.le_of_ble_eq_true rfl) dX5_reported_23 ⟨Nat.zero_le _, Nat.zero_le _⟩) U (fun r_6 A_7 B_8 H locs U9 hw => ?_)
    obtain ⟨eA, eB, hw⟩ := hw
    rw [eA, eB] at U9
    have U := U9
    refine lv_if_ne (tgt := 32) hx hb dX5_reported_26 (by decide) (fun c_9 => ?_) (fun c_9 => ?_)
    · have hw := hw.1 c_9
      refine lv_aload_n hx hb dX5_reported_32 rfl (lv_at hl 0 rfl) ?_
      refine u_get (C := RX5) (T := TX5) (N := 4) (v := .ref (g.2.1 2)) hx hb hts hX5_reported_X5 hown K U 0 4 (by decide) rfl rfl 1 (by decide) (hts (.fieldLink RX5 21 "TrialSearch" "trials" "LTrialSearch$Trials;") (by decide +kernel)) rfl rfl dX5_reported_33 ?_
      refine u_get (C := RX4) (T := TX4) (N := 12) (v := .ref (g.2.1 17)) hx hb hts hX5_reported_X4 hown K U 2 3 (by decide) rfl rfl 6 (by decide) (hts (.fieldLink RX5 175 "TrialSearch$Trials" "reports" "[[I") (by decide +kernel)) rfl rfl dX5_reported_36 ?_
      refine lv_iload_n hx hb dX5_reported_39 rfl (lv_at hl 1 rfl) ?_
      obtain ⟨hi_10, hw⟩ := hw
      refine u_aald (b := 56) hx hb K U (k := 17) (by decide) (by decide) rfl rfl hi_10 dX5_reported_40 ?_
      refine lv_iload_n hx hb dX5_reported_41 rfl (lv_at hl 2 rfl) ?_
      obtain ⟨hi_11, hw⟩ := hw
      refine u_iald (k := (56 + a0.toNatClampNeg)) (v := (A (56 + a0.toNatClampNeg) a1.toNatClampNeg)) hx hb K U (urow_56 hi_10).1 (urow_56 hi_10).2.1 (urow_56 hi_10).2.2 hi_11 rfl dX5_reported_42 ?_
      exact u_iret hx hb hr hlocks U ⟨rfl, rfl, hw⟩ dX5_reported_43
    · have hw := hw.2 c_9
      refine lv_ldc (v := -2000000) hx hb hown (hts (.constant RX5 174 (-2000000)) (by decide +kernel)) dX5_reported_29 ?_
      exact u_iret hx hb hr hlocks U ⟨rfl, rfl, hw⟩ dX5_reported_31
set_option maxHeartbeats 4000000 in
set_option maxRecDepth 100000 in
theorem c_X5_best {l : Launch} {g : uG}  {A : SA} {B : SB} {Q : Int32 → Prop} (hw : wp_X5_best  A B Q) : MI l yX5_best wsX5_best rmX5_best g A B [.ref (g.2.1 0)] (fun r A1 B1 => A1 = A ∧ B1 = B ∧ Q r ) := by
  refine u_of (cc := cX5_best) (maxL := 1) (ret := (some .int)) (by decide) rfl (Nat.le_of_ble_eq_true rfl) ?_
  intro p e s m below meth c ls C K U hl
  obtain ⟨hx, hb, hml, hown, hts, hr, hlocks⟩ := id C
  have S : CallFix p m c cX5_best 1 s ([.ref (g.2.1 0)] : List Value).toArray wsX5_best RX5 := ⟨hx, hb, hml, hown, hts⟩
  have hl : lv_has ls 1 [(0, .ref (g.2.1 0))] := hl
  refine lv_aload_n hx hb dX5_best_0 rfl (lv_at hl 0 rfl) ?_
  refine u_get (C := RX5) (T := TX5) (N := 4) (v := .ref (g.2.1 2)) hx hb hts hX5_best_X5 hown K U 0 4 (by decide) rfl rfl 1 (by decide) (hts (.fieldLink RX5 21 "TrialSearch" "trials" "LTrialSearch$Trials;") (by decide +kernel)) rfl rfl dX5_best_1 ?_
  refine u_ci (u_rV (As := []) (rest := []) (C := RX4) S K U 2 3 (by decide) rfl rfl (c_X4_firstGreatest hw) (cwV 0 hts gX5_best_X4_firstGreatest rfl rfl rfl (by decide +kernel) ⟨Nat.le_of_ble_eq_true rfl, Nat.le_of_ble_eq_true rfl⟩) rfl hl.1 rfl (Nat.le_of_ble_eq_true rfl) dX5_best_4 ⟨Nat.zero_le _, Nat.zero_le _⟩) U (fun r_1 A_2 B_3 H locs U9 hw => ?_)
  obtain ⟨eA, eB, hw⟩ := hw
  rw [eA, eB] at U9
  have U := U9
  exact u_iret hx hb hr hlocks U ⟨rfl, rfl, hw⟩ dX5_best_7
set_option maxHeartbeats 4000000 in
set_option maxRecDepth 100000 in
theorem c_X5_bracket {l : Launch} {g : uG} {a0 : Int32} {a1 : Int32} {a2 : Int32} {a3 : Int32} {A : SA} {B : SB} {Q : Int32 → SA → SB → Prop} (hw : wp_X5_bracket a0 a1 a2 a3 A B Q) : MI l yX5_bracket wsX5_bracket rmX5_bracket g A B [.ref (g.2.1 0), .int a0, .int a1, .int a2, .int a3] Q := by
  refine u_of (cc := cX5_bracket) (maxL := 5) (ret := (some .int)) (by decide) rfl (Nat.le_of_ble_eq_true rfl) ?_
  intro p e s m below meth c ls C K U hl
  obtain ⟨hx, hb, hml, hown, hts, hr, hlocks⟩ := id C
  have S : CallFix p m c cX5_bracket 5 s ([.ref (g.2.1 0), .int a0, .int a1, .int a2, .int a3] : List Value).toArray wsX5_bracket RX5 := ⟨hx, hb, hml, hown, hts⟩
  have hl : lv_has ls 5 [(0, .ref (g.2.1 0)), (1, .int a0), (2, .int a1), (3, .int a2), (4, .int a3)] := hl
  refine lv_iload_n hx hb dX5_bracket_0 rfl (lv_at hl 2 rfl) ?_
  refine lv_i2l hx hb dX5_bracket_1 rfl ?_
  refine lv_lconst (v := 1) hx hb dX5_bracket_2 (by decide) ?_
  refine lv_ldc2 (v := 60) hx hb hown (hts (.constantLong RX5 153 (60)) (by decide +kernel)) dX5_bracket_3 ?_
  refine u_ci (u_rS (As := [.long a1.toInt64, .long (1 : Int64), .long (60 : Int64)]) (rest := []) S K U (c_X5_within hw) (va_cwS 3 hts gX5_bracket_X5_within rfl rfl rfl (by decide +kernel) ⟨Nat.le_of_ble_eq_true rfl, Nat.le_of_ble_eq_true rfl⟩) rfl hl.1 rfl (Nat.le_of_ble_eq_true rfl) dX5_bracket_6 ⟨Nat.zero_le _, Nat.zero_le _⟩) U (fun r_1 A_2 B_3 H locs U9 hw => ?_)
  obtain ⟨eA, eB, hw⟩ := hw
  rw [eA, eB] at U9
  have U := U9
  refine lv_if_eq (tgt := 31) hx hb dX5_bracket_9 (by decide) (fun c_4 => ?_) (fun c_4 => ?_)
  · have hw := hw.1 c_4
    refine lv_iconst (v := -1) hx hb dX5_bracket_31 (by decide) ?_
    exact u_iret hx hb hr hlocks U hw dX5_bracket_32
  · have hw := hw.2 c_4
    refine lv_iload_n hx hb dX5_bracket_12 rfl (lv_at hl 1 rfl) ?_
    refine lv_i2l hx hb dX5_bracket_13 rfl ?_
    refine lv_lconst (v := 0) hx hb dX5_bracket_14 (by decide) ?_
    refine lv_aload_n hx hb dX5_bracket_15 rfl (lv_at hl 0 rfl) ?_
    refine u_get (C := RX5) (T := TX5) (N := 4) (v := .ref (g.2.1 2)) hx hb hts hX5_bracket_X5 hown K U 0 4 (by decide) rfl rfl 1 (by decide) (hts (.fieldLink RX5 21 "TrialSearch" "trials" "LTrialSearch$Trials;") (by decide +kernel)) rfl rfl dX5_bracket_16 ?_
    refine u_get (C := RX4) (T := TX4) (N := 12) (v := .int (A 2 0)) hx hb hts hX5_bracket_X4 hown K U 2 3 (by decide) rfl rfl 0 (by decide) (hts (.fieldLink RX5 53 "TrialSearch$Trials" "made" "I") (by decide +kernel)) rfl rfl dX5_bracket_19 ?_
    refine lv_iload_n hx hb dX5_bracket_22 rfl (lv_at hl 2 rfl) ?_
    refine lv_isub hx hb dX5_bracket_23 ?_
    refine lv_i2l hx hb dX5_bracket_24 rfl ?_
    refine u_ci (u_rS (As := [.long a0.toInt64, .long (0 : Int64), .long ((A 2 0) - a1).toInt64]) (rest := []) S K U (c_X5_within hw) (va_cwS 3 hts gX5_bracket_X5_within rfl rfl rfl (by decide +kernel) ⟨Nat.le_of_ble_eq_true rfl, Nat.le_of_ble_eq_true rfl⟩) rfl hl.1 rfl (Nat.le_of_ble_eq_true rfl) dX5_bracket_25 ⟨Nat.zero_le _, Nat.zero_le _⟩) U (fun r_5 A_6 B_7 H locs U9 hw => ?_)
    obtain ⟨eA, eB, hw⟩ := hw
    rw [eA, eB] at U9
    have U := U9
    refine lv_if_ne (tgt := 33) hx hb dX5_bracket_28 (by decide) (fun c_8 => ?_) (fun c_8 => ?_)
    · have hw := hw.1 c_8
      refine lv_iload_n hx hb dX5_bracket_33 rfl (lv_at hl 3 rfl) ?_
      refine lv_i2l hx hb dX5_bracket_34 rfl ?_
      refine lv_lconst (v := 1) hx hb dX5_bracket_35 (by decide) ?_
      refine lv_ldc2 (v := 1000000) hx hb hown (hts (.constantLong RX5 183 (1000000)) (by decide +kernel)) dX5_bracket_36 ?_
      refine u_ci (u_rS (As := [.long a2.toInt64, .long (1 : Int64), .long (1000000 : Int64)]) (rest := []) S K U (c_X5_within hw) (va_cwS 3 hts gX5_bracket_X5_within rfl rfl rfl (by decide +kernel) ⟨Nat.le_of_ble_eq_true rfl, Nat.le_of_ble_eq_true rfl⟩) rfl hl.1 rfl (Nat.le_of_ble_eq_true rfl) dX5_bracket_39 ⟨Nat.zero_le _, Nat.zero_le _⟩) U (fun r_9 A_10 B_11 H locs U9 hw => ?_)
      obtain ⟨eA, eB, hw⟩ := hw
      rw [eA, eB] at U9
      have U := U9
      refine lv_if_eq (tgt := 60) hx hb dX5_bracket_42 (by decide) (fun c_12 => ?_) (fun c_12 => ?_)
      · have hw := hw.1 c_12
        refine lv_iconst (v := -1) hx hb dX5_bracket_60 (by decide) ?_
        exact u_iret hx hb hr hlocks U hw dX5_bracket_61
      · have hw := hw.2 c_12
        refine lv_iload hx hb dX5_bracket_45 (lv_at hl 4 rfl) ?_
        refine lv_i2l hx hb dX5_bracket_47 rfl ?_
        refine lv_ldc2 (v := 2) hx hb hown (hts (.constantLong RX5 93 (2)) (by decide +kernel)) dX5_bracket_48 ?_
        refine lv_ldc2 (v := 5) hx hb hown (hts (.constantLong RX5 104 (5)) (by decide +kernel)) dX5_bracket_51 ?_
        refine u_ci (u_rS (As := [.long a3.toInt64, .long (2 : Int64), .long (5 : Int64)]) (rest := []) S K U (c_X5_within hw) (va_cwS 3 hts gX5_bracket_X5_within rfl rfl rfl (by decide +kernel) ⟨Nat.le_of_ble_eq_true rfl, Nat.le_of_ble_eq_true rfl⟩) rfl hl.1 rfl (Nat.le_of_ble_eq_true rfl) dX5_bracket_54 ⟨Nat.zero_le _, Nat.zero_le _⟩) U (fun r_13 A_14 B_15 H locs U9 hw => ?_)
        obtain ⟨eA, eB, hw⟩ := hw
        rw [eA, eB] at U9
        have U := U9
        refine lv_if_ne (tgt := 62) hx hb dX5_bracket_57 (by decide) (fun c_16 => ?_) (fun c_16 => ?_)
        · have hw := hw.1 c_16
          refine lv_aload_n hx hb dX5_bracket_62 rfl (lv_at hl 0 rfl) ?_
          refine u_get (C := RX5) (T := TX5) (N := 4) (v := .ref (g.2.1 3)) hx hb hts hX5_bracket_X5 hown K U 0 4 (by decide) rfl rfl 2 (by decide) (hts (.fieldLink RX5 28 "TrialSearch" "rounds" "LTrialSearch$Rounds;") (by decide +kernel)) rfl rfl dX5_bracket_63 ?_
          refine lv_iload_n hx hb dX5_bracket_66 rfl (lv_at hl 1 rfl) ?_
          refine lv_iload_n hx hb dX5_bracket_67 rfl (lv_at hl 2 rfl) ?_
          refine lv_iload_n hx hb dX5_bracket_68 rfl (lv_at hl 3 rfl) ?_
          refine lv_iload hx hb dX5_bracket_69 (lv_at hl 4 rfl) ?_
          refine u_cv (u_rV (As := [.int a0, .int a1, .int a2, .int a3]) (rest := []) (C := RX1) S K U 3 1 (by decide) rfl rfl (c_X1_start hw) (cwV 4 hts gX5_bracket_X1_start rfl rfl rfl (by decide +kernel) ⟨Nat.le_of_ble_eq_true rfl, Nat.le_of_ble_eq_true rfl⟩) rfl hl.1 rfl (Nat.le_of_ble_eq_true rfl) dX5_bracket_71 ⟨Nat.zero_le _, Nat.zero_le _⟩) U (fun A_18 B_19 H locs U hw => ?_)
          refine lv_iconst (v := 1) hx hb dX5_bracket_74 (by decide) ?_
          exact u_iret hx hb hr hlocks U hw dX5_bracket_75
        · have hw := hw.2 c_16
          refine lv_iconst (v := -1) hx hb dX5_bracket_60 (by decide) ?_
          exact u_iret hx hb hr hlocks U hw dX5_bracket_61
    · have hw := hw.2 c_8
      refine lv_iconst (v := -1) hx hb dX5_bracket_31 (by decide) ?_
      exact u_iret hx hb hr hlocks U hw dX5_bracket_32
set_option maxHeartbeats 4000000 in
set_option maxRecDepth 100000 in
theorem c_X5_result {l : Launch} {g : uG} {a0 : Int32} {a1 : Int32} {a2 : Int32} {A : SA} {B : SB} {Q : Int32 → SA → SB → Prop} (hw : wp_X5_result a0 a1 a2 A B Q) : MI l yX5_result wsX5_result rmX5_result g A B [.ref (g.2.1 0), .int a0, .int a1, .int a2] Q := by
  refine u_of (cc := cX5_result) (maxL := 4) (ret := (some .int)) (by decide) rfl (Nat.le_of_ble_eq_true rfl) ?_
  intro p e s m below meth c ls C K U hl
  obtain ⟨hx, hb, hml, hown, hts, hr, hlocks⟩ := id C
  have S : CallFix p m c cX5_result 4 s ([.ref (g.2.1 0), .int a0, .int a1, .int a2] : List Value).toArray wsX5_result RX5 := ⟨hx, hb, hml, hown, hts⟩
  have hl : lv_has ls 4 [(0, .ref (g.2.1 0)), (1, .int a0), (2, .int a1), (3, .int a2)] := hl
  refine lv_aload_n hx hb dX5_result_0 rfl (lv_at hl 0 rfl) ?_
  refine lv_iload_n hx hb dX5_result_1 rfl (lv_at hl 1 rfl) ?_
  refine u_ci (u_rV (As := [.int a0]) (rest := []) (C := RX5) S K U 0 4 (by decide) rfl rfl (c_X5_isTrial hw) (cwV 1 hts gX5_result_X5_isTrial rfl rfl rfl (by decide +kernel) ⟨Nat.le_of_ble_eq_true rfl, Nat.le_of_ble_eq_true rfl⟩) rfl hl.1 rfl (Nat.le_of_ble_eq_true rfl) dX5_result_2 ⟨Nat.zero_le _, Nat.zero_le _⟩) U (fun r_1 A_2 B_3 H locs U9 hw => ?_)
  obtain ⟨eA, eB, hw⟩ := hw
  rw [eA, eB] at U9
  have U := U9
  refine lv_if_eq (tgt := 16) hx hb dX5_result_5 (by decide) (fun c_4 => ?_) (fun c_4 => ?_)
  · have hw := hw.1 c_4
    refine lv_iconst (v := -1) hx hb dX5_result_16 (by decide) ?_
    exact u_iret hx hb hr hlocks U hw dX5_result_17
  · have hw := hw.2 c_4
    refine lv_iload_n hx hb dX5_result_8 rfl (lv_at hl 2 rfl) ?_
    refine lv_iload_n hx hb dX5_result_9 rfl (lv_at hl 3 rfl) ?_
    refine u_ci (u_rS (As := [.int a1, .int a2]) (rest := []) S K U (c_X5_isMark hw) (va_cwS 2 hts gX5_result_X5_isMark rfl rfl rfl (by decide +kernel) ⟨Nat.le_of_ble_eq_true rfl, Nat.le_of_ble_eq_true rfl⟩) rfl hl.1 rfl (Nat.le_of_ble_eq_true rfl) dX5_result_10 ⟨Nat.zero_le _, Nat.zero_le _⟩) U (fun r_5 A_6 B_7 H locs U9 hw => ?_)
    obtain ⟨eA, eB, hw⟩ := hw
    rw [eA, eB] at U9
    have U := U9
    refine lv_if_ne (tgt := 18) hx hb dX5_result_13 (by decide) (fun c_8 => ?_) (fun c_8 => ?_)
    · have hw := hw.1 c_8
      refine lv_aload_n hx hb dX5_result_18 rfl (lv_at hl 0 rfl) ?_
      refine u_get (C := RX5) (T := TX5) (N := 4) (v := .ref (g.2.1 3)) hx hb hts hX5_result_X5 hown K U 0 4 (by decide) rfl rfl 2 (by decide) (hts (.fieldLink RX5 28 "TrialSearch" "rounds" "LTrialSearch$Rounds;") (by decide +kernel)) rfl rfl dX5_result_19 ?_
      refine lv_iload_n hx hb dX5_result_22 rfl (lv_at hl 1 rfl) ?_
      refine u_ci (u_rV (As := [.int a0]) (rest := []) (C := RX1) S K U 3 1 (by decide) rfl rfl (c_X1_isWaiting hw) (cwV 1 hts gX5_result_X1_isWaiting rfl rfl rfl (by decide +kernel) ⟨Nat.le_of_ble_eq_true rfl, Nat.le_of_ble_eq_true rfl⟩) rfl hl.1 rfl (Nat.le_of_ble_eq_true rfl) dX5_result_23 ⟨Nat.zero_le _, Nat.zero_le _⟩) U (fun r_9 A_10 B_11 H locs U9 hw => ?_)
      obtain ⟨eA, eB, hw⟩ := hw
      rw [eA, eB] at U9
      have U := U9
      refine lv_if_eq (tgt := 42) hx hb dX5_result_26 (by decide) (fun c_12 => ?_) (fun c_12 => ?_)
      · have hw := hw.1 c_12
        refine lv_bipush (v := -3) hx hb dX5_result_42 (by decide) ?_
        exact u_iret hx hb hr hlocks U hw dX5_result_44
      · have hw := hw.2 c_12
        refine lv_aload_n hx hb dX5_result_29 rfl (lv_at hl 0 rfl) ?_
        refine u_get (C := RX5) (T := TX5) (N := 4) (v := .ref (g.2.1 3)) hx hb hts hX5_result_X5 hown K U 0 4 (by decide) rfl rfl 2 (by decide) (hts (.fieldLink RX5 28 "TrialSearch" "rounds" "LTrialSearch$Rounds;") (by decide +kernel)) rfl rfl dX5_result_30 ?_
        refine lv_iload_n hx hb dX5_result_33 rfl (lv_at hl 1 rfl) ?_
        refine lv_iload_n hx hb dX5_result_34 rfl (lv_at hl 2 rfl) ?_
        refine lv_iload_n hx hb dX5_result_35 rfl (lv_at hl 3 rfl) ?_
        refine u_ci (u_rV (As := [.int a0, .int a1, .int a2]) (rest := []) (C := RX1) S K U 3 1 (by decide) rfl rfl (c_X1_mark hw) (cwV 3 hts gX5_result_X1_mark rfl rfl rfl (by decide +kernel) ⟨Nat.le_of_ble_eq_true rfl, Nat.le_of_ble_eq_true rfl⟩) rfl hl.1 rfl (Nat.le_of_ble_eq_true rfl) dX5_result_36 ⟨Nat.zero_le _, Nat.zero_le _⟩) U (fun r_13 A_14 B_15 H locs U hw => ?_)
        refine lv_goto (tgt := 44) hx hb dX5_result_39 (by decide) ?_
        exact u_iret hx hb hr hlocks U hw dX5_result_44
    · have hw := hw.2 c_8
      refine lv_iconst (v := -1) hx hb dX5_result_16 (by decide) ?_
      exact u_iret hx hb hr hlocks U hw dX5_result_17
set_option maxHeartbeats 4000000 in
set_option maxRecDepth 100000 in
theorem c_X5_halve {l : Launch} {g : uG}  {A : SA} {B : SB} {Q : Int32 → SA → Prop} (hw : wp_X5_halve  A B Q) : MI l yX5_halve wsX5_halve rmX5_halve g A B [.ref (g.2.1 0)] (fun r A1 B1 => B1 = B ∧ Q r A1 ) := by
  refine u_of (cc := cX5_halve) (maxL := 1) (ret := (some .int)) (by decide) rfl (Nat.le_of_ble_eq_true rfl) ?_
  intro p e s m below meth c ls C K U hl
  obtain ⟨hx, hb, hml, hown, hts, hr, hlocks⟩ := id C
  have S : CallFix p m c cX5_halve 1 s ([.ref (g.2.1 0)] : List Value).toArray wsX5_halve RX5 := ⟨hx, hb, hml, hown, hts⟩
  have hl : lv_has ls 1 [(0, .ref (g.2.1 0))] := hl
  refine lv_aload_n hx hb dX5_halve_0 rfl (lv_at hl 0 rfl) ?_
  refine u_get (C := RX5) (T := TX5) (N := 4) (v := .ref (g.2.1 3)) hx hb hts hX5_halve_X5 hown K U 0 4 (by decide) rfl rfl 2 (by decide) (hts (.fieldLink RX5 28 "TrialSearch" "rounds" "LTrialSearch$Rounds;") (by decide +kernel)) rfl rfl dX5_halve_1 ?_
  refine u_ci (u_rV (As := []) (rest := []) (C := RX1) S K U 3 1 (by decide) rfl rfl (c_X1_canEnd hw) (cwV 0 hts gX5_halve_X1_canEnd rfl rfl rfl (by decide +kernel) ⟨Nat.le_of_ble_eq_true rfl, Nat.le_of_ble_eq_true rfl⟩) rfl hl.1 rfl (Nat.le_of_ble_eq_true rfl) dX5_halve_4 ⟨Nat.zero_le _, Nat.zero_le _⟩) U (fun r_1 A_2 B_3 H locs U9 hw => ?_)
  obtain ⟨eA, eB, hw⟩ := hw
  rw [eA, eB] at U9
  have U := U9
  refine lv_if_eq (tgt := 20) hx hb dX5_halve_7 (by decide) (fun c_4 => ?_) (fun c_4 => ?_)
  · have hw := hw.1 c_4
    refine lv_bipush (v := -3) hx hb dX5_halve_20 (by decide) ?_
    exact u_iret hx hb hr hlocks U ⟨rfl, hw⟩ dX5_halve_22
  · have hw := hw.2 c_4
    refine lv_aload_n hx hb dX5_halve_10 rfl (lv_at hl 0 rfl) ?_
    refine u_get (C := RX5) (T := TX5) (N := 4) (v := .ref (g.2.1 3)) hx hb hts hX5_halve_X5 hown K U 0 4 (by decide) rfl rfl 2 (by decide) (hts (.fieldLink RX5 28 "TrialSearch" "rounds" "LTrialSearch$Rounds;") (by decide +kernel)) rfl rfl dX5_halve_11 ?_
    refine u_ci (u_rV (As := []) (rest := []) (C := RX1) S K U 3 1 (by decide) rfl rfl (c_X1_end hw) (cwV 0 hts gX5_halve_X1_end rfl rfl rfl (by decide +kernel) ⟨Nat.le_of_ble_eq_true rfl, Nat.le_of_ble_eq_true rfl⟩) rfl hl.1 rfl (Nat.le_of_ble_eq_true rfl) dX5_halve_14 ⟨Nat.zero_le _, Nat.zero_le _⟩) U (fun r_5 A_6 B_7 H locs U9 hw => ?_)
    obtain ⟨eB, hw⟩ := hw
    rw [eB] at U9
    have U := U9
    refine lv_goto (tgt := 22) hx hb dX5_halve_17 (by decide) ?_
    exact u_iret hx hb hr hlocks U ⟨rfl, hw⟩ dX5_halve_22
set_option maxHeartbeats 4000000 in
set_option maxRecDepth 100000 in
theorem c_X5_round {l : Launch} {g : uG} {a0 : Int32} {A : SA} {B : SB} {Q : Int32 → Prop} (hw : wp_X5_round a0 A B Q) : MI l yX5_round wsX5_round rmX5_round g A B [.ref (g.2.1 0), .int a0] (fun r A1 B1 => A1 = A ∧ B1 = B ∧ Q r ) := by
  refine u_of (cc := cX5_round) (maxL := 2) (ret := (some .int)) (by decide) rfl (Nat.le_of_ble_eq_true rfl) ?_
  intro p e s m below meth c ls C K U hl
  obtain ⟨hx, hb, hml, hown, hts, hr, hlocks⟩ := id C
  have S : CallFix p m c cX5_round 2 s ([.ref (g.2.1 0), .int a0] : List Value).toArray wsX5_round RX5 := ⟨hx, hb, hml, hown, hts⟩
  have hl : lv_has ls 2 [(0, .ref (g.2.1 0)), (1, .int a0)] := hl
  refine lv_iload_n hx hb dX5_round_0 rfl (lv_at hl 1 rfl) ?_
  refine lv_i2l hx hb dX5_round_1 rfl ?_
  refine lv_lconst (v := 0) hx hb dX5_round_2 (by decide) ?_
  refine lv_ldc2 (v := 3) hx hb hown (hts (.constantLong RX5 202 (3)) (by decide +kernel)) dX5_round_3 ?_
  refine u_ci (u_rS (As := [.long a0.toInt64, .long (0 : Int64), .long (3 : Int64)]) (rest := []) S K U (c_X5_within hw) (va_cwS 3 hts gX5_round_X5_within rfl rfl rfl (by decide +kernel) ⟨Nat.le_of_ble_eq_true rfl, Nat.le_of_ble_eq_true rfl⟩) rfl hl.1 rfl (Nat.le_of_ble_eq_true rfl) dX5_round_6 ⟨Nat.zero_le _, Nat.zero_le _⟩) U (fun r_1 A_2 B_3 H locs U9 hw => ?_)
  obtain ⟨eA, eB, hw⟩ := hw
  rw [eA, eB] at U9
  have U := U9
  refine lv_if_ne (tgt := 14) hx hb dX5_round_9 (by decide) (fun c_4 => ?_) (fun c_4 => ?_)
  · have hw := hw.1 c_4
    refine lv_aload_n hx hb dX5_round_14 rfl (lv_at hl 0 rfl) ?_
    refine u_get (C := RX5) (T := TX5) (N := 4) (v := .ref (g.2.1 3)) hx hb hts hX5_round_X5 hown K U 0 4 (by decide) rfl rfl 2 (by decide) (hts (.fieldLink RX5 28 "TrialSearch" "rounds" "LTrialSearch$Rounds;") (by decide +kernel)) rfl rfl dX5_round_15 ?_
    refine u_get (C := RX1) (T := TX1) (N := 10) (v := .int (A 3 0)) hx hb hts hX5_round_X1 hown K U 3 1 (by decide) rfl rfl 0 (by decide) (hts (.fieldLink RX5 204 "TrialSearch$Rounds" "started" "Z") (by decide +kernel)) rfl rfl dX5_round_18 ?_
    refine lv_if_eq (tgt := 35) hx hb dX5_round_21 (by decide) (fun c_5 => ?_) (fun c_5 => ?_)
    · have hw := hw.1 c_5
      refine lv_bipush (v := -2) hx hb dX5_round_35 (by decide) ?_
      exact u_iret hx hb hr hlocks U ⟨rfl, rfl, hw⟩ dX5_round_37
    · have hw := hw.2 c_5
      refine lv_aload_n hx hb dX5_round_24 rfl (lv_at hl 0 rfl) ?_
      refine u_get (C := RX5) (T := TX5) (N := 4) (v := .ref (g.2.1 3)) hx hb hts hX5_round_X5 hown K U 0 4 (by decide) rfl rfl 2 (by decide) (hts (.fieldLink RX5 28 "TrialSearch" "rounds" "LTrialSearch$Rounds;") (by decide +kernel)) rfl rfl dX5_round_25 ?_
      refine lv_iload_n hx hb dX5_round_28 rfl (lv_at hl 1 rfl) ?_
      refine u_ci (u_rV (As := [.int a0]) (rest := []) (C := RX1) S K U 3 1 (by decide) rfl rfl (c_X1_tell hw) (cwV 1 hts gX5_round_X1_tell rfl rfl rfl (by decide +kernel) ⟨Nat.le_of_ble_eq_true rfl, Nat.le_of_ble_eq_true rfl⟩) rfl hl.1 rfl (Nat.le_of_ble_eq_true rfl) dX5_round_29 ⟨Nat.zero_le _, Nat.zero_le _⟩) U (fun r_6 A_7 B_8 H locs U9 hw => ?_)
      obtain ⟨eA, eB, hw⟩ := hw
      rw [eA, eB] at U9
      have U := U9
      refine lv_goto (tgt := 37) hx hb dX5_round_32 (by decide) ?_
      exact u_iret hx hb hr hlocks U ⟨rfl, rfl, hw⟩ dX5_round_37
  · have hw := hw.2 c_4
    refine lv_iconst (v := -1) hx hb dX5_round_12 (by decide) ?_
    exact u_iret hx hb hr hlocks U ⟨rfl, rfl, hw⟩ dX5_round_13
set_option maxHeartbeats 4000000 in
set_option maxRecDepth 100000 in
theorem c_X5_cost {l : Launch} {g : uG}  {A : SA} {B : SB} {Q : Int64 → Prop} (hw : wp_X5_cost  A B Q) : ML l yX5_cost wsX5_cost rmX5_cost g A B [.ref (g.2.1 0)] (fun r A1 B1 => A1 = A ∧ B1 = B ∧ Q r ) := by
  refine u_of (cc := cX5_cost) (maxL := 1) (ret := (some .long)) (by decide) rfl (Nat.le_of_ble_eq_true rfl) ?_
  intro p e s m below meth c ls C K U hl
  obtain ⟨hx, hb, hml, hown, hts, hr, hlocks⟩ := id C
  have S : CallFix p m c cX5_cost 1 s ([.ref (g.2.1 0)] : List Value).toArray wsX5_cost RX5 := ⟨hx, hb, hml, hown, hts⟩
  have hl : lv_has ls 1 [(0, .ref (g.2.1 0))] := hl
  refine lv_aload_n hx hb dX5_cost_0 rfl (lv_at hl 0 rfl) ?_
  refine u_get (C := RX5) (T := TX5) (N := 4) (v := .ref (g.2.1 3)) hx hb hts hX5_cost_X5 hown K U 0 4 (by decide) rfl rfl 2 (by decide) (hts (.fieldLink RX5 28 "TrialSearch" "rounds" "LTrialSearch$Rounds;") (by decide +kernel)) rfl rfl dX5_cost_1 ?_
  refine u_get (C := RX1) (T := TX1) (N := 10) (v := .long (B 3 1)) hx hb hts hX5_cost_X1 hown K U 3 1 (by decide) rfl rfl 1 (by decide) (hts (.fieldLink RX5 212 "TrialSearch$Rounds" "spent" "J") (by decide +kernel)) rfl rfl dX5_cost_4 ?_
  exact u_lret hx hb hr hlocks U ⟨rfl, rfl, hw⟩ dX5_cost_7
set_option maxHeartbeats 4000000 in
set_option maxRecDepth 100000 in
theorem c_X5_plan {l : Launch} {g : uG} {a0 : Int32} {a1 : Int32} {a2 : Int32} {a3 : Int32} {A : SA} {B : SB} {Q : Int32 → Prop} (hw : wp_X5_plan a0 a1 a2 a3 A B Q) : MI l yX5_plan wsX5_plan rmX5_plan g A B [.ref (g.2.1 0), .int a0, .int a1, .int a2, .int a3] (fun r A1 B1 => A1 = A ∧ B1 = B ∧ Q r ) := by
  refine u_of (cc := cX5_plan) (maxL := 8) (ret := (some .int)) (by decide) rfl (Nat.le_of_ble_eq_true rfl) ?_
  intro p e s m below meth c ls C K U hl
  obtain ⟨hx, hb, hml, hown, hts, hr, hlocks⟩ := id C
  have S : CallFix p m c cX5_plan 8 s ([.ref (g.2.1 0), .int a0, .int a1, .int a2, .int a3] : List Value).toArray wsX5_plan RX5 := ⟨hx, hb, hml, hown, hts⟩
  have hl : lv_has ls 8 [(0, .ref (g.2.1 0)), (1, .int a0), (2, .int a1), (3, .int a2), (4, .int a3)] := hl
  refine lv_iload_n hx hb dX5_plan_0 rfl (lv_at hl 1 rfl) ?_
  refine lv_i2l hx hb dX5_plan_1 rfl ?_
  refine lv_lconst (v := 1) hx hb dX5_plan_2 (by decide) ?_
  refine lv_ldc2 (v := 1000000) hx hb hown (hts (.constantLong RX5 183 (1000000)) (by decide +kernel)) dX5_plan_3 ?_
  refine u_ci (u_rS (As := [.long a0.toInt64, .long (1 : Int64), .long (1000000 : Int64)]) (rest := []) S K U (c_X5_within hw) (va_cwS 3 hts gX5_plan_X5_within rfl rfl rfl (by decide +kernel) ⟨Nat.le_of_ble_eq_true rfl, Nat.le_of_ble_eq_true rfl⟩) rfl hl.1 rfl (Nat.le_of_ble_eq_true rfl) dX5_plan_6 ⟨Nat.zero_le _, Nat.zero_le _⟩) U (fun r_1 A_2 B_3 H locs U9 hw => ?_)
  obtain ⟨eA, eB, hw⟩ := hw
  rw [eA, eB] at U9
  have U := U9
  refine lv_if_eq (tgt := 37) hx hb dX5_plan_9 (by decide) (fun c_4 => ?_) (fun c_4 => ?_)
  · have hw := hw.1 c_4
    refine lv_iconst (v := -1) hx hb dX5_plan_37 (by decide) ?_
    exact u_iret hx hb hr hlocks U ⟨rfl, rfl, hw⟩ dX5_plan_38
  · have hw := hw.2 c_4
    refine lv_iload_n hx hb dX5_plan_12 rfl (lv_at hl 2 rfl) ?_
    refine lv_i2l hx hb dX5_plan_13 rfl ?_
    refine lv_ldc2 (v := 2) hx hb hown (hts (.constantLong RX5 93 (2)) (by decide +kernel)) dX5_plan_14 ?_
    refine lv_ldc2 (v := 5) hx hb hown (hts (.constantLong RX5 104 (5)) (by decide +kernel)) dX5_plan_17 ?_
    refine u_ci (u_rS (As := [.long a1.toInt64, .long (2 : Int64), .long (5 : Int64)]) (rest := []) S K U (c_X5_within hw) (va_cwS 3 hts gX5_plan_X5_within rfl rfl rfl (by decide +kernel) ⟨Nat.le_of_ble_eq_true rfl, Nat.le_of_ble_eq_true rfl⟩) rfl hl.1 rfl (Nat.le_of_ble_eq_true rfl) dX5_plan_20 ⟨Nat.zero_le _, Nat.zero_le _⟩) U (fun r_5 A_6 B_7 H locs U9 hw => ?_)
    obtain ⟨eA, eB, hw⟩ := hw
    rw [eA, eB] at U9
    have U := U9
    refine lv_if_eq (tgt := 37) hx hb dX5_plan_23 (by decide) (fun c_8 => ?_) (fun c_8 => ?_)
    · have hw := hw.1 c_8
      refine lv_iconst (v := -1) hx hb dX5_plan_37 (by decide) ?_
      exact u_iret hx hb hr hlocks U ⟨rfl, rfl, hw⟩ dX5_plan_38
    · have hw := hw.2 c_8
      refine lv_iload hx hb dX5_plan_26 (lv_at hl 4 rfl) ?_
      refine lv_i2l hx hb dX5_plan_28 rfl ?_
      refine lv_lconst (v := 0) hx hb dX5_plan_29 (by decide) ?_
      refine lv_lconst (v := 1) hx hb dX5_plan_30 (by decide) ?_
      refine u_ci (u_rS (As := [.long a3.toInt64, .long (0 : Int64), .long (1 : Int64)]) (rest := []) S K U (c_X5_within hw) (va_cwS 3 hts gX5_plan_X5_within rfl rfl rfl (by decide +kernel) ⟨Nat.le_of_ble_eq_true rfl, Nat.le_of_ble_eq_true rfl⟩) rfl hl.1 rfl (Nat.le_of_ble_eq_true rfl) dX5_plan_31 ⟨Nat.zero_le _, Nat.zero_le _⟩) U (fun r_9 A_10 B_11 H locs U9 hw => ?_)
      obtain ⟨eA, eB, hw⟩ := hw
      rw [eA, eB] at U9
      have U := U9
      refine lv_if_ne (tgt := 39) hx hb dX5_plan_34 (by decide) (fun c_12 => ?_) (fun c_12 => ?_)
      · have hw := hw.1 c_12
        refine lv_iload_n hx hb dX5_plan_39 rfl (lv_at hl 1 rfl) ?_
        refine lv_iload_n hx hb dX5_plan_40 rfl (lv_at hl 2 rfl) ?_
        refine u_ci (u_rS (As := [.int a0, .int a1]) (rest := []) S K U (c_X5_lastBracket hw) (va_cwS 2 hts gX5_plan_X5_lastBracket rfl rfl rfl (by decide +kernel) ⟨Nat.le_of_ble_eq_true rfl, Nat.le_of_ble_eq_true rfl⟩) rfl hl.1 rfl (Nat.le_of_ble_eq_true rfl) dX5_plan_41 ⟨Nat.zero_le _, Nat.zero_le _⟩) U (fun r_13 A_14 B_15 H locs U9 hw => ?_)
        obtain ⟨eA, eB, hw⟩ := hw
        rw [eA, eB] at U9
        have U := U9
        refine lv_istore (lv' := [(5, .int r_13), (0, .ref (g.2.1 0)), (1, .int a0), (2, .int a1), (3, .int a2), (4, .int a3)]) hx hb dX5_plan_44 hl (by decide) rfl (fun ls hl => ?_)
        refine lv_iload_n hx hb dX5_plan_46 rfl (lv_at hl 4 rfl) ?_
        refine lv_i2l hx hb dX5_plan_47 rfl ?_
        refine lv_ldc2 (v := -1) hx hb hown (hts (.constantLong RX5 45 (-1)) (by decide +kernel)) dX5_plan_48 ?_
        refine lv_iload hx hb dX5_plan_51 (lv_at hl 0 rfl) ?_
        refine lv_i2l hx hb dX5_plan_53 rfl ?_
        refine u_ci (u_rS (As := [.long a2.toInt64, .long (-1 : Int64), .long r_13.toInt64]) (rest := []) S K U (c_X5_within hw) (va_cwS 3 hts gX5_plan_X5_within rfl rfl rfl (by decide +kernel) ⟨Nat.le_of_ble_eq_true rfl, Nat.le_of_ble_eq_true rfl⟩) rfl hl.1 rfl (Nat.le_of_ble_eq_true rfl) dX5_plan_54 ⟨Nat.zero_le _, Nat.zero_le _⟩) U (fun r_16 A_17 B_18 H locs U9 hw => ?_)
        obtain ⟨eA, eB, hw⟩ := hw
        rw [eA, eB] at U9
        have U := U9
        refine lv_if_ne (tgt := 62) hx hb dX5_plan_57 (by decide) (fun c_19 => ?_) (fun c_19 => ?_)
        · have hw := hw.1 c_19
          refine lv_iload_n hx hb dX5_plan_62 rfl (lv_at hl 4 rfl) ?_
          refine lv_iconst (v := -1) hx hb dX5_plan_63 (by decide) ?_
          refine lv_icmp_ne (tgt := 79) hx hb dX5_plan_64 (by decide) (fun c_20 => ?_) (fun c_20 => ?_)
          · have hw := hw.1 c_20
            refine lv_iload_n hx hb dX5_plan_79 rfl (lv_at hl 3 rfl) ?_
            refine lv_iload_n hx hb dX5_plan_80 rfl (lv_at hl 4 rfl) ?_
            refine u_cl (u_rS (As := [.int a1, .int a2]) (rest := []) S K U (c_X5_power hw) (va_cwS 2 hts gX5_plan_X5_power rfl rfl rfl (by decide +kernel) ⟨Nat.le_of_ble_eq_true rfl, Nat.le_of_ble_eq_true rfl⟩) rfl hl.1 rfl (Nat.le_of_ble_eq_true rfl) dX5_plan_81 ⟨Nat.zero_le _, Nat.zero_le _⟩) U (fun r_21 A_22 B_23 H locs U9 hw => ?_)
            obtain ⟨eA, eB, hw⟩ := hw
            rw [eA, eB] at U9
            have U := U9
            refine lv_lstore (lv' := [(6, .long r_21), (5, .int r_13), (0, .ref (g.2.1 0)), (1, .int a0), (2, .int a1), (3, .int a2), (4, .int a3)]) hx hb dX5_plan_84 hl (by decide) rfl (fun ls hl => ?_)
            refine lv_iload hx hb dX5_plan_86 (lv_at hl 6 rfl) ?_
            refine lv_if_ne (tgt := 109) hx hb dX5_plan_88 (by decide) (fun c_24 => ?_) (fun c_24 => ?_)
            · have hw := hw.1 c_24
              refine lv_iload_n hx hb dX5_plan_109 rfl (lv_at hl 3 rfl) ?_
              refine lv_i2l hx hb dX5_plan_110 rfl ?_
              refine lv_lload hx hb dX5_plan_111 (lv_at hl 0 rfl) ?_
              refine u_cl (u_rS (As := [.long a0.toInt64, .long r_21]) (rest := []) S K U (c_X5_cut hw) (va_cwS 2 hts gX5_plan_X5_cut rfl rfl rfl (by decide +kernel) ⟨Nat.le_of_ble_eq_true rfl, Nat.le_of_ble_eq_true rfl⟩) rfl hl.1 rfl (Nat.le_of_ble_eq_true rfl) dX5_plan_113 ⟨Nat.zero_le _, Nat.zero_le _⟩) U (fun r_25 A_26 B_27 H locs U9 hw => ?_)
              obtain ⟨eA, eB, hw⟩ := hw
              rw [eA, eB] at U9
              have U := U9
              refine lv_l2i hx hb dX5_plan_116 rfl ?_
              exact u_iret hx hb hr hlocks U ⟨rfl, rfl, hw⟩ dX5_plan_117
            · have hw := hw.2 c_24
              refine lv_iload hx hb dX5_plan_91 (lv_at hl 1 rfl) ?_
              refine lv_iconst (v := 1) hx hb dX5_plan_93 (by decide) ?_
              refine lv_iadd hx hb dX5_plan_94 ?_
              refine lv_i2l hx hb dX5_plan_95 rfl ?_
              refine lv_lload hx hb dX5_plan_96 (lv_at hl 0 rfl) ?_
              refine lv_lmul hx hb dX5_plan_98 ?_
              refine lv_iload_n hx hb dX5_plan_99 rfl (lv_at hl 5 rfl) ?_
              refine lv_iconst (v := 1) hx hb dX5_plan_100 (by decide) ?_
              refine lv_iadd hx hb dX5_plan_101 ?_
              refine lv_i2l hx hb dX5_plan_102 rfl ?_
              refine u_cl (u_rS (As := [.long ((r_13 + (1 : Int32)).toInt64 * r_21), .long (a2 + (1 : Int32)).toInt64]) (rest := []) S K U (c_X5_cutUp hw) (va_cwS 2 hts gX5_plan_X5_cutUp rfl rfl rfl (by decide +kernel) ⟨Nat.le_of_ble_eq_true rfl, Nat.le_of_ble_eq_true rfl⟩) rfl hl.1 rfl (Nat.le_of_ble_eq_true rfl) dX5_plan_103 ⟨Nat.zero_le _, Nat.zero_le _⟩) U (fun r_28 A_29 B_30 H locs U9 hw => ?_)
              obtain ⟨eA, eB, hw⟩ := hw
              rw [eA, eB] at U9
              have U := U9
              refine lv_goto (tgt := 116) hx hb dX5_plan_106 (by decide) ?_
              refine lv_l2i hx hb dX5_plan_116 rfl ?_
              exact u_iret hx hb hr hlocks U ⟨rfl, rfl, hw⟩ dX5_plan_117
          · have hw := hw.2 c_20
            refine lv_iload hx hb dX5_plan_67 (lv_at hl 5 rfl) ?_
            refine lv_if_ne (tgt := 77) hx hb dX5_plan_69 (by decide) (fun c_31 => ?_) (fun c_31 => ?_)
            · have hw := hw.1 c_31
              refine lv_iconst (v := -1) hx hb dX5_plan_77 (by decide) ?_
              exact u_iret hx hb hr hlocks U ⟨rfl, rfl, hw⟩ dX5_plan_78
            · have hw := hw.2 c_31
              refine lv_iload hx hb dX5_plan_72 (lv_at hl 0 rfl) ?_
              refine lv_goto (tgt := 78) hx hb dX5_plan_74 (by decide) ?_
              exact u_iret hx hb hr hlocks U ⟨rfl, rfl, hw⟩ dX5_plan_78
        · have hw := hw.2 c_19
          refine lv_iconst (v := -1) hx hb dX5_plan_60 (by decide) ?_
          exact u_iret hx hb hr hlocks U ⟨rfl, rfl, hw⟩ dX5_plan_61
      · have hw := hw.2 c_12
        refine lv_iconst (v := -1) hx hb dX5_plan_37 (by decide) ?_
        exact u_iret hx hb hr hlocks U ⟨rfl, rfl, hw⟩ dX5_plan_38
set_option maxHeartbeats 4000000 in
set_option maxRecDepth 100000 in
theorem c_X5_folds {l : Launch} {g : uG} {a0 : Int32} {a1 : Int32} {a2 : Int32} {a3 : Int32} {A : SA} {B : SB} {Q : Int32 → SA → SB → Prop} (hw : wp_X5_folds a0 a1 a2 a3 A B Q) : MI l yX5_folds wsX5_folds rmX5_folds g A B [.ref (g.2.1 0), .int a0, .int a1, .int a2, .int a3] Q := by
  refine u_of (cc := cX5_folds) (maxL := 5) (ret := (some .int)) (by decide) rfl (Nat.le_of_ble_eq_true rfl) ?_
  intro p e s m below meth c ls C K U hl
  obtain ⟨hx, hb, hml, hown, hts, hr, hlocks⟩ := id C
  have S : CallFix p m c cX5_folds 5 s ([.ref (g.2.1 0), .int a0, .int a1, .int a2, .int a3] : List Value).toArray wsX5_folds RX5 := ⟨hx, hb, hml, hown, hts⟩
  have hl : lv_has ls 5 [(0, .ref (g.2.1 0)), (1, .int a0), (2, .int a1), (3, .int a2), (4, .int a3)] := hl
  refine lv_iload_n hx hb dX5_folds_0 rfl (lv_at hl 1 rfl) ?_
  refine lv_i2l hx hb dX5_folds_1 rfl ?_
  refine lv_lconst (v := 1) hx hb dX5_folds_2 (by decide) ?_
  refine lv_ldc2 (v := 200) hx hb hown (hts (.constantLong RX5 224 (200)) (by decide +kernel)) dX5_folds_3 ?_
  refine u_ci (u_rS (As := [.long a0.toInt64, .long (1 : Int64), .long (200 : Int64)]) (rest := []) S K U (c_X5_within hw) (va_cwS 3 hts gX5_folds_X5_within rfl rfl rfl (by decide +kernel) ⟨Nat.le_of_ble_eq_true rfl, Nat.le_of_ble_eq_true rfl⟩) rfl hl.1 rfl (Nat.le_of_ble_eq_true rfl) dX5_folds_6 ⟨Nat.zero_le _, Nat.zero_le _⟩) U (fun r_1 A_2 B_3 H locs U9 hw => ?_)
  obtain ⟨eA, eB, hw⟩ := hw
  rw [eA, eB] at U9
  have U := U9
  refine lv_if_eq (tgt := 40) hx hb dX5_folds_9 (by decide) (fun c_4 => ?_) (fun c_4 => ?_)
  · have hw := hw.1 c_4
    refine lv_iconst (v := -1) hx hb dX5_folds_40 (by decide) ?_
    exact u_iret hx hb hr hlocks U hw dX5_folds_41
  · have hw := hw.2 c_4
    refine lv_iload_n hx hb dX5_folds_12 rfl (lv_at hl 2 rfl) ?_
    refine lv_i2l hx hb dX5_folds_13 rfl ?_
    refine lv_ldc2 (v := 2) hx hb hown (hts (.constantLong RX5 93 (2)) (by decide +kernel)) dX5_folds_14 ?_
    refine lv_ldc2 (v := 10) hx hb hown (hts (.constantLong RX5 226 (10)) (by decide +kernel)) dX5_folds_17 ?_
    refine u_ci (u_rS (As := [.long a1.toInt64, .long (2 : Int64), .long (10 : Int64)]) (rest := []) S K U (c_X5_within hw) (va_cwS 3 hts gX5_folds_X5_within rfl rfl rfl (by decide +kernel) ⟨Nat.le_of_ble_eq_true rfl, Nat.le_of_ble_eq_true rfl⟩) rfl hl.1 rfl (Nat.le_of_ble_eq_true rfl) dX5_folds_20 ⟨Nat.zero_le _, Nat.zero_le _⟩) U (fun r_5 A_6 B_7 H locs U9 hw => ?_)
    obtain ⟨eA, eB, hw⟩ := hw
    rw [eA, eB] at U9
    have U := U9
    refine lv_if_eq (tgt := 40) hx hb dX5_folds_23 (by decide) (fun c_8 => ?_) (fun c_8 => ?_)
    · have hw := hw.1 c_8
      refine lv_iconst (v := -1) hx hb dX5_folds_40 (by decide) ?_
      exact u_iret hx hb hr hlocks U hw dX5_folds_41
    · have hw := hw.2 c_8
      refine lv_iload_n hx hb dX5_folds_26 rfl (lv_at hl 3 rfl) ?_
      refine lv_i2l hx hb dX5_folds_27 rfl ?_
      refine lv_ldc2 (v := 2) hx hb hown (hts (.constantLong RX5 93 (2)) (by decide +kernel)) dX5_folds_28 ?_
      refine lv_ldc2 (v := 10) hx hb hown (hts (.constantLong RX5 226 (10)) (by decide +kernel)) dX5_folds_31 ?_
      refine u_ci (u_rS (As := [.long a2.toInt64, .long (2 : Int64), .long (10 : Int64)]) (rest := []) S K U (c_X5_within hw) (va_cwS 3 hts gX5_folds_X5_within rfl rfl rfl (by decide +kernel) ⟨Nat.le_of_ble_eq_true rfl, Nat.le_of_ble_eq_true rfl⟩) rfl hl.1 rfl (Nat.le_of_ble_eq_true rfl) dX5_folds_34 ⟨Nat.zero_le _, Nat.zero_le _⟩) U (fun r_9 A_10 B_11 H locs U9 hw => ?_)
      obtain ⟨eA, eB, hw⟩ := hw
      rw [eA, eB] at U9
      have U := U9
      refine lv_if_ne (tgt := 42) hx hb dX5_folds_37 (by decide) (fun c_12 => ?_) (fun c_12 => ?_)
      · have hw := hw.1 c_12
        refine lv_aload_n hx hb dX5_folds_42 rfl (lv_at hl 0 rfl) ?_
        refine u_get (C := RX5) (T := TX5) (N := 4) (v := .ref (g.2.1 4)) hx hb hts hX5_folds_X5 hown K U 0 4 (by decide) rfl rfl 3 (by decide) (hts (.fieldLink RX5 35 "TrialSearch" "parts" "LTrialSearch$Folds;") (by decide +kernel)) rfl rfl dX5_folds_43 ?_
        refine lv_iload_n hx hb dX5_folds_46 rfl (lv_at hl 1 rfl) ?_
        refine lv_iload_n hx hb dX5_folds_47 rfl (lv_at hl 2 rfl) ?_
        refine lv_iload_n hx hb dX5_folds_48 rfl (lv_at hl 3 rfl) ?_
        refine lv_iload hx hb dX5_folds_49 (lv_at hl 4 rfl) ?_
        refine u_cv (u_rV (As := [.int a0, .int a1, .int a2, .int a3]) (rest := []) (C := RX0) S K U 4 0 (by decide) rfl rfl (c_X0_make hw) (cwV 4 hts gX5_folds_X0_make rfl rfl rfl (by decide +kernel) ⟨Nat.le_of_ble_eq_true rfl, Nat.le_of_ble_eq_true rfl⟩) rfl hl.1 rfl (Nat.le_of_ble_eq_true rfl) dX5_folds_51 ⟨Nat.zero_le _, Nat.zero_le _⟩) U (fun A_14 B_15 H locs U hw => ?_)
        refine lv_iconst (v := 1) hx hb dX5_folds_54 (by decide) ?_
        exact u_iret hx hb hr hlocks U hw dX5_folds_55
      · have hw := hw.2 c_12
        refine lv_iconst (v := -1) hx hb dX5_folds_40 (by decide) ?_
        exact u_iret hx hb hr hlocks U hw dX5_folds_41
set_option maxHeartbeats 4000000 in
set_option maxRecDepth 100000 in
theorem c_X5_isRow {l : Launch} {g : uG} {a0 : Int32} {A : SA} {B : SB} {Q : Int32 → Prop} (hw : wp_X5_isRow a0 A B Q) : MI l yX5_isRow wsX5_isRow rmX5_isRow g A B [.ref (g.2.1 0), .int a0] (fun r A1 B1 => A1 = A ∧ B1 = B ∧ Q r ) := by
  refine u_of (cc := cX5_isRow) (maxL := 2) (ret := (some .boolean)) (by decide) rfl (Nat.le_of_ble_eq_true rfl) ?_
  intro p e s m below meth c ls C K U hl
  obtain ⟨hx, hb, hml, hown, hts, hr, hlocks⟩ := id C
  have S : CallFix p m c cX5_isRow 2 s ([.ref (g.2.1 0), .int a0] : List Value).toArray wsX5_isRow RX5 := ⟨hx, hb, hml, hown, hts⟩
  have hl : lv_has ls 2 [(0, .ref (g.2.1 0)), (1, .int a0)] := hl
  refine lv_iload_n hx hb dX5_isRow_0 rfl (lv_at hl 1 rfl) ?_
  refine lv_i2l hx hb dX5_isRow_1 rfl ?_
  refine lv_lconst (v := 0) hx hb dX5_isRow_2 (by decide) ?_
  refine lv_aload_n hx hb dX5_isRow_3 rfl (lv_at hl 0 rfl) ?_
  refine u_get (C := RX5) (T := TX5) (N := 4) (v := .ref (g.2.1 4)) hx hb hts hX5_isRow_X5 hown K U 0 4 (by decide) rfl rfl 3 (by decide) (hts (.fieldLink RX5 35 "TrialSearch" "parts" "LTrialSearch$Folds;") (by decide +kernel)) rfl rfl dX5_isRow_4 ?_
  refine u_get (C := RX0) (T := TX0) (N := 8) (v := .int (A 4 0)) hx hb hts hX5_isRow_X0 hown K U 4 0 (by decide) rfl rfl 0 (by decide) (hts (.fieldLink RX5 266 "TrialSearch$Folds" "rows" "I") (by decide +kernel)) rfl rfl dX5_isRow_7 ?_
  refine lv_iconst (v := 1) hx hb dX5_isRow_10 (by decide) ?_
  refine lv_isub hx hb dX5_isRow_11 ?_
  refine lv_i2l hx hb dX5_isRow_12 rfl ?_
  refine u_ci (u_rS (As := [.long a0.toInt64, .long (0 : Int64), .long ((A 4 0) - (1 : Int32)).toInt64]) (rest := []) S K U (c_X5_within hw) (va_cwS 3 hts gX5_isRow_X5_within rfl rfl rfl (by decide +kernel) ⟨Nat.le_of_ble_eq_true rfl, Nat.le_of_ble_eq_true rfl⟩) rfl hl.1 rfl (Nat.le_of_ble_eq_true rfl) dX5_isRow_13 ⟨Nat.zero_le _, Nat.zero_le _⟩) U (fun r_1 A_2 B_3 H locs U9 hw => ?_)
  obtain ⟨eA, eB, hw⟩ := hw
  rw [eA, eB] at U9
  have U := U9
  obtain ⟨hn_4, hw⟩ := hw
  exact u_zret hx hb hr hlocks U hn_4 ⟨rfl, rfl, hw⟩ dX5_isRow_16
set_option maxHeartbeats 4000000 in
set_option maxRecDepth 100000 in
theorem c_X5_fold {l : Launch} {g : uG} {a0 : Int32} {a1 : Int32} {A : SA} {B : SB} {Q : Int32 → Prop} (hw : wp_X5_fold a0 a1 A B Q) : MI l yX5_fold wsX5_fold rmX5_fold g A B [.ref (g.2.1 0), .int a0, .int a1] (fun r A1 B1 => A1 = A ∧ B1 = B ∧ Q r ) := by
  refine u_of (cc := cX5_fold) (maxL := 3) (ret := (some .int)) (by decide) rfl (Nat.le_of_ble_eq_true rfl) ?_
  intro p e s m below meth c ls C K U hl
  obtain ⟨hx, hb, hml, hown, hts, hr, hlocks⟩ := id C
  have S : CallFix p m c cX5_fold 3 s ([.ref (g.2.1 0), .int a0, .int a1] : List Value).toArray wsX5_fold RX5 := ⟨hx, hb, hml, hown, hts⟩
  have hl : lv_has ls 3 [(0, .ref (g.2.1 0)), (1, .int a0), (2, .int a1)] := hl
  refine lv_aload_n hx hb dX5_fold_0 rfl (lv_at hl 0 rfl) ?_
  refine lv_iload_n hx hb dX5_fold_1 rfl (lv_at hl 1 rfl) ?_
  refine u_ci (u_rV (As := [.int a0]) (rest := []) (C := RX5) S K U 0 4 (by decide) rfl rfl (c_X5_isRow hw) (cwV 1 hts gX5_fold_X5_isRow rfl rfl rfl (by decide +kernel) ⟨Nat.le_of_ble_eq_true rfl, Nat.le_of_ble_eq_true rfl⟩) rfl hl.1 rfl (Nat.le_of_ble_eq_true rfl) dX5_fold_2 ⟨Nat.zero_le _, Nat.zero_le _⟩) U (fun r_1 A_2 B_3 H locs U9 hw => ?_)
  obtain ⟨eA, eB, hw⟩ := hw
  rw [eA, eB] at U9
  have U := U9
  refine lv_if_eq (tgt := 18) hx hb dX5_fold_5 (by decide) (fun c_4 => ?_) (fun c_4 => ?_)
  · have hw := hw.1 c_4
    refine lv_iconst (v := -1) hx hb dX5_fold_18 (by decide) ?_
    exact u_iret hx hb hr hlocks U ⟨rfl, rfl, hw⟩ dX5_fold_19
  · have hw := hw.2 c_4
    refine lv_iload_n hx hb dX5_fold_8 rfl (lv_at hl 2 rfl) ?_
    refine lv_i2l hx hb dX5_fold_9 rfl ?_
    refine lv_lconst (v := 0) hx hb dX5_fold_10 (by decide) ?_
    refine lv_lconst (v := 1) hx hb dX5_fold_11 (by decide) ?_
    refine u_ci (u_rS (As := [.long a1.toInt64, .long (0 : Int64), .long (1 : Int64)]) (rest := []) S K U (c_X5_within hw) (va_cwS 3 hts gX5_fold_X5_within rfl rfl rfl (by decide +kernel) ⟨Nat.le_of_ble_eq_true rfl, Nat.le_of_ble_eq_true rfl⟩) rfl hl.1 rfl (Nat.le_of_ble_eq_true rfl) dX5_fold_12 ⟨Nat.zero_le _, Nat.zero_le _⟩) U (fun r_5 A_6 B_7 H locs U9 hw => ?_)
    obtain ⟨eA, eB, hw⟩ := hw
    rw [eA, eB] at U9
    have U := U9
    refine lv_if_ne (tgt := 20) hx hb dX5_fold_15 (by decide) (fun c_8 => ?_) (fun c_8 => ?_)
    · have hw := hw.1 c_8
      refine lv_iload_n hx hb dX5_fold_20 rfl (lv_at hl 2 rfl) ?_
      refine lv_if_ne (tgt := 36) hx hb dX5_fold_21 (by decide) (fun c_9 => ?_) (fun c_9 => ?_)
      · have hw := hw.1 c_9
        refine lv_aload_n hx hb dX5_fold_36 rfl (lv_at hl 0 rfl) ?_
        refine u_get (C := RX5) (T := TX5) (N := 4) (v := .ref (g.2.1 4)) hx hb hts hX5_fold_X5 hown K U 0 4 (by decide) rfl rfl 3 (by decide) (hts (.fieldLink RX5 35 "TrialSearch" "parts" "LTrialSearch$Folds;") (by decide +kernel)) rfl rfl dX5_fold_37 ?_
        refine u_get (C := RX0) (T := TX0) (N := 8) (v := .ref (g.2.1 25)) hx hb hts hX5_fold_X0 hown K U 4 0 (by decide) rfl rfl 4 (by decide) (hts (.fieldLink RX5 237 "TrialSearch$Folds" "innerOf" "[I") (by decide +kernel)) rfl rfl dX5_fold_40 ?_
        refine lv_iload_n hx hb dX5_fold_43 rfl (lv_at hl 1 rfl) ?_
        obtain ⟨hi_10, hw⟩ := hw
        refine u_iald (k := 25) (v := (A 25 a0.toNatClampNeg)) hx hb K U rfl (by decide) rfl hi_10 rfl dX5_fold_44 ?_
        exact u_iret hx hb hr hlocks U ⟨rfl, rfl, hw⟩ dX5_fold_45
      · have hw := hw.2 c_9
        refine lv_aload_n hx hb dX5_fold_24 rfl (lv_at hl 0 rfl) ?_
        refine u_get (C := RX5) (T := TX5) (N := 4) (v := .ref (g.2.1 4)) hx hb hts hX5_fold_X5 hown K U 0 4 (by decide) rfl rfl 3 (by decide) (hts (.fieldLink RX5 35 "TrialSearch" "parts" "LTrialSearch$Folds;") (by decide +kernel)) rfl rfl dX5_fold_25 ?_
        refine u_get (C := RX0) (T := TX0) (N := 8) (v := .ref (g.2.1 24)) hx hb hts hX5_fold_X0 hown K U 4 0 (by decide) rfl rfl 3 (by decide) (hts (.fieldLink RX5 234 "TrialSearch$Folds" "outerOf" "[I") (by decide +kernel)) rfl rfl dX5_fold_28 ?_
        refine lv_iload_n hx hb dX5_fold_31 rfl (lv_at hl 1 rfl) ?_
        obtain ⟨hi_11, hw⟩ := hw
        refine u_iald (k := 24) (v := (A 24 a0.toNatClampNeg)) hx hb K U rfl (by decide) rfl hi_11 rfl dX5_fold_32 ?_
        refine lv_goto (tgt := 45) hx hb dX5_fold_33 (by decide) ?_
        exact u_iret hx hb hr hlocks U ⟨rfl, rfl, hw⟩ dX5_fold_45
    · have hw := hw.2 c_8
      refine lv_iconst (v := -1) hx hb dX5_fold_18 (by decide) ?_
      exact u_iret hx hb hr hlocks U ⟨rfl, rfl, hw⟩ dX5_fold_19
set_option maxHeartbeats 4000000 in
set_option maxRecDepth 100000 in
theorem c_X5_isOuter {l : Launch} {g : uG} {a0 : Int32} {A : SA} {B : SB} {Q : Int32 → Prop} (hw : wp_X5_isOuter a0 A B Q) : MI l yX5_isOuter wsX5_isOuter rmX5_isOuter g A B [.ref (g.2.1 0), .int a0] (fun r A1 B1 => A1 = A ∧ B1 = B ∧ Q r ) := by
  refine u_of (cc := cX5_isOuter) (maxL := 2) (ret := (some .boolean)) (by decide) rfl (Nat.le_of_ble_eq_true rfl) ?_
  intro p e s m below meth c ls C K U hl
  obtain ⟨hx, hb, hml, hown, hts, hr, hlocks⟩ := id C
  have S : CallFix p m c cX5_isOuter 2 s ([.ref (g.2.1 0), .int a0] : List Value).toArray wsX5_isOuter RX5 := ⟨hx, hb, hml, hown, hts⟩
  have hl : lv_has ls 2 [(0, .ref (g.2.1 0)), (1, .int a0)] := hl
  refine lv_iload_n hx hb dX5_isOuter_0 rfl (lv_at hl 1 rfl) ?_
  refine lv_i2l hx hb dX5_isOuter_1 rfl ?_
  refine lv_lconst (v := 0) hx hb dX5_isOuter_2 (by decide) ?_
  refine lv_aload_n hx hb dX5_isOuter_3 rfl (lv_at hl 0 rfl) ?_
  refine u_get (C := RX5) (T := TX5) (N := 4) (v := .ref (g.2.1 4)) hx hb hts hX5_isOuter_X5 hown K U 0 4 (by decide) rfl rfl 3 (by decide) (hts (.fieldLink RX5 35 "TrialSearch" "parts" "LTrialSearch$Folds;") (by decide +kernel)) rfl rfl dX5_isOuter_4 ?_
  refine u_get (C := RX0) (T := TX0) (N := 8) (v := .int (A 4 1)) hx hb hts hX5_isOuter_X0 hown K U 4 0 (by decide) rfl rfl 1 (by decide) (hts (.fieldLink RX5 269 "TrialSearch$Folds" "outer" "I") (by decide +kernel)) rfl rfl dX5_isOuter_7 ?_
  refine lv_iconst (v := 1) hx hb dX5_isOuter_10 (by decide) ?_
  refine lv_isub hx hb dX5_isOuter_11 ?_
  refine lv_i2l hx hb dX5_isOuter_12 rfl ?_
  refine u_ci (u_rS (As := [.long a0.toInt64, .long (0 : Int64), .long ((A 4 1) - (1 : Int32)).toInt64]) (rest := []) S K U (c_X5_within hw) (va_cwS 3 hts gX5_isOuter_X5_within rfl rfl rfl (by decide +kernel) ⟨Nat.le_of_ble_eq_true rfl, Nat.le_of_ble_eq_true rfl⟩) rfl hl.1 rfl (Nat.le_of_ble_eq_true rfl) dX5_isOuter_13 ⟨Nat.zero_le _, Nat.zero_le _⟩) U (fun r_1 A_2 B_3 H locs U9 hw => ?_)
  obtain ⟨eA, eB, hw⟩ := hw
  rw [eA, eB] at U9
  have U := U9
  obtain ⟨hn_4, hw⟩ := hw
  exact u_zret hx hb hr hlocks U hn_4 ⟨rfl, rfl, hw⟩ dX5_isOuter_16
set_option maxHeartbeats 4000000 in
set_option maxRecDepth 100000 in
theorem c_X5_use {l : Launch} {g : uG} {a0 : Int32} {a1 : Int32} {A : SA} {B : SB} {Q : Int32 → SA → Prop} (hw : wp_X5_use a0 a1 A B Q) : MI l yX5_use wsX5_use rmX5_use g A B [.ref (g.2.1 0), .int a0, .int a1] (fun r A1 B1 => B1 = B ∧ Q r A1 ) := by
  refine u_of (cc := cX5_use) (maxL := 3) (ret := (some .int)) (by decide) rfl (Nat.le_of_ble_eq_true rfl) ?_
  intro p e s m below meth c ls C K U hl
  obtain ⟨hx, hb, hml, hown, hts, hr, hlocks⟩ := id C
  have S : CallFix p m c cX5_use 3 s ([.ref (g.2.1 0), .int a0, .int a1] : List Value).toArray wsX5_use RX5 := ⟨hx, hb, hml, hown, hts⟩
  have hl : lv_has ls 3 [(0, .ref (g.2.1 0)), (1, .int a0), (2, .int a1)] := hl
  refine lv_aload_n hx hb dX5_use_0 rfl (lv_at hl 0 rfl) ?_
  refine lv_iload_n hx hb dX5_use_1 rfl (lv_at hl 1 rfl) ?_
  refine u_ci (u_rV (As := [.int a0]) (rest := []) (C := RX5) S K U 0 4 (by decide) rfl rfl (c_X5_isOuter hw) (cwV 1 hts gX5_use_X5_isOuter rfl rfl rfl (by decide +kernel) ⟨Nat.le_of_ble_eq_true rfl, Nat.le_of_ble_eq_true rfl⟩) rfl hl.1 rfl (Nat.le_of_ble_eq_true rfl) dX5_use_2 ⟨Nat.zero_le _, Nat.zero_le _⟩) U (fun r_1 A_2 B_3 H locs U9 hw => ?_)
  obtain ⟨eA, eB, hw⟩ := hw
  rw [eA, eB] at U9
  have U := U9
  refine lv_if_eq (tgt := 29) hx hb dX5_use_5 (by decide) (fun c_4 => ?_) (fun c_4 => ?_)
  · have hw := hw.1 c_4
    refine lv_iconst (v := -1) hx hb dX5_use_29 (by decide) ?_
    exact u_iret hx hb hr hlocks U ⟨rfl, hw⟩ dX5_use_30
  · have hw := hw.2 c_4
    refine lv_iload_n hx hb dX5_use_8 rfl (lv_at hl 2 rfl) ?_
    refine lv_i2l hx hb dX5_use_9 rfl ?_
    refine lv_ldc2 (v := -1) hx hb hown (hts (.constantLong RX5 45 (-1)) (by decide +kernel)) dX5_use_10 ?_
    refine lv_aload_n hx hb dX5_use_13 rfl (lv_at hl 0 rfl) ?_
    refine u_get (C := RX5) (T := TX5) (N := 4) (v := .ref (g.2.1 4)) hx hb hts hX5_use_X5 hown K U 0 4 (by decide) rfl rfl 3 (by decide) (hts (.fieldLink RX5 35 "TrialSearch" "parts" "LTrialSearch$Folds;") (by decide +kernel)) rfl rfl dX5_use_14 ?_
    refine u_get (C := RX0) (T := TX0) (N := 8) (v := .int (A 4 2)) hx hb hts hX5_use_X0 hown K U 4 0 (by decide) rfl rfl 2 (by decide) (hts (.fieldLink RX5 243 "TrialSearch$Folds" "inner" "I") (by decide +kernel)) rfl rfl dX5_use_17 ?_
    refine lv_iconst (v := 1) hx hb dX5_use_20 (by decide) ?_
    refine lv_isub hx hb dX5_use_21 ?_
    refine lv_i2l hx hb dX5_use_22 rfl ?_
    refine u_ci (u_rS (As := [.long a1.toInt64, .long (-1 : Int64), .long ((A 4 2) - (1 : Int32)).toInt64]) (rest := []) S K U (c_X5_within hw) (va_cwS 3 hts gX5_use_X5_within rfl rfl rfl (by decide +kernel) ⟨Nat.le_of_ble_eq_true rfl, Nat.le_of_ble_eq_true rfl⟩) rfl hl.1 rfl (Nat.le_of_ble_eq_true rfl) dX5_use_23 ⟨Nat.zero_le _, Nat.zero_le _⟩) U (fun r_5 A_6 B_7 H locs U9 hw => ?_)
    obtain ⟨eA, eB, hw⟩ := hw
    rw [eA, eB] at U9
    have U := U9
    refine lv_if_ne (tgt := 31) hx hb dX5_use_26 (by decide) (fun c_8 => ?_) (fun c_8 => ?_)
    · have hw := hw.1 c_8
      refine lv_aload_n hx hb dX5_use_31 rfl (lv_at hl 0 rfl) ?_
      refine u_get (C := RX5) (T := TX5) (N := 4) (v := .ref (g.2.1 4)) hx hb hts hX5_use_X5 hown K U 0 4 (by decide) rfl rfl 3 (by decide) (hts (.fieldLink RX5 35 "TrialSearch" "parts" "LTrialSearch$Folds;") (by decide +kernel)) rfl rfl dX5_use_32 ?_
      refine u_get (C := RX0) (T := TX0) (N := 8) (v := .ref (g.2.1 26)) hx hb hts hX5_use_X0 hown K U 4 0 (by decide) rfl rfl 5 (by decide) (hts (.fieldLink RX5 246 "TrialSearch$Folds" "tested" "[I") (by decide +kernel)) rfl rfl dX5_use_35 ?_
      refine lv_iload_n hx hb dX5_use_38 rfl (lv_at hl 1 rfl) ?_
      obtain ⟨hi_9, hw⟩ := hw
      refine u_iald (k := 26) (v := (A 26 a0.toNatClampNeg)) hx hb K U rfl (by decide) rfl hi_9 rfl dX5_use_39 ?_
      refine lv_if_le (tgt := 46) hx hb dX5_use_40 (by decide) (fun c_10 => ?_) (fun c_10 => ?_)
      · have hw := hw.1 c_10
        refine lv_iload_n hx hb dX5_use_46 rfl (lv_at hl 2 rfl) ?_
        refine lv_if_ge (tgt := 61) hx hb dX5_use_47 (by decide) (fun c_11 => ?_) (fun c_11 => ?_)
        · have hw := hw.1 c_11
          refine lv_aload_n hx hb dX5_use_61 rfl (lv_at hl 0 rfl) ?_
          refine u_get (C := RX5) (T := TX5) (N := 4) (v := .ref (g.2.1 4)) hx hb hts hX5_use_X5 hown K U 0 4 (by decide) rfl rfl 3 (by decide) (hts (.fieldLink RX5 35 "TrialSearch" "parts" "LTrialSearch$Folds;") (by decide +kernel)) rfl rfl dX5_use_62 ?_
          refine lv_iload_n hx hb dX5_use_65 rfl (lv_at hl 1 rfl) ?_
          refine lv_iload_n hx hb dX5_use_66 rfl (lv_at hl 2 rfl) ?_
          refine u_ci (u_rV (As := [.int a0, .int a1]) (rest := []) (C := RX0) S K U 4 0 (by decide) rfl rfl (c_X0_choose hw) (cwV 2 hts gX5_use_X0_choose rfl rfl rfl (by decide +kernel) ⟨Nat.le_of_ble_eq_true rfl, Nat.le_of_ble_eq_true rfl⟩) rfl hl.1 rfl (Nat.le_of_ble_eq_true rfl) dX5_use_67 ⟨Nat.zero_le _, Nat.zero_le _⟩) U (fun r_12 A_13 B_14 H locs U9 hw => ?_)
          obtain ⟨eB, hw⟩ := hw
          rw [eB] at U9
          have U := U9
          exact u_iret hx hb hr hlocks U ⟨rfl, hw⟩ dX5_use_70
        · have hw := hw.2 c_11
          refine lv_aload_n hx hb dX5_use_50 rfl (lv_at hl 0 rfl) ?_
          refine u_get (C := RX5) (T := TX5) (N := 4) (v := .ref (g.2.1 4)) hx hb hts hX5_use_X5 hown K U 0 4 (by decide) rfl rfl 3 (by decide) (hts (.fieldLink RX5 35 "TrialSearch" "parts" "LTrialSearch$Folds;") (by decide +kernel)) rfl rfl dX5_use_51 ?_
          refine lv_iload_n hx hb dX5_use_54 rfl (lv_at hl 1 rfl) ?_
          refine u_ci (u_rV (As := [.int a0]) (rest := []) (C := RX0) S K U 4 0 (by decide) rfl rfl (c_X0_test hw) (cwV 1 hts gX5_use_X0_test rfl rfl rfl (by decide +kernel) ⟨Nat.le_of_ble_eq_true rfl, Nat.le_of_ble_eq_true rfl⟩) rfl hl.1 rfl (Nat.le_of_ble_eq_true rfl) dX5_use_55 ⟨Nat.zero_le _, Nat.zero_le _⟩) U (fun r_15 A_16 B_17 H locs U9 hw => ?_)
          obtain ⟨eB, hw⟩ := hw
          rw [eB] at U9
          have U := U9
          refine lv_goto (tgt := 70) hx hb dX5_use_58 (by decide) ?_
          exact u_iret hx hb hr hlocks U ⟨rfl, hw⟩ dX5_use_70
      · have hw := hw.2 c_10
        refine lv_bipush (v := -3) hx hb dX5_use_43 (by decide) ?_
        exact u_iret hx hb hr hlocks U ⟨rfl, hw⟩ dX5_use_45
    · have hw := hw.2 c_8
      refine lv_iconst (v := -1) hx hb dX5_use_29 (by decide) ?_
      exact u_iret hx hb hr hlocks U ⟨rfl, hw⟩ dX5_use_30
set_option maxHeartbeats 4000000 in
set_option maxRecDepth 100000 in
theorem c_X5_used {l : Launch} {g : uG} {a0 : Int32} {a1 : Int32} {a2 : Int32} {A : SA} {B : SB} {Q : Int32 → Prop} (hw : wp_X5_used a0 a1 a2 A B Q) : MI l yX5_used wsX5_used rmX5_used g A B [.ref (g.2.1 0), .int a0, .int a1, .int a2] (fun r A1 B1 => A1 = A ∧ B1 = B ∧ Q r ) := by
  refine u_of (cc := cX5_used) (maxL := 4) (ret := (some .int)) (by decide) rfl (Nat.le_of_ble_eq_true rfl) ?_
  intro p e s m below meth c ls C K U hl
  obtain ⟨hx, hb, hml, hown, hts, hr, hlocks⟩ := id C
  have S : CallFix p m c cX5_used 4 s ([.ref (g.2.1 0), .int a0, .int a1, .int a2] : List Value).toArray wsX5_used RX5 := ⟨hx, hb, hml, hown, hts⟩
  have hl : lv_has ls 4 [(0, .ref (g.2.1 0)), (1, .int a0), (2, .int a1), (3, .int a2)] := hl
  refine lv_aload_n hx hb dX5_used_0 rfl (lv_at hl 0 rfl) ?_
  refine lv_iload_n hx hb dX5_used_1 rfl (lv_at hl 1 rfl) ?_
  refine u_ci (u_rV (As := [.int a0]) (rest := []) (C := RX5) S K U 0 4 (by decide) rfl rfl (c_X5_isRow hw) (cwV 1 hts gX5_used_X5_isRow rfl rfl rfl (by decide +kernel) ⟨Nat.le_of_ble_eq_true rfl, Nat.le_of_ble_eq_true rfl⟩) rfl hl.1 rfl (Nat.le_of_ble_eq_true rfl) dX5_used_2 ⟨Nat.zero_le _, Nat.zero_le _⟩) U (fun r_1 A_2 B_3 H locs U9 hw => ?_)
  obtain ⟨eA, eB, hw⟩ := hw
  rw [eA, eB] at U9
  have U := U9
  refine lv_if_eq (tgt := 16) hx hb dX5_used_5 (by decide) (fun c_4 => ?_) (fun c_4 => ?_)
  · have hw := hw.1 c_4
    refine lv_iconst (v := -1) hx hb dX5_used_16 (by decide) ?_
    exact u_iret hx hb hr hlocks U ⟨rfl, rfl, hw⟩ dX5_used_17
  · have hw := hw.2 c_4
    refine lv_aload_n hx hb dX5_used_8 rfl (lv_at hl 0 rfl) ?_
    refine lv_iload_n hx hb dX5_used_9 rfl (lv_at hl 2 rfl) ?_
    refine u_ci (u_rV (As := [.int a1]) (rest := []) (C := RX5) S K U 0 4 (by decide) rfl rfl (c_X5_isOuter hw) (cwV 1 hts gX5_used_X5_isOuter rfl rfl rfl (by decide +kernel) ⟨Nat.le_of_ble_eq_true rfl, Nat.le_of_ble_eq_true rfl⟩) rfl hl.1 rfl (Nat.le_of_ble_eq_true rfl) dX5_used_10 ⟨Nat.zero_le _, Nat.zero_le _⟩) U (fun r_5 A_6 B_7 H locs U9 hw => ?_)
    obtain ⟨eA, eB, hw⟩ := hw
    rw [eA, eB] at U9
    have U := U9
    refine lv_if_ne (tgt := 18) hx hb dX5_used_13 (by decide) (fun c_8 => ?_) (fun c_8 => ?_)
    · have hw := hw.1 c_8
      refine lv_iload_n hx hb dX5_used_18 rfl (lv_at hl 3 rfl) ?_
      by_cases h_9 : a2 = 0
      · have hw := hw.1 h_9
        refine lv_tableIn (off := 25) (tgt := 44) hx hb dX5_used_19 (by rw [h_9]; decide) (by rw [h_9]; decide) (by rw [h_9]; rfl) (by decide) ?_
        refine lv_aload_n hx hb dX5_used_44 rfl (lv_at hl 0 rfl) ?_
        refine u_get (C := RX5) (T := TX5) (N := 4) (v := .ref (g.2.1 4)) hx hb hts hX5_used_X5 hown K U 0 4 (by decide) rfl rfl 3 (by decide) (hts (.fieldLink RX5 35 "TrialSearch" "parts" "LTrialSearch$Folds;") (by decide +kernel)) rfl rfl dX5_used_45 ?_
        refine lv_iload_n hx hb dX5_used_48 rfl (lv_at hl 1 rfl) ?_
        refine lv_iload_n hx hb dX5_used_49 rfl (lv_at hl 2 rfl) ?_
        refine u_ci (u_rV (As := [.int a0, .int a1]) (rest := []) (C := RX0) S K U 4 0 (by decide) rfl rfl (c_X0_trained hw) (cwV 2 hts gX5_used_X0_trained rfl rfl rfl (by decide +kernel) ⟨Nat.le_of_ble_eq_true rfl, Nat.le_of_ble_eq_true rfl⟩) rfl hl.1 rfl (Nat.le_of_ble_eq_true rfl) dX5_used_50 ⟨Nat.zero_le _, Nat.zero_le _⟩) U (fun r_10 A_11 B_12 H locs U9 hw => ?_)
        obtain ⟨eA, eB, hw⟩ := hw
        rw [eA, eB] at U9
        have U := U9
        exact u_iret hx hb hr hlocks U ⟨rfl, rfl, hw⟩ dX5_used_53
      · have hw := hw.2 h_9
        by_cases h_13 : a2 = 1
        · have hw := hw.1 h_13
          refine lv_tableIn (off := 35) (tgt := 54) hx hb dX5_used_19 (by rw [h_13]; decide) (by rw [h_13]; decide) (by rw [h_13]; rfl) (by decide) ?_
          refine lv_aload_n hx hb dX5_used_54 rfl (lv_at hl 0 rfl) ?_
          refine u_get (C := RX5) (T := TX5) (N := 4) (v := .ref (g.2.1 4)) hx hb hts hX5_used_X5 hown K U 0 4 (by decide) rfl rfl 3 (by decide) (hts (.fieldLink RX5 35 "TrialSearch" "parts" "LTrialSearch$Folds;") (by decide +kernel)) rfl rfl dX5_used_55 ?_
          refine lv_iload_n hx hb dX5_used_58 rfl (lv_at hl 1 rfl) ?_
          refine lv_iload_n hx hb dX5_used_59 rfl (lv_at hl 2 rfl) ?_
          refine u_ci (u_rV (As := [.int a0, .int a1]) (rest := []) (C := RX0) S K U 4 0 (by decide) rfl rfl (c_X0_validated hw) (cwV 2 hts gX5_used_X0_validated rfl rfl rfl (by decide +kernel) ⟨Nat.le_of_ble_eq_true rfl, Nat.le_of_ble_eq_true rfl⟩) rfl hl.1 rfl (Nat.le_of_ble_eq_true rfl) dX5_used_60 ⟨Nat.zero_le _, Nat.zero_le _⟩) U (fun r_14 A_15 B_16 H locs U9 hw => ?_)
          obtain ⟨eA, eB, hw⟩ := hw
          rw [eA, eB] at U9
          have U := U9
          exact u_iret hx hb hr hlocks U ⟨rfl, rfl, hw⟩ dX5_used_63
        · have hw := hw.2 h_13
          by_cases h_17 : a2 = 2
          · have hw := hw.1 h_17
            refine lv_tableIn (off := 45) (tgt := 64) hx hb dX5_used_19 (by rw [h_17]; decide) (by rw [h_17]; decide) (by rw [h_17]; rfl) (by decide) ?_
            refine lv_aload_n hx hb dX5_used_64 rfl (lv_at hl 0 rfl) ?_
            refine u_get (C := RX5) (T := TX5) (N := 4) (v := .ref (g.2.1 4)) hx hb hts hX5_used_X5 hown K U 0 4 (by decide) rfl rfl 3 (by decide) (hts (.fieldLink RX5 35 "TrialSearch" "parts" "LTrialSearch$Folds;") (by decide +kernel)) rfl rfl dX5_used_65 ?_
            refine lv_iload_n hx hb dX5_used_68 rfl (lv_at hl 1 rfl) ?_
            refine lv_iload_n hx hb dX5_used_69 rfl (lv_at hl 2 rfl) ?_
            refine u_ci (u_rV (As := [.int a0, .int a1]) (rest := []) (C := RX0) S K U 4 0 (by decide) rfl rfl (c_X0_testing hw) (cwV 2 hts gX5_used_X0_testing rfl rfl rfl (by decide +kernel) ⟨Nat.le_of_ble_eq_true rfl, Nat.le_of_ble_eq_true rfl⟩) rfl hl.1 rfl (Nat.le_of_ble_eq_true rfl) dX5_used_70 ⟨Nat.zero_le _, Nat.zero_le _⟩) U (fun r_18 A_19 B_20 H locs U9 hw => ?_)
            obtain ⟨eA, eB, hw⟩ := hw
            rw [eA, eB] at U9
            have U := U9
            exact u_iret hx hb hr hlocks U ⟨rfl, rfl, hw⟩ dX5_used_73
          · have hw := hw.2 h_17
            have nh_9 := lv_neT (a := 0) h_9 (by decide)
            have nh_13 := lv_neT (a := 1) h_13 (by decide)
            have nh_17 := lv_neT (a := 2) h_17 (by decide)
            refine lv_tableOut (tgt := 74) hx hb dX5_used_19 (by omega) (by decide) ?_
            refine lv_iconst (v := -1) hx hb dX5_used_74 (by decide) ?_
            exact u_iret hx hb hr hlocks U ⟨rfl, rfl, hw⟩ dX5_used_75
    · have hw := hw.2 c_8
      refine lv_iconst (v := -1) hx hb dX5_used_16 (by decide) ?_
      exact u_iret hx hb hr hlocks U ⟨rfl, rfl, hw⟩ dX5_used_17
