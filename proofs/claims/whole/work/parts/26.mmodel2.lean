set_option maxHeartbeats 4000000 in
set_option maxRecDepth 100000 in
theorem t_X6_distanceOf_19 {p : Program} {l : Launch} {e : Env} {s : State} {m : MethodId} {args : Array Value} {below : List Frame} {meth : Method} {c : Code} {g : uG} {E124 : Int32 → Prop} {Q : Int32 → SA → Prop} {A : SA} {B : SB} (C : uC p s m args meth c cX6_distanceOf 10 RX6 wsX6_distanceOf (some .int)) (K : UK g s) :
    ∀ {n : Nat} {v5 : Int32} {v6 : Int32} {H : Heap} {locs : List Loc} {ls : Array Slot}, wp_X6_distanceOf_19 E124 Q A B n v5 v6 → UU g A B s.heap H locs → lv_has ls 10 [(0, .ref (g.2.1 5)), (5, .int v5), (6, .int v6)] → (∀ (v5 : Int32) (H : Heap) (locs : List Loc) (ls : Array Slot), UU g A B s.heap H locs → lv_has ls 10 [(5, .int v5)] → E124 v5 → W p l e rmX6_distanceOf s m args below meth c H locs 0 0 (MQ below (uQi g (fun r A1 B1 => B1 = B ∧ Q r A1 )) args s 0 0 (FA g)) (F0 m 124 ls [])) → W p l e rmX6_distanceOf s m args below meth c H locs 0 0 (MQ below (uQi g (fun r A1 B1 => B1 = B ∧ Q r A1 )) args s 0 0 (FA g)) (F0 m 19 ls []) := by
  obtain ⟨hx, hb, hml, hown, hts, hr, hlocks⟩ := id C
  have S : CallFix p m c cX6_distanceOf 10 s args wsX6_distanceOf RX6 := ⟨hx, hb, hml, hown, hts⟩
  intro n
  induction n with
  | zero => intro _ _ _ _ _ hw; exact False.elim hw
  | succ n ih =>
    intro v5 v6 H locs ls hw U hl h124
    refine lv_iload hx hb dX6_distanceOf_19 (lv_at hl 2 rfl) ?_
    refine lv_aload_n hx hb dX6_distanceOf_21 rfl (lv_at hl 0 rfl) ?_
    refine u_get (C := RX6) (T := TX6) (N := 31) (v := .int (A 5 0)) hx hb hts hX6_distanceOf_X6 hown K U 5 5 (by decide) rfl rfl 0 (by decide) (hts (.fieldLink RX6 86 "TrialSearchModel" "names" "I") (by decide +kernel)) rfl rfl dX6_distanceOf_22 ?_
    refine lv_icmp_ge (tgt := 124) hx hb dX6_distanceOf_25 (by decide) (fun c_7 => ?_) (fun c_7 => ?_)
    · have hw := hw.1 c_7
      exact h124 _ _ _ _ U (lv_sub hl [1] rfl) hw
    · have hw := hw.2 c_7
      refine lv_aload_n hx hb dX6_distanceOf_28 rfl (lv_at hl 0 rfl) ?_
      refine u_get (C := RX6) (T := TX6) (N := 31) (v := .ref (g.2.1 33)) hx hb hts hX6_distanceOf_X6 hown K U 5 5 (by decide) rfl rfl 5 (by decide) (hts (.fieldLink RX6 32 "TrialSearchModel" "values" "[I") (by decide +kernel)) rfl rfl dX6_distanceOf_29 ?_
      refine lv_iload hx hb dX6_distanceOf_32 (lv_at hl 2 rfl) ?_
      obtain ⟨hi_8, hw⟩ := hw
      refine u_iald (k := 33) (v := (A 33 v6.toNatClampNeg)) hx hb K U rfl (by decide) rfl hi_8 rfl dX6_distanceOf_34 ?_
      refine lv_topi (fun x_9 ex_9 => ?_)
      have hw := hw x_9 ex_9
      refine lv_istore (lv' := [(7, .int x_9), (0, .ref (g.2.1 5)), (5, .int v5), (6, .int v6)]) hx hb dX6_distanceOf_35 hl (by decide) rfl (fun ls hl => ?_)
      refine lv_aload_n hx hb dX6_distanceOf_37 rfl (lv_at hl 1 rfl) ?_
      refine u_get (C := RX6) (T := TX6) (N := 31) (v := .ref (g.2.1 33)) hx hb hts hX6_distanceOf_X6 hown K U 5 5 (by decide) rfl rfl 5 (by decide) (hts (.fieldLink RX6 32 "TrialSearchModel" "values" "[I") (by decide +kernel)) rfl rfl dX6_distanceOf_38 ?_
      refine lv_bipush (v := 8) hx hb dX6_distanceOf_41 (by decide) ?_
      refine lv_iload hx hb dX6_distanceOf_43 (lv_at hl 3 rfl) ?_
      refine lv_iadd hx hb dX6_distanceOf_45 ?_
      refine lv_topi (fun x_10 ex_10 => ?_)
      have hw := hw x_10 ex_10
      obtain ⟨hi_11, hw⟩ := hw
      refine u_iald (k := 33) (v := (A 33 x_10.toNatClampNeg)) hx hb K U rfl (by decide) rfl hi_11 rfl dX6_distanceOf_46 ?_
      refine lv_topi (fun x_12 ex_12 => ?_)
      have hw := hw x_12 ex_12
      refine lv_istore (lv' := [(8, .int x_12), (7, .int x_9), (0, .ref (g.2.1 5)), (5, .int v5), (6, .int v6)]) hx hb dX6_distanceOf_47 hl (by decide) rfl (fun ls hl => ?_)
      refine lv_iload hx hb dX6_distanceOf_49 (lv_at hl 1 rfl) ?_
      refine lv_iload hx hb dX6_distanceOf_51 (lv_at hl 0 rfl) ?_
      refine lv_icmp_le (tgt := 64) hx hb dX6_distanceOf_53 (by decide) (fun c_13 => ?_) (fun c_13 => ?_)
      · have hw := hw.1 c_13
        refine lv_iload hx hb dX6_distanceOf_64 (lv_at hl 0 rfl) ?_
        refine lv_iload hx hb dX6_distanceOf_66 (lv_at hl 1 rfl) ?_
        refine lv_isub hx hb dX6_distanceOf_68 ?_
        refine lv_topi (fun x_14 ex_14 => ?_)
        have hw := hw x_14 ex_14
        refine lv_istore (lv' := [(9, .int x_14), (8, .int x_12), (7, .int x_9), (0, .ref (g.2.1 5)), (5, .int v5), (6, .int v6)]) hx hb dX6_distanceOf_69 hl (by decide) rfl (fun ls hl => ?_)
        refine lv_iload hx hb dX6_distanceOf_71 (lv_at hl 4 rfl) ?_
        refine lv_iload hx hb dX6_distanceOf_73 (lv_at hl 2 rfl) ?_
        refine lv_if_ge (tgt := 87) hx hb dX6_distanceOf_75 (by decide) (fun c_15 => ?_) (fun c_15 => ?_)
        · have hw := hw.1 c_15
          refine lv_iload hx hb dX6_distanceOf_87 (lv_at hl 2 rfl) ?_
          refine lv_if_lt (tgt := 97) hx hb dX6_distanceOf_89 (by decide) (fun c_16 => ?_) (fun c_16 => ?_)
          · have hw := hw.1 c_16
            refine lv_bipush (v := 30) hx hb dX6_distanceOf_97 (by decide) ?_
            refine lv_goto (tgt := 115) hx hb dX6_distanceOf_99 (by decide) ?_
            refine lv_iadd hx hb dX6_distanceOf_115 ?_
            refine lv_topi (fun x_17 ex_17 => ?_)
            have hw := hw x_17 ex_17
            refine lv_istore (lv' := [(5, .int x_17), (9, .int x_14), (8, .int x_12), (7, .int x_9), (0, .ref (g.2.1 5)), (6, .int v6)]) hx hb dX6_distanceOf_116 hl (by decide) rfl (fun ls hl => ?_)
            obtain ⟨v6_18, ev6_18⟩ : ∃ y : Int32, y = v6 + 1 := ⟨_, rfl⟩
            have hw := hw v6_18 ev6_18
            refine lv_iinc (v := v6_18) (lv' := [(6, .int v6_18), (5, .int x_17), (9, .int x_14), (8, .int x_12), (7, .int x_9), (0, .ref (g.2.1 5))]) hx hb dX6_distanceOf_118 hl (k := 5) rfl (by rw [ev6_18]; rfl) (by decide) rfl (fun ls hl => ?_)
            refine lv_goto (tgt := 19) hx hb dX6_distanceOf_121 (by decide) ?_
            exact ih hw U (lv_sub hl [5, 1, 0] rfl) h124
          · have hw := hw.2 c_16
            refine lv_iload hx hb dX6_distanceOf_92 (lv_at hl 1 rfl) ?_
            refine lv_if_ge (tgt := 102) hx hb dX6_distanceOf_94 (by decide) (fun c_19 => ?_) (fun c_19 => ?_)
            · have hw := hw.1 c_19
              refine lv_iload hx hb dX6_distanceOf_102 (lv_at hl 0 rfl) ?_
              refine lv_bipush (v := 30) hx hb dX6_distanceOf_104 (by decide) ?_
              refine lv_imul hx hb dX6_distanceOf_106 ?_
              refine lv_aload_n hx hb dX6_distanceOf_107 rfl (lv_at hl 3 rfl) ?_
              refine u_get (C := RX6) (T := TX6) (N := 31) (v := .ref (g.2.1 29)) hx hb hts hX6_distanceOf_X6 hown K U 5 5 (by decide) rfl rfl 1 (by decide) (hts (.fieldLink RX6 18 "TrialSearchModel" "many" "[I") (by decide +kernel)) rfl rfl dX6_distanceOf_108 ?_
              refine lv_iload hx hb dX6_distanceOf_111 (lv_at hl 5 rfl) ?_
              obtain ⟨hi_20, hw⟩ := hw
              refine u_iald (k := 29) (v := (A 29 v6.toNatClampNeg)) hx hb K U rfl (by decide) rfl hi_20 rfl dX6_distanceOf_113 ?_
              obtain ⟨hz_21, hw⟩ := hw
              refine lv_idiv hx hb dX6_distanceOf_114 hz_21 ?_
              refine lv_iadd hx hb dX6_distanceOf_115 ?_
              refine lv_topi (fun x_22 ex_22 => ?_)
              have hw := hw x_22 ex_22
              refine lv_istore (lv' := [(5, .int x_22), (9, .int x_14), (8, .int x_12), (7, .int x_9), (0, .ref (g.2.1 5)), (6, .int v6)]) hx hb dX6_distanceOf_116 hl (by decide) rfl (fun ls hl => ?_)
              obtain ⟨v6_23, ev6_23⟩ : ∃ y : Int32, y = v6 + 1 := ⟨_, rfl⟩
              have hw := hw v6_23 ev6_23
              refine lv_iinc (v := v6_23) (lv' := [(6, .int v6_23), (5, .int x_22), (9, .int x_14), (8, .int x_12), (7, .int x_9), (0, .ref (g.2.1 5))]) hx hb dX6_distanceOf_118 hl (k := 5) rfl (by rw [ev6_23]; rfl) (by decide) rfl (fun ls hl => ?_)
              refine lv_goto (tgt := 19) hx hb dX6_distanceOf_121 (by decide) ?_
              exact ih hw U (lv_sub hl [5, 1, 0] rfl) h124
            · have hw := hw.2 c_19
              refine lv_bipush (v := 30) hx hb dX6_distanceOf_97 (by decide) ?_
              refine lv_goto (tgt := 115) hx hb dX6_distanceOf_99 (by decide) ?_
              refine lv_iadd hx hb dX6_distanceOf_115 ?_
              refine lv_topi (fun x_24 ex_24 => ?_)
              have hw := hw x_24 ex_24
              refine lv_istore (lv' := [(5, .int x_24), (9, .int x_14), (8, .int x_12), (7, .int x_9), (0, .ref (g.2.1 5)), (6, .int v6)]) hx hb dX6_distanceOf_116 hl (by decide) rfl (fun ls hl => ?_)
              obtain ⟨v6_25, ev6_25⟩ : ∃ y : Int32, y = v6 + 1 := ⟨_, rfl⟩
              have hw := hw v6_25 ev6_25
              refine lv_iinc (v := v6_25) (lv' := [(6, .int v6_25), (5, .int x_24), (9, .int x_14), (8, .int x_12), (7, .int x_9), (0, .ref (g.2.1 5))]) hx hb dX6_distanceOf_118 hl (k := 5) rfl (by rw [ev6_25]; rfl) (by decide) rfl (fun ls hl => ?_)
              refine lv_goto (tgt := 19) hx hb dX6_distanceOf_121 (by decide) ?_
              exact ih hw U (lv_sub hl [5, 1, 0] rfl) h124
        · have hw := hw.2 c_15
          refine lv_iload hx hb dX6_distanceOf_78 (lv_at hl 1 rfl) ?_
          refine lv_if_ge (tgt := 87) hx hb dX6_distanceOf_80 (by decide) (fun c_26 => ?_) (fun c_26 => ?_)
          · have hw := hw.1 c_26
            refine lv_iload hx hb dX6_distanceOf_87 (lv_at hl 2 rfl) ?_
            refine lv_if_lt (tgt := 97) hx hb dX6_distanceOf_89 (by decide) (fun c_27 => ?_) (fun c_27 => ?_)
            · have hw := hw.1 c_27
              refine lv_bipush (v := 30) hx hb dX6_distanceOf_97 (by decide) ?_
              refine lv_goto (tgt := 115) hx hb dX6_distanceOf_99 (by decide) ?_
              refine lv_iadd hx hb dX6_distanceOf_115 ?_
              refine lv_topi (fun x_28 ex_28 => ?_)
              have hw := hw x_28 ex_28
              refine lv_istore (lv' := [(5, .int x_28), (9, .int x_14), (8, .int x_12), (7, .int x_9), (0, .ref (g.2.1 5)), (6, .int v6)]) hx hb dX6_distanceOf_116 hl (by decide) rfl (fun ls hl => ?_)
              obtain ⟨v6_29, ev6_29⟩ : ∃ y : Int32, y = v6 + 1 := ⟨_, rfl⟩
              have hw := hw v6_29 ev6_29
              refine lv_iinc (v := v6_29) (lv' := [(6, .int v6_29), (5, .int x_28), (9, .int x_14), (8, .int x_12), (7, .int x_9), (0, .ref (g.2.1 5))]) hx hb dX6_distanceOf_118 hl (k := 5) rfl (by rw [ev6_29]; rfl) (by decide) rfl (fun ls hl => ?_)
              refine lv_goto (tgt := 19) hx hb dX6_distanceOf_121 (by decide) ?_
              exact ih hw U (lv_sub hl [5, 1, 0] rfl) h124
            · have hw := hw.2 c_27
              refine lv_iload hx hb dX6_distanceOf_92 (lv_at hl 1 rfl) ?_
              refine lv_if_ge (tgt := 102) hx hb dX6_distanceOf_94 (by decide) (fun c_30 => ?_) (fun c_30 => ?_)
              · have hw := hw.1 c_30
                refine lv_iload hx hb dX6_distanceOf_102 (lv_at hl 0 rfl) ?_
                refine lv_bipush (v := 30) hx hb dX6_distanceOf_104 (by decide) ?_
                refine lv_imul hx hb dX6_distanceOf_106 ?_
                refine lv_aload_n hx hb dX6_distanceOf_107 rfl (lv_at hl 3 rfl) ?_
                refine u_get (C := RX6) (T := TX6) (N := 31) (v := .ref (g.2.1 29)) hx hb hts hX6_distanceOf_X6 hown K U 5 5 (by decide) rfl rfl 1 (by decide) (hts (.fieldLink RX6 18 "TrialSearchModel" "many" "[I") (by decide +kernel)) rfl rfl dX6_distanceOf_108 ?_
                refine lv_iload hx hb dX6_distanceOf_111 (lv_at hl 5 rfl) ?_
                obtain ⟨hi_31, hw⟩ := hw
                refine u_iald (k := 29) (v := (A 29 v6.toNatClampNeg)) hx hb K U rfl (by decide) rfl hi_31 rfl dX6_distanceOf_113 ?_
                obtain ⟨hz_32, hw⟩ := hw
                refine lv_idiv hx hb dX6_distanceOf_114 hz_32 ?_
                refine lv_iadd hx hb dX6_distanceOf_115 ?_
                refine lv_topi (fun x_33 ex_33 => ?_)
                have hw := hw x_33 ex_33
                refine lv_istore (lv' := [(5, .int x_33), (9, .int x_14), (8, .int x_12), (7, .int x_9), (0, .ref (g.2.1 5)), (6, .int v6)]) hx hb dX6_distanceOf_116 hl (by decide) rfl (fun ls hl => ?_)
                obtain ⟨v6_34, ev6_34⟩ : ∃ y : Int32, y = v6 + 1 := ⟨_, rfl⟩
                have hw := hw v6_34 ev6_34
                refine lv_iinc (v := v6_34) (lv' := [(6, .int v6_34), (5, .int x_33), (9, .int x_14), (8, .int x_12), (7, .int x_9), (0, .ref (g.2.1 5))]) hx hb dX6_distanceOf_118 hl (k := 5) rfl (by rw [ev6_34]; rfl) (by decide) rfl (fun ls hl => ?_)
                refine lv_goto (tgt := 19) hx hb dX6_distanceOf_121 (by decide) ?_
                exact ih hw U (lv_sub hl [5, 1, 0] rfl) h124
              · have hw := hw.2 c_30
                refine lv_bipush (v := 30) hx hb dX6_distanceOf_97 (by decide) ?_
                refine lv_goto (tgt := 115) hx hb dX6_distanceOf_99 (by decide) ?_
                refine lv_iadd hx hb dX6_distanceOf_115 ?_
                refine lv_topi (fun x_35 ex_35 => ?_)
                have hw := hw x_35 ex_35
                refine lv_istore (lv' := [(5, .int x_35), (9, .int x_14), (8, .int x_12), (7, .int x_9), (0, .ref (g.2.1 5)), (6, .int v6)]) hx hb dX6_distanceOf_116 hl (by decide) rfl (fun ls hl => ?_)
                obtain ⟨v6_36, ev6_36⟩ : ∃ y : Int32, y = v6 + 1 := ⟨_, rfl⟩
                have hw := hw v6_36 ev6_36
                refine lv_iinc (v := v6_36) (lv' := [(6, .int v6_36), (5, .int x_35), (9, .int x_14), (8, .int x_12), (7, .int x_9), (0, .ref (g.2.1 5))]) hx hb dX6_distanceOf_118 hl (k := 5) rfl (by rw [ev6_36]; rfl) (by decide) rfl (fun ls hl => ?_)
                refine lv_goto (tgt := 19) hx hb dX6_distanceOf_121 (by decide) ?_
                exact ih hw U (lv_sub hl [5, 1, 0] rfl) h124
          · have hw := hw.2 c_26
            refine lv_iconst (v := 0) hx hb dX6_distanceOf_83 (by decide) ?_
            refine lv_goto (tgt := 115) hx hb dX6_distanceOf_84 (by decide) ?_
            refine lv_iadd hx hb dX6_distanceOf_115 ?_
            refine lv_topi (fun x_37 ex_37 => ?_)
            have hw := hw x_37 ex_37
            refine lv_istore (lv' := [(5, .int x_37), (9, .int x_14), (8, .int x_12), (7, .int x_9), (0, .ref (g.2.1 5)), (6, .int v6)]) hx hb dX6_distanceOf_116 hl (by decide) rfl (fun ls hl => ?_)
            obtain ⟨v6_38, ev6_38⟩ : ∃ y : Int32, y = v6 + 1 := ⟨_, rfl⟩
            have hw := hw v6_38 ev6_38
            refine lv_iinc (v := v6_38) (lv' := [(6, .int v6_38), (5, .int x_37), (9, .int x_14), (8, .int x_12), (7, .int x_9), (0, .ref (g.2.1 5))]) hx hb dX6_distanceOf_118 hl (k := 5) rfl (by rw [ev6_38]; rfl) (by decide) rfl (fun ls hl => ?_)
            refine lv_goto (tgt := 19) hx hb dX6_distanceOf_121 (by decide) ?_
            exact ih hw U (lv_sub hl [5, 1, 0] rfl) h124
      · have hw := hw.2 c_13
        refine lv_iload hx hb dX6_distanceOf_56 (lv_at hl 1 rfl) ?_
        refine lv_iload hx hb dX6_distanceOf_58 (lv_at hl 0 rfl) ?_
        refine lv_isub hx hb dX6_distanceOf_60 ?_
        refine lv_goto (tgt := 69) hx hb dX6_distanceOf_61 (by decide) ?_
        refine lv_topi (fun x_39 ex_39 => ?_)
        have hw := hw x_39 ex_39
        refine lv_istore (lv' := [(9, .int x_39), (8, .int x_12), (7, .int x_9), (0, .ref (g.2.1 5)), (5, .int v5), (6, .int v6)]) hx hb dX6_distanceOf_69 hl (by decide) rfl (fun ls hl => ?_)
        refine lv_iload hx hb dX6_distanceOf_71 (lv_at hl 4 rfl) ?_
        refine lv_iload hx hb dX6_distanceOf_73 (lv_at hl 2 rfl) ?_
        refine lv_if_ge (tgt := 87) hx hb dX6_distanceOf_75 (by decide) (fun c_40 => ?_) (fun c_40 => ?_)
        · have hw := hw.1 c_40
          refine lv_iload hx hb dX6_distanceOf_87 (lv_at hl 2 rfl) ?_
          refine lv_if_lt (tgt := 97) hx hb dX6_distanceOf_89 (by decide) (fun c_41 => ?_) (fun c_41 => ?_)
          · have hw := hw.1 c_41
            refine lv_bipush (v := 30) hx hb dX6_distanceOf_97 (by decide) ?_
            refine lv_goto (tgt := 115) hx hb dX6_distanceOf_99 (by decide) ?_
            refine lv_iadd hx hb dX6_distanceOf_115 ?_
            refine lv_topi (fun x_42 ex_42 => ?_)
            have hw := hw x_42 ex_42
            refine lv_istore (lv' := [(5, .int x_42), (9, .int x_39), (8, .int x_12), (7, .int x_9), (0, .ref (g.2.1 5)), (6, .int v6)]) hx hb dX6_distanceOf_116 hl (by decide) rfl (fun ls hl => ?_)
            obtain ⟨v6_43, ev6_43⟩ : ∃ y : Int32, y = v6 + 1 := ⟨_, rfl⟩
            have hw := hw v6_43 ev6_43
            refine lv_iinc (v := v6_43) (lv' := [(6, .int v6_43), (5, .int x_42), (9, .int x_39), (8, .int x_12), (7, .int x_9), (0, .ref (g.2.1 5))]) hx hb dX6_distanceOf_118 hl (k := 5) rfl (by rw [ev6_43]; rfl) (by decide) rfl (fun ls hl => ?_)
            refine lv_goto (tgt := 19) hx hb dX6_distanceOf_121 (by decide) ?_
            exact ih hw U (lv_sub hl [5, 1, 0] rfl) h124
          · have hw := hw.2 c_41
            refine lv_iload hx hb dX6_distanceOf_92 (lv_at hl 1 rfl) ?_
            refine lv_if_ge (tgt := 102) hx hb dX6_distanceOf_94 (by decide) (fun c_44 => ?_) (fun c_44 => ?_)
            · have hw := hw.1 c_44
              refine lv_iload hx hb dX6_distanceOf_102 (lv_at hl 0 rfl) ?_
              refine lv_bipush (v := 30) hx hb dX6_distanceOf_104 (by decide) ?_
              refine lv_imul hx hb dX6_distanceOf_106 ?_
              refine lv_aload_n hx hb dX6_distanceOf_107 rfl (lv_at hl 3 rfl) ?_
              refine u_get (C := RX6) (T := TX6) (N := 31) (v := .ref (g.2.1 29)) hx hb hts hX6_distanceOf_X6 hown K U 5 5 (by decide) rfl rfl 1 (by decide) (hts (.fieldLink RX6 18 "TrialSearchModel" "many" "[I") (by decide +kernel)) rfl rfl dX6_distanceOf_108 ?_
              refine lv_iload hx hb dX6_distanceOf_111 (lv_at hl 5 rfl) ?_
              obtain ⟨hi_45, hw⟩ := hw
              refine u_iald (k := 29) (v := (A 29 v6.toNatClampNeg)) hx hb K U rfl (by decide) rfl hi_45 rfl dX6_distanceOf_113 ?_
              obtain ⟨hz_46, hw⟩ := hw
              refine lv_idiv hx hb dX6_distanceOf_114 hz_46 ?_
              refine lv_iadd hx hb dX6_distanceOf_115 ?_
              refine lv_topi (fun x_47 ex_47 => ?_)
              have hw := hw x_47 ex_47
              refine lv_istore (lv' := [(5, .int x_47), (9, .int x_39), (8, .int x_12), (7, .int x_9), (0, .ref (g.2.1 5)), (6, .int v6)]) hx hb dX6_distanceOf_116 hl (by decide) rfl (fun ls hl => ?_)
              obtain ⟨v6_48, ev6_48⟩ : ∃ y : Int32, y = v6 + 1 := ⟨_, rfl⟩
              have hw := hw v6_48 ev6_48
              refine lv_iinc (v := v6_48) (lv' := [(6, .int v6_48), (5, .int x_47), (9, .int x_39), (8, .int x_12), (7, .int x_9), (0, .ref (g.2.1 5))]) hx hb dX6_distanceOf_118 hl (k := 5) rfl (by rw [ev6_48]; rfl) (by decide) rfl (fun ls hl => ?_)
              refine lv_goto (tgt := 19) hx hb dX6_distanceOf_121 (by decide) ?_
              exact ih hw U (lv_sub hl [5, 1, 0] rfl) h124
            · have hw := hw.2 c_44
              refine lv_bipush (v := 30) hx hb dX6_distanceOf_97 (by decide) ?_
              refine lv_goto (tgt := 115) hx hb dX6_distanceOf_99 (by decide) ?_
              refine lv_iadd hx hb dX6_distanceOf_115 ?_
              refine lv_topi (fun x_49 ex_49 => ?_)
              have hw := hw x_49 ex_49
              refine lv_istore (lv' := [(5, .int x_49), (9, .int x_39), (8, .int x_12), (7, .int x_9), (0, .ref (g.2.1 5)), (6, .int v6)]) hx hb dX6_distanceOf_116 hl (by decide) rfl (fun ls hl => ?_)
              obtain ⟨v6_50, ev6_50⟩ : ∃ y : Int32, y = v6 + 1 := ⟨_, rfl⟩
              have hw := hw v6_50 ev6_50
              refine lv_iinc (v := v6_50) (lv' := [(6, .int v6_50), (5, .int x_49), (9, .int x_39), (8, .int x_12), (7, .int x_9), (0, .ref (g.2.1 5))]) hx hb dX6_distanceOf_118 hl (k := 5) rfl (by rw [ev6_50]; rfl) (by decide) rfl (fun ls hl => ?_)
              refine lv_goto (tgt := 19) hx hb dX6_distanceOf_121 (by decide) ?_
              exact ih hw U (lv_sub hl [5, 1, 0] rfl) h124
        · have hw := hw.2 c_40
          refine lv_iload hx hb dX6_distanceOf_78 (lv_at hl 1 rfl) ?_
          refine lv_if_ge (tgt := 87) hx hb dX6_distanceOf_80 (by decide) (fun c_51 => ?_) (fun c_51 => ?_)
          · have hw := hw.1 c_51
            refine lv_iload hx hb dX6_distanceOf_87 (lv_at hl 2 rfl) ?_
            refine lv_if_lt (tgt := 97) hx hb dX6_distanceOf_89 (by decide) (fun c_52 => ?_) (fun c_52 => ?_)
            · have hw := hw.1 c_52
              refine lv_bipush (v := 30) hx hb dX6_distanceOf_97 (by decide) ?_
              refine lv_goto (tgt := 115) hx hb dX6_distanceOf_99 (by decide) ?_
              refine lv_iadd hx hb dX6_distanceOf_115 ?_
              refine lv_topi (fun x_53 ex_53 => ?_)
              have hw := hw x_53 ex_53
              refine lv_istore (lv' := [(5, .int x_53), (9, .int x_39), (8, .int x_12), (7, .int x_9), (0, .ref (g.2.1 5)), (6, .int v6)]) hx hb dX6_distanceOf_116 hl (by decide) rfl (fun ls hl => ?_)
              obtain ⟨v6_54, ev6_54⟩ : ∃ y : Int32, y = v6 + 1 := ⟨_, rfl⟩
              have hw := hw v6_54 ev6_54
              refine lv_iinc (v := v6_54) (lv' := [(6, .int v6_54), (5, .int x_53), (9, .int x_39), (8, .int x_12), (7, .int x_9), (0, .ref (g.2.1 5))]) hx hb dX6_distanceOf_118 hl (k := 5) rfl (by rw [ev6_54]; rfl) (by decide) rfl (fun ls hl => ?_)
              refine lv_goto (tgt := 19) hx hb dX6_distanceOf_121 (by decide) ?_
              exact ih hw U (lv_sub hl [5, 1, 0] rfl) h124
            · have hw := hw.2 c_52
              refine lv_iload hx hb dX6_distanceOf_92 (lv_at hl 1 rfl) ?_
              refine lv_if_ge (tgt := 102) hx hb dX6_distanceOf_94 (by decide) (fun c_55 => ?_) (fun c_55 => ?_)
              · have hw := hw.1 c_55
                refine lv_iload hx hb dX6_distanceOf_102 (lv_at hl 0 rfl) ?_
                refine lv_bipush (v := 30) hx hb dX6_distanceOf_104 (by decide) ?_
                refine lv_imul hx hb dX6_distanceOf_106 ?_
                refine lv_aload_n hx hb dX6_distanceOf_107 rfl (lv_at hl 3 rfl) ?_
                refine u_get (C := RX6) (T := TX6) (N := 31) (v := .ref (g.2.1 29)) hx hb hts hX6_distanceOf_X6 hown K U 5 5 (by decide) rfl rfl 1 (by decide) (hts (.fieldLink RX6 18 "TrialSearchModel" "many" "[I") (by decide +kernel)) rfl rfl dX6_distanceOf_108 ?_
                refine lv_iload hx hb dX6_distanceOf_111 (lv_at hl 5 rfl) ?_
                obtain ⟨hi_56, hw⟩ := hw
                refine u_iald (k := 29) (v := (A 29 v6.toNatClampNeg)) hx hb K U rfl (by decide) rfl hi_56 rfl dX6_distanceOf_113 ?_
                obtain ⟨hz_57, hw⟩ := hw
                refine lv_idiv hx hb dX6_distanceOf_114 hz_57 ?_
                refine lv_iadd hx hb dX6_distanceOf_115 ?_
                refine lv_topi (fun x_58 ex_58 => ?_)
                have hw := hw x_58 ex_58
                refine lv_istore (lv' := [(5, .int x_58), (9, .int x_39), (8, .int x_12), (7, .int x_9), (0, .ref (g.2.1 5)), (6, .int v6)]) hx hb dX6_distanceOf_116 hl (by decide) rfl (fun ls hl => ?_)
                obtain ⟨v6_59, ev6_59⟩ : ∃ y : Int32, y = v6 + 1 := ⟨_, rfl⟩
                have hw := hw v6_59 ev6_59
                refine lv_iinc (v := v6_59) (lv' := [(6, .int v6_59), (5, .int x_58), (9, .int x_39), (8, .int x_12), (7, .int x_9), (0, .ref (g.2.1 5))]) hx hb dX6_distanceOf_118 hl (k := 5) rfl (by rw [ev6_59]; rfl) (by decide) rfl (fun ls hl => ?_)
                refine lv_goto (tgt := 19) hx hb dX6_distanceOf_121 (by decide) ?_
                exact ih hw U (lv_sub hl [5, 1, 0] rfl) h124
              · have hw := hw.2 c_55
                refine lv_bipush (v := 30) hx hb dX6_distanceOf_97 (by decide) ?_
                refine lv_goto (tgt := 115) hx hb dX6_distanceOf_99 (by decide) ?_
                refine lv_iadd hx hb dX6_distanceOf_115 ?_
                refine lv_topi (fun x_60 ex_60 => ?_)
                have hw := hw x_60 ex_60
                refine lv_istore (lv' := [(5, .int x_60), (9, .int x_39), (8, .int x_12), (7, .int x_9), (0, .ref (g.2.1 5)), (6, .int v6)]) hx hb dX6_distanceOf_116 hl (by decide) rfl (fun ls hl => ?_)
                obtain ⟨v6_61, ev6_61⟩ : ∃ y : Int32, y = v6 + 1 := ⟨_, rfl⟩
                have hw := hw v6_61 ev6_61
                refine lv_iinc (v := v6_61) (lv' := [(6, .int v6_61), (5, .int x_60), (9, .int x_39), (8, .int x_12), (7, .int x_9), (0, .ref (g.2.1 5))]) hx hb dX6_distanceOf_118 hl (k := 5) rfl (by rw [ev6_61]; rfl) (by decide) rfl (fun ls hl => ?_)
                refine lv_goto (tgt := 19) hx hb dX6_distanceOf_121 (by decide) ?_
                exact ih hw U (lv_sub hl [5, 1, 0] rfl) h124
          · have hw := hw.2 c_51
            refine lv_iconst (v := 0) hx hb dX6_distanceOf_83 (by decide) ?_
            refine lv_goto (tgt := 115) hx hb dX6_distanceOf_84 (by decide) ?_
            refine lv_iadd hx hb dX6_distanceOf_115 ?_
            refine lv_topi (fun x_62 ex_62 => ?_)
            have hw := hw x_62 ex_62
            refine lv_istore (lv' := [(5, .int x_62), (9, .int x_39), (8, .int x_12), (7, .int x_9), (0, .ref (g.2.1 5)), (6, .int v6)]) hx hb dX6_distanceOf_116 hl (by decide) rfl (fun ls hl => ?_)
            obtain ⟨v6_63, ev6_63⟩ : ∃ y : Int32, y = v6 + 1 := ⟨_, rfl⟩
            have hw := hw v6_63 ev6_63
            refine lv_iinc (v := v6_63) (lv' := [(6, .int v6_63), (5, .int x_62), (9, .int x_39), (8, .int x_12), (7, .int x_9), (0, .ref (g.2.1 5))]) hx hb dX6_distanceOf_118 hl (k := 5) rfl (by rw [ev6_63]; rfl) (by decide) rfl (fun ls hl => ?_)
            refine lv_goto (tgt := 19) hx hb dX6_distanceOf_121 (by decide) ?_
            exact ih hw U (lv_sub hl [5, 1, 0] rfl) h124
set_option maxHeartbeats 4000000 in
set_option maxRecDepth 100000 in
theorem c_X6_distanceOf {l : Launch} {g : uG} {a0 : Int64} {a1 : Int64} {A : SA} {B : SB} {Q : Int32 → SA → Prop} (hw : wp_X6_distanceOf a0 a1 A B Q) : MI l yX6_distanceOf wsX6_distanceOf rmX6_distanceOf g A B [.ref (g.2.1 5), .long a0, .long a1] (fun r A1 B1 => B1 = B ∧ Q r A1 ) := by
  refine u_of (cc := cX6_distanceOf) (maxL := 10) (ret := (some .int)) (by decide) rfl (Nat.le_of_ble_eq_true rfl) ?_
  intro p e s m below meth c ls C K U hl
  obtain ⟨hx, hb, hml, hown, hts, hr, hlocks⟩ := id C
  have S : CallFix p m c cX6_distanceOf 10 s ([.ref (g.2.1 5), .long a0, .long a1] : List Value).toArray wsX6_distanceOf RX6 := ⟨hx, hb, hml, hown, hts⟩
  have hl : lv_has ls 10 [(0, .ref (g.2.1 5)), (1, .long a0), (3, .long a1)] := hl
  refine lv_aload_n hx hb dX6_distanceOf_0 rfl (lv_at hl 0 rfl) ?_
  refine lv_iconst (v := 0) hx hb dX6_distanceOf_1 (by decide) ?_
  refine lv_lload_n hx hb dX6_distanceOf_2 rfl (lv_at hl 1 rfl) ?_
  refine u_cv (u_rV (As := [.int (0 : Int32), .long a0]) (rest := []) (C := RX6) S K U 5 5 (by decide) rfl rfl (c_X6_find hw) (cwV 2 hts gX6_distanceOf_X6_find rfl rfl rfl (by decide +kernel) ⟨Nat.le_of_ble_eq_true rfl, Nat.le_of_ble_eq_true rfl⟩) rfl hl.1 rfl (Nat.le_of_ble_eq_true rfl) dX6_distanceOf_3 ⟨Nat.zero_le _, Nat.zero_le _⟩) U (fun A_2 B_3 H locs U9 hw => ?_)
  obtain ⟨eB, hw⟩ := hw
  rw [eB] at U9
  have U := U9
  refine lv_aload_n hx hb dX6_distanceOf_6 rfl (lv_at hl 0 rfl) ?_
  refine lv_bipush (v := 8) hx hb dX6_distanceOf_7 (by decide) ?_
  refine lv_lload_n hx hb dX6_distanceOf_9 rfl (lv_at hl 2 rfl) ?_
  refine u_cv (u_rV (As := [.int (8 : Int32), .long a1]) (rest := []) (C := RX6) S K U 5 5 (by decide) rfl rfl (c_X6_find hw) (cwV 2 hts gX6_distanceOf_X6_find rfl rfl rfl (by decide +kernel) ⟨Nat.le_of_ble_eq_true rfl, Nat.le_of_ble_eq_true rfl⟩) rfl hl.1 rfl (Nat.le_of_ble_eq_true rfl) dX6_distanceOf_10 ⟨Nat.zero_le _, Nat.zero_le _⟩) U (fun A_5 B_6 H locs U9 hw => ?_)
  obtain ⟨eB, hw⟩ := hw
  rw [eB] at U9
  have U := U9
  refine lv_iconst (v := 0) hx hb dX6_distanceOf_13 (by decide) ?_
  refine lv_istore (lv' := [(5, .int (0 : Int32)), (0, .ref (g.2.1 5)), (1, .long a0), (3, .long a1)]) hx hb dX6_distanceOf_14 hl (by decide) rfl (fun ls hl => ?_)
  refine lv_iconst (v := 0) hx hb dX6_distanceOf_16 (by decide) ?_
  refine lv_istore (lv' := [(6, .int (0 : Int32)), (5, .int (0 : Int32)), (0, .ref (g.2.1 5)), (1, .long a0), (3, .long a1)]) hx hb dX6_distanceOf_17 hl (by decide) rfl (fun ls hl => ?_)
  obtain ⟨n_64, hw⟩ := hw
  refine t_X6_distanceOf_19 C K hw U (lv_sub hl [2, 1, 0] rfl) (fun v5_65 H locs ls U hl hw => ?_)
  refine lv_iload hx hb dX6_distanceOf_124 (lv_at hl 0 rfl) ?_
  exact u_iret hx hb hr hlocks U ⟨rfl, hw⟩ dX6_distanceOf_126
set_option maxHeartbeats 4000000 in
set_option maxRecDepth 100000 in
theorem c_X6_distance {l : Launch} {g : uG} {a0 : Int64} {a1 : Int64} {A : SA} {B : SB} {Q : Int32 → SA → Prop} (hw : wp_X6_distance a0 a1 A B Q) : MI l yX6_distance wsX6_distance rmX6_distance g A B [.ref (g.2.1 5), .long a0, .long a1] (fun r A1 B1 => B1 = B ∧ Q r A1 ) := by
  refine u_of (cc := cX6_distance) (maxL := 5) (ret := (some .int)) (by decide) rfl (Nat.le_of_ble_eq_true rfl) ?_
  intro p e s m below meth c ls C K U hl
  obtain ⟨hx, hb, hml, hown, hts, hr, hlocks⟩ := id C
  have S : CallFix p m c cX6_distance 5 s ([.ref (g.2.1 5), .long a0, .long a1] : List Value).toArray wsX6_distance RX6 := ⟨hx, hb, hml, hown, hts⟩
  have hl : lv_has ls 5 [(0, .ref (g.2.1 5)), (1, .long a0), (3, .long a1)] := hl
  refine lv_aload_n hx hb dX6_distance_0 rfl (lv_at hl 0 rfl) ?_
  refine lv_lload_n hx hb dX6_distance_1 rfl (lv_at hl 1 rfl) ?_
  refine u_ci (u_rV (As := [.long a0]) (rest := []) (C := RX6) S K U 5 5 (by decide) rfl rfl (c_X6_noPoint hw) (cwV 1 hts gX6_distance_X6_noPoint rfl rfl rfl (by decide +kernel) ⟨Nat.le_of_ble_eq_true rfl, Nat.le_of_ble_eq_true rfl⟩) rfl hl.1 rfl (Nat.le_of_ble_eq_true rfl) dX6_distance_2 ⟨Nat.zero_le _, Nat.zero_le _⟩) U (fun r_1 A_2 B_3 H locs U9 hw => ?_)
  obtain ⟨eA, eB, hw⟩ := hw
  rw [eA, eB] at U9
  have U := U9
  refine lv_if_ne (tgt := 16) hx hb dX6_distance_5 (by decide) (fun c_4 => ?_) (fun c_4 => ?_)
  · have hw := hw.1 c_4
    refine lv_iconst (v := -1) hx hb dX6_distance_16 (by decide) ?_
    refine lv_goto (tgt := 26) hx hb dX6_distance_17 (by decide) ?_
    exact u_iret hx hb hr hlocks U ⟨rfl, hw⟩ dX6_distance_26
  · have hw := hw.2 c_4
    refine lv_aload_n hx hb dX6_distance_8 rfl (lv_at hl 0 rfl) ?_
    refine lv_lload_n hx hb dX6_distance_9 rfl (lv_at hl 2 rfl) ?_
    refine u_ci (u_rV (As := [.long a1]) (rest := []) (C := RX6) S K U 5 5 (by decide) rfl rfl (c_X6_noPoint hw) (cwV 1 hts gX6_distance_X6_noPoint rfl rfl rfl (by decide +kernel) ⟨Nat.le_of_ble_eq_true rfl, Nat.le_of_ble_eq_true rfl⟩) rfl hl.1 rfl (Nat.le_of_ble_eq_true rfl) dX6_distance_10 ⟨Nat.zero_le _, Nat.zero_le _⟩) U (fun r_5 A_6 B_7 H locs U9 hw => ?_)
    obtain ⟨eA, eB, hw⟩ := hw
    rw [eA, eB] at U9
    have U := U9
    refine lv_if_eq (tgt := 20) hx hb dX6_distance_13 (by decide) (fun c_8 => ?_) (fun c_8 => ?_)
    · have hw := hw.1 c_8
      refine lv_aload_n hx hb dX6_distance_20 rfl (lv_at hl 0 rfl) ?_
      refine lv_lload_n hx hb dX6_distance_21 rfl (lv_at hl 1 rfl) ?_
      refine lv_lload_n hx hb dX6_distance_22 rfl (lv_at hl 2 rfl) ?_
      refine u_ci (u_rV (As := [.long a0, .long a1]) (rest := []) (C := RX6) S K U 5 5 (by decide) rfl rfl (c_X6_distanceOf hw) (cwV 2 hts gX6_distance_X6_distanceOf rfl rfl rfl (by decide +kernel) ⟨Nat.le_of_ble_eq_true rfl, Nat.le_of_ble_eq_true rfl⟩) rfl hl.1 rfl (Nat.le_of_ble_eq_true rfl) dX6_distance_23 ⟨Nat.zero_le _, Nat.zero_le _⟩) U (fun r_9 A_10 B_11 H locs U9 hw => ?_)
      obtain ⟨eB, hw⟩ := hw
      rw [eB] at U9
      have U := U9
      exact u_iret hx hb hr hlocks U ⟨rfl, hw⟩ dX6_distance_26
    · have hw := hw.2 c_8
      refine lv_iconst (v := -1) hx hb dX6_distance_16 (by decide) ?_
      refine lv_goto (tgt := 26) hx hb dX6_distance_17 (by decide) ?_
      exact u_iret hx hb hr hlocks U ⟨rfl, hw⟩ dX6_distance_26
set_option maxHeartbeats 4000000 in
set_option maxRecDepth 100000 in
theorem c_X6_add {l : Launch} {g : uG} {a0 : Int64} {A : SA} {B : SB} {Q : Int32 → SA → SB → Prop} (hw : wp_X6_add a0 A B Q) : MI l yX6_add wsX6_add rmX6_add g A B [.ref (g.2.1 5), .long a0] Q := by
  refine u_of (cc := cX6_add) (maxL := 3) (ret := (some .int)) (by decide) rfl (Nat.le_of_ble_eq_true rfl) ?_
  intro p e s m below meth c ls C K U hl
  obtain ⟨hx, hb, hml, hown, hts, hr, hlocks⟩ := id C
  have S : CallFix p m c cX6_add 3 s ([.ref (g.2.1 5), .long a0] : List Value).toArray wsX6_add RX6 := ⟨hx, hb, hml, hown, hts⟩
  have hl : lv_has ls 3 [(0, .ref (g.2.1 5)), (1, .long a0)] := hl
  refine lv_aload_n hx hb dX6_add_0 rfl (lv_at hl 0 rfl) ?_
  refine u_get (C := RX6) (T := TX6) (N := 31) (v := .ref (g.2.1 34)) hx hb hts hX6_add_X6 hown K U 5 5 (by decide) rfl rfl 7 (by decide) (hts (.fieldLink RX6 35 "TrialSearchModel" "pointOf" "[J") (by decide +kernel)) rfl rfl dX6_add_1 ?_
  refine lv_aload_n hx hb dX6_add_4 rfl (lv_at hl 0 rfl) ?_
  refine u_get (C := RX6) (T := TX6) (N := 31) (v := .int (A 5 6)) hx hb hts hX6_add_X6 hown K U 5 5 (by decide) rfl rfl 6 (by decide) (hts (.fieldLink RX6 92 "TrialSearchModel" "trials" "I") (by decide +kernel)) rfl rfl dX6_add_5 ?_
  refine lv_lload_n hx hb dX6_add_8 rfl (lv_at hl 1 rfl) ?_
  obtain ⟨hi_1, hw⟩ := hw
  refine u_last (k := 34) hx hb K U rfl (by decide) rfl hi_1 dX6_add_9 (fun H locs U => ?_)
  refine lv_aload_n hx hb dX6_add_10 rfl (lv_at hl 0 rfl) ?_
  refine u_get (C := RX6) (T := TX6) (N := 31) (v := .ref (g.2.1 35)) hx hb hts hX6_add_X6 hown K U 5 5 (by decide) rfl rfl 8 (by decide) (hts (.fieldLink RX6 38 "TrialSearchModel" "state" "[I") (by decide +kernel)) rfl rfl dX6_add_11 ?_
  refine lv_aload_n hx hb dX6_add_14 rfl (lv_at hl 0 rfl) ?_
  refine u_get (C := RX6) (T := TX6) (N := 31) (v := .int (A 5 6)) hx hb hts hX6_add_X6 hown K U 5 5 (by decide) rfl rfl 6 (by decide) (hts (.fieldLink RX6 92 "TrialSearchModel" "trials" "I") (by decide +kernel)) rfl rfl dX6_add_15 ?_
  refine lv_iconst (v := 0) hx hb dX6_add_18 (by decide) ?_
  obtain ⟨hi_2, hw⟩ := hw
  refine u_iast (k := 35) hx hb K U rfl (by decide) rfl hi_2 dX6_add_19 (fun H locs U => ?_)
  refine lv_aload_n hx hb dX6_add_20 rfl (lv_at hl 0 rfl) ?_
  refine u_get (C := RX6) (T := TX6) (N := 31) (v := .ref (g.2.1 36)) hx hb hts hX6_add_X6 hown K U 5 5 (by decide) rfl rfl 9 (by decide) (hts (.fieldLink RX6 41 "TrialSearchModel" "score" "[I") (by decide +kernel)) rfl rfl dX6_add_21 ?_
  refine lv_aload_n hx hb dX6_add_24 rfl (lv_at hl 0 rfl) ?_
  refine u_get (C := RX6) (T := TX6) (N := 31) (v := .int (A 5 6)) hx hb hts hX6_add_X6 hown K U 5 5 (by decide) rfl rfl 6 (by decide) (hts (.fieldLink RX6 92 "TrialSearchModel" "trials" "I") (by decide +kernel)) rfl rfl dX6_add_25 ?_
  refine lv_iconst (v := 0) hx hb dX6_add_28 (by decide) ?_
  obtain ⟨hi_3, hw⟩ := hw
  refine u_iast (k := 36) hx hb K U rfl (by decide) rfl hi_3 dX6_add_29 (fun H locs U => ?_)
  refine lv_aload_n hx hb dX6_add_30 rfl (lv_at hl 0 rfl) ?_
  refine u_get (C := RX6) (T := TX6) (N := 31) (v := .ref (g.2.1 37)) hx hb hts hX6_add_X6 hown K U 5 5 (by decide) rfl rfl 10 (by decide) (hts (.fieldLink RX6 44 "TrialSearchModel" "reports" "[I") (by decide +kernel)) rfl rfl dX6_add_31 ?_
  refine lv_aload_n hx hb dX6_add_34 rfl (lv_at hl 0 rfl) ?_
  refine u_get (C := RX6) (T := TX6) (N := 31) (v := .int (A 5 6)) hx hb hts hX6_add_X6 hown K U 5 5 (by decide) rfl rfl 6 (by decide) (hts (.fieldLink RX6 92 "TrialSearchModel" "trials" "I") (by decide +kernel)) rfl rfl dX6_add_35 ?_
  refine lv_iconst (v := 0) hx hb dX6_add_38 (by decide) ?_
  obtain ⟨hi_4, hw⟩ := hw
  refine u_iast (k := 37) hx hb K U rfl (by decide) rfl hi_4 dX6_add_39 (fun H locs U => ?_)
  refine lv_aload_n hx hb dX6_add_40 rfl (lv_at hl 0 rfl) ?_
  refine lv_dup hx hb dX6_add_41 rfl ?_
  refine u_get (C := RX6) (T := TX6) (N := 31) (v := .int (A 5 6)) hx hb hts hX6_add_X6 hown K U 5 5 (by decide) rfl rfl 6 (by decide) (hts (.fieldLink RX6 92 "TrialSearchModel" "trials" "I") (by decide +kernel)) rfl rfl dX6_add_42 ?_
  refine lv_dup_x1 hx hb dX6_add_45 rfl rfl ?_
  refine lv_iconst (v := 1) hx hb dX6_add_46 (by decide) ?_
  refine lv_iadd hx hb dX6_add_47 ?_
  refine lv_topi (fun x_5 ex_5 => ?_)
  have hw := hw x_5 ex_5
  refine u_puti (ty := .int) (C := RX6) (T := TX6) (N := 31) hx hb hts hX6_add_X6 tyX6 tyX6_ok nmX6 hown K U 5 5 (by decide) rfl rfl 6 (by decide) (hts (.fieldLink RX6 92 "TrialSearchModel" "trials" "I") (by decide +kernel)) rfl rfl (by decide +kernel) rfl rfl (Nat.le_of_ble_eq_true rfl) rfl dX6_add_48 (fun H locs U => ?_)
  exact u_iret hx hb hr hlocks U hw dX6_add_51
set_option maxHeartbeats 4000000 in
set_option maxRecDepth 100000 in
theorem t_X6_trial_68 {p : Program} {l : Launch} {e : Env} {s : State} {m : MethodId} {args : Array Value} {below : List Frame} {meth : Method} {c : Code} {g : uG} {E121 : SA → Prop} {Q : Int32 → SA → SB → Prop} {v2 : Int32} {B : SB} (C : uC p s m args meth c cX6_trial 4 RX6 wsX6_trial (some .int)) (K : UK g s) :
    ∀ {n : Nat} {v3 : Int32} {A : SA} {H : Heap} {locs : List Loc} {ls : Array Slot}, wp_X6_trial_68 E121 Q v2 B n v3 A → UU g A B s.heap H locs → lv_has ls 4 [(0, .ref (g.2.1 5)), (2, .int v2), (3, .int v3)] → (∀ (A : SA) (H : Heap) (locs : List Loc) (ls : Array Slot), UU g A B s.heap H locs → lv_has ls 4 [(0, .ref (g.2.1 5))] → E121 A → W p l e rmX6_trial s m args below meth c H locs 0 0 (MQ below (uQi g Q) args s 0 0 (FA g)) (F0 m 121 ls [])) → W p l e rmX6_trial s m args below meth c H locs 0 0 (MQ below (uQi g Q) args s 0 0 (FA g)) (F0 m 68 ls []) := by
  obtain ⟨hx, hb, hml, hown, hts, hr, hlocks⟩ := id C
  have S : CallFix p m c cX6_trial 4 s args wsX6_trial RX6 := ⟨hx, hb, hml, hown, hts⟩
  intro n
  induction n with
  | zero => intro _ _ _ _ _ hw; exact False.elim hw
  | succ n ih =>
    intro v3 A H locs ls hw U hl h121
    refine lv_iload_n hx hb dX6_trial_68 rfl (lv_at hl 2 rfl) ?_
    refine lv_aload_n hx hb dX6_trial_69 rfl (lv_at hl 0 rfl) ?_
    refine u_get (C := RX6) (T := TX6) (N := 31) (v := .int (A 5 0)) hx hb hts hX6_trial_X6 hown K U 5 5 (by decide) rfl rfl 0 (by decide) (hts (.fieldLink RX6 86 "TrialSearchModel" "names" "I") (by decide +kernel)) rfl rfl dX6_trial_70 ?_
    refine lv_icmp_ge (tgt := 121) hx hb dX6_trial_73 (by decide) (fun c_8 => ?_) (fun c_8 => ?_)
    · have hw := hw.1 c_8
      exact h121 _ _ _ _ U (lv_sub hl [0] rfl) hw
    · have hw := hw.2 c_8
      refine lv_aload_n hx hb dX6_trial_76 rfl (lv_at hl 0 rfl) ?_
      refine u_get (C := RX6) (T := TX6) (N := 31) (v := .ref (g.2.1 33)) hx hb hts hX6_trial_X6 hown K U 5 5 (by decide) rfl rfl 5 (by decide) (hts (.fieldLink RX6 32 "TrialSearchModel" "values" "[I") (by decide +kernel)) rfl rfl dX6_trial_77 ?_
      refine lv_iload_n hx hb dX6_trial_80 rfl (lv_at hl 2 rfl) ?_
      refine lv_bipush (v := -2) hx hb dX6_trial_81 (by decide) ?_
      obtain ⟨hi_9, hw⟩ := hw
      refine u_iast (k := 33) hx hb K U rfl (by decide) rfl hi_9 dX6_trial_83 (fun H locs U => ?_)
      refine lv_aload_n hx hb dX6_trial_84 rfl (lv_at hl 0 rfl) ?_
      refine lv_iconst (v := 0) hx hb dX6_trial_85 (by decide) ?_
      refine lv_iload_n hx hb dX6_trial_86 rfl (lv_at hl 2 rfl) ?_
      refine u_ci (u_rV (As := [.int (0 : Int32), .int v3]) (rest := []) (C := RX6) S K U 5 5 (by decide) rfl rfl (c_X6_isThere hw) (cwV 2 hts gX6_trial_X6_isThere rfl rfl rfl (by decide +kernel) ⟨Nat.le_of_ble_eq_true rfl, Nat.le_of_ble_eq_true rfl⟩) rfl hl.1 rfl (Nat.le_of_ble_eq_true rfl) dX6_trial_87 ⟨Nat.zero_le _, Nat.zero_le _⟩) U (fun r_10 A_11 B_12 H locs U9 hw => ?_)
      obtain ⟨eA, eB, hw⟩ := hw
      rw [eA, eB] at U9
      have U := U9
      refine lv_if_eq (tgt := 115) hx hb dX6_trial_90 (by decide) (fun c_13 => ?_) (fun c_13 => ?_)
      · have hw := hw.1 c_13
        obtain ⟨v3_14, ev3_14⟩ : ∃ y : Int32, y = v3 + 1 := ⟨_, rfl⟩
        have hw := hw v3_14 ev3_14
        refine lv_iinc (v := v3_14) (lv' := [(3, .int v3_14), (0, .ref (g.2.1 5)), (2, .int v2)]) hx hb dX6_trial_115 hl (k := 2) rfl (by rw [ev3_14]; rfl) (by decide) rfl (fun ls hl => ?_)
        refine lv_goto (tgt := 68) hx hb dX6_trial_118 (by decide) ?_
        exact ih hw U (lv_sub hl [1, 2, 0] rfl) h121
      · have hw := hw.2 c_13
        refine lv_aload_n hx hb dX6_trial_93 rfl (lv_at hl 0 rfl) ?_
        refine u_get (C := RX6) (T := TX6) (N := 31) (v := .ref (g.2.1 33)) hx hb hts hX6_trial_X6 hown K U 5 5 (by decide) rfl rfl 5 (by decide) (hts (.fieldLink RX6 32 "TrialSearchModel" "values" "[I") (by decide +kernel)) rfl rfl dX6_trial_94 ?_
        refine lv_iload_n hx hb dX6_trial_97 rfl (lv_at hl 2 rfl) ?_
        refine lv_iload_n hx hb dX6_trial_98 rfl (lv_at hl 1 rfl) ?_
        refine lv_iload_n hx hb dX6_trial_99 rfl (lv_at hl 2 rfl) ?_
        refine u_ci (u_rS (As := [.int v2, .int v3]) (rest := [.int v3, .ref (g.2.1 33)]) S K U (c_X6_hash hw) (va_cwS 2 hts gX6_trial_X6_hash rfl rfl rfl (by decide +kernel) ⟨Nat.le_of_ble_eq_true rfl, Nat.le_of_ble_eq_true rfl⟩) rfl hl.1 rfl (Nat.le_of_ble_eq_true rfl) dX6_trial_100 ⟨Nat.zero_le _, Nat.zero_le _⟩) U (fun r_15 A_16 B_17 H locs U9 hw => ?_)
        obtain ⟨eA, eB, hw⟩ := hw
        rw [eA, eB] at U9
        have U := U9
        refine lv_aload_n hx hb dX6_trial_103 rfl (lv_at hl 0 rfl) ?_
        refine u_get (C := RX6) (T := TX6) (N := 31) (v := .ref (g.2.1 29)) hx hb hts hX6_trial_X6 hown K U 5 5 (by decide) rfl rfl 1 (by decide) (hts (.fieldLink RX6 18 "TrialSearchModel" "many" "[I") (by decide +kernel)) rfl rfl dX6_trial_104 ?_
        refine lv_iload_n hx hb dX6_trial_107 rfl (lv_at hl 2 rfl) ?_
        obtain ⟨hi_18, hw⟩ := hw
        refine u_iald (k := 29) (v := (A 29 v3.toNatClampNeg)) hx hb K U rfl (by decide) rfl hi_18 rfl dX6_trial_108 ?_
        refine lv_i2l hx hb dX6_trial_109 rfl ?_
        refine u_cl (u_rS (As := [.int r_15, .long (A 29 v3.toNatClampNeg).toInt64]) (rest := [.int v3, .ref (g.2.1 33)]) S K U (c_X6_pick hw) (va_cwS 2 hts gX6_trial_X6_pick rfl rfl rfl (by decide +kernel) ⟨Nat.le_of_ble_eq_true rfl, Nat.le_of_ble_eq_true rfl⟩) rfl hl.1 rfl (Nat.le_of_ble_eq_true rfl) dX6_trial_110 ⟨Nat.zero_le _, Nat.zero_le _⟩) U (fun r_19 A_20 B_21 H locs U9 hw => ?_)
        obtain ⟨eA, eB, hw⟩ := hw
        rw [eA, eB] at U9
        have U := U9
        refine lv_l2i hx hb dX6_trial_113 rfl ?_
        refine lv_topi (fun x_22 ex_22 => ?_)
        have hw := hw x_22 ex_22
        obtain ⟨hi_23, hw⟩ := hw
        refine u_iast (k := 33) hx hb K U rfl (by decide) rfl hi_23 dX6_trial_114 (fun H locs U => ?_)
        obtain ⟨v3_24, ev3_24⟩ : ∃ y : Int32, y = v3 + 1 := ⟨_, rfl⟩
        have hw := hw v3_24 ev3_24
        refine lv_iinc (v := v3_24) (lv' := [(3, .int v3_24), (0, .ref (g.2.1 5)), (2, .int v2)]) hx hb dX6_trial_115 hl (k := 2) rfl (by rw [ev3_24]; rfl) (by decide) rfl (fun ls hl => ?_)
        refine lv_goto (tgt := 68) hx hb dX6_trial_118 (by decide) ?_
        exact ih hw U (lv_sub hl [1, 2, 0] rfl) h121
set_option maxHeartbeats 4000000 in
set_option maxRecDepth 100000 in
theorem c_X6_trial {l : Launch} {g : uG} {a0 : Int32} {a1 : Int32} {A : SA} {B : SB} {Q : Int32 → SA → SB → Prop} (hw : wp_X6_trial a0 a1 A B Q) : MI l yX6_trial wsX6_trial rmX6_trial g A B [.ref (g.2.1 5), .int a0, .int a1] Q := by
  refine u_of (cc := cX6_trial) (maxL := 4) (ret := (some .int)) (by decide) rfl (Nat.le_of_ble_eq_true rfl) ?_
  intro p e s m below meth c ls C K U hl
  obtain ⟨hx, hb, hml, hown, hts, hr, hlocks⟩ := id C
  have S : CallFix p m c cX6_trial 4 s ([.ref (g.2.1 5), .int a0, .int a1] : List Value).toArray wsX6_trial RX6 := ⟨hx, hb, hml, hown, hts⟩
  have hl : lv_has ls 4 [(0, .ref (g.2.1 5)), (1, .int a0), (2, .int a1)] := hl
  refine lv_iload_n hx hb dX6_trial_0 rfl (lv_at hl 1 rfl) ?_
  refine lv_i2l hx hb dX6_trial_1 rfl ?_
  refine lv_lconst (v := 0) hx hb dX6_trial_2 (by decide) ?_
  refine lv_ldc2 (v := 2) hx hb hown (hts (.constantLong RX6 129 (2)) (by decide +kernel)) dX6_trial_3 ?_
  refine u_ci (u_rS (As := [.long a0.toInt64, .long (0 : Int64), .long (2 : Int64)]) (rest := []) S K U (c_X6_in hw) (va_cwS 3 hts gX6_trial_X6_in rfl rfl rfl (by decide +kernel) ⟨Nat.le_of_ble_eq_true rfl, Nat.le_of_ble_eq_true rfl⟩) rfl hl.1 rfl (Nat.le_of_ble_eq_true rfl) dX6_trial_6 ⟨Nat.zero_le _, Nat.zero_le _⟩) U (fun r_1 A_2 B_3 H locs U9 hw => ?_)
  obtain ⟨eA, eB, hw⟩ := hw
  rw [eA, eB] at U9
  have U := U9
  refine lv_if_eq (tgt := 20) hx hb dX6_trial_9 (by decide) (fun c_4 => ?_) (fun c_4 => ?_)
  · have hw := hw.1 c_4
    refine lv_iconst (v := -1) hx hb dX6_trial_20 (by decide) ?_
    exact u_iret hx hb hr hlocks U hw dX6_trial_21
  · have hw := hw.2 c_4
    refine lv_iload_n hx hb dX6_trial_12 rfl (lv_at hl 1 rfl) ?_
    refine lv_if_ne (tgt := 22) hx hb dX6_trial_13 (by decide) (fun c_5 => ?_) (fun c_5 => ?_)
    · have hw := hw.1 c_5
      refine lv_aload_n hx hb dX6_trial_22 rfl (lv_at hl 0 rfl) ?_
      refine u_get (C := RX6) (T := TX6) (N := 31) (v := .int (A 5 6)) hx hb hts hX6_trial_X6 hown K U 5 5 (by decide) rfl rfl 6 (by decide) (hts (.fieldLink RX6 92 "TrialSearchModel" "trials" "I") (by decide +kernel)) rfl rfl dX6_trial_23 ?_
      refine lv_bipush (v := 60) hx hb dX6_trial_26 (by decide) ?_
      refine lv_icmp_ne (tgt := 34) hx hb dX6_trial_28 (by decide) (fun c_6 => ?_) (fun c_6 => ?_)
      · have hw := hw.1 c_6
        refine lv_iload_n hx hb dX6_trial_34 rfl (lv_at hl 1 rfl) ?_
        refine lv_iconst (v := 2) hx hb dX6_trial_35 (by decide) ?_
        refine lv_icmp_ge (tgt := 66) hx hb dX6_trial_36 (by decide) (fun c_7 => ?_) (fun c_7 => ?_)
        · have hw := hw.1 c_7
          refine lv_iconst (v := 0) hx hb dX6_trial_66 (by decide) ?_
          refine lv_istore_n (lv' := [(3, .int (0 : Int32)), (0, .ref (g.2.1 5)), (1, .int a0), (2, .int a1)]) hx hb dX6_trial_67 rfl hl (by decide) rfl (fun ls hl => ?_)
          obtain ⟨n_25, hw⟩ := hw
          refine t_X6_trial_68 C K hw U (lv_sub hl [1, 3, 0] rfl) (fun A_26 H locs ls U hl hw => ?_)
          refine lv_aload_n hx hb dX6_trial_121 rfl (lv_at hl 0 rfl) ?_
          refine lv_aload_n hx hb dX6_trial_122 rfl (lv_at hl 0 rfl) ?_
          refine u_cl (u_rV (As := []) (rest := [.ref (g.2.1 5)]) (C := RX6) S K U 5 5 (by decide) rfl rfl (c_X6_numberOf hw) (cwV 0 hts gX6_trial_X6_numberOf rfl rfl rfl (by decide +kernel) ⟨Nat.le_of_ble_eq_true rfl, Nat.le_of_ble_eq_true rfl⟩) rfl hl.1 rfl (Nat.le_of_ble_eq_true rfl) dX6_trial_123 ⟨Nat.zero_le _, Nat.zero_le _⟩) U (fun r_27 A_28 B_29 H locs U9 hw => ?_)
          obtain ⟨eB, hw⟩ := hw
          rw [eB] at U9
          have U := U9
          refine u_ci (u_rV (As := [.long r_27]) (rest := []) (C := RX6) S K U 5 5 (by decide) rfl rfl (c_X6_add hw) (cwV 1 hts gX6_trial_X6_add rfl rfl rfl (by decide +kernel) ⟨Nat.le_of_ble_eq_true rfl, Nat.le_of_ble_eq_true rfl⟩) rfl hl.1 rfl (Nat.le_of_ble_eq_true rfl) dX6_trial_126 ⟨Nat.zero_le _, Nat.zero_le _⟩) U (fun r_30 A_31 B_32 H locs U hw => ?_)
          exact u_iret hx hb hr hlocks U hw dX6_trial_129
        · have hw := hw.2 c_7
          refine lv_aload_n hx hb dX6_trial_39 rfl (lv_at hl 0 rfl) ?_
          refine lv_iload_n hx hb dX6_trial_40 rfl (lv_at hl 1 rfl) ?_
          refine lv_if_ne (tgt := 54) hx hb dX6_trial_41 (by decide) (fun c_33 => ?_) (fun c_33 => ?_)
          · have hw := hw.1 c_33
            refine lv_iload_n hx hb dX6_trial_54 rfl (lv_at hl 2 rfl) ?_
            refine lv_aload_n hx hb dX6_trial_55 rfl (lv_at hl 0 rfl) ?_
            refine u_cl (u_rV (As := []) (rest := [.int a1, .ref (g.2.1 5)]) (C := RX6) S K U 5 5 (by decide) rfl rfl (c_X6_points hw) (cwV 0 hts gX6_trial_X6_points rfl rfl rfl (by decide +kernel) ⟨Nat.le_of_ble_eq_true rfl, Nat.le_of_ble_eq_true rfl⟩) rfl hl.1 rfl (Nat.le_of_ble_eq_true rfl) dX6_trial_56 ⟨Nat.zero_le _, Nat.zero_le _⟩) U (fun r_34 A_35 B_36 H locs U9 hw => ?_)
            obtain ⟨eA, eB, hw⟩ := hw
            rw [eA, eB] at U9
            have U := U9
            refine u_cl (u_rS (As := [.int a1, .long r_34]) (rest := [.ref (g.2.1 5)]) S K U (c_X6_pick hw) (va_cwS 2 hts gX6_trial_X6_pick rfl rfl rfl (by decide +kernel) ⟨Nat.le_of_ble_eq_true rfl, Nat.le_of_ble_eq_true rfl⟩) rfl hl.1 rfl (Nat.le_of_ble_eq_true rfl) dX6_trial_59 ⟨Nat.zero_le _, Nat.zero_le _⟩) U (fun r_37 A_38 B_39 H locs U9 hw => ?_)
            obtain ⟨eA, eB, hw⟩ := hw
            rw [eA, eB] at U9
            have U := U9
            refine u_ci (u_rV (As := [.long r_37]) (rest := []) (C := RX6) S K U 5 5 (by decide) rfl rfl (c_X6_add hw) (cwV 1 hts gX6_trial_X6_add rfl rfl rfl (by decide +kernel) ⟨Nat.le_of_ble_eq_true rfl, Nat.le_of_ble_eq_true rfl⟩) rfl hl.1 rfl (Nat.le_of_ble_eq_true rfl) dX6_trial_62 ⟨Nat.zero_le _, Nat.zero_le _⟩) U (fun r_40 A_41 B_42 H locs U hw => ?_)
            exact u_iret hx hb hr hlocks U hw dX6_trial_65
          · have hw := hw.2 c_33
            refine lv_iload_n hx hb dX6_trial_44 rfl (lv_at hl 2 rfl) ?_
            refine lv_i2l hx hb dX6_trial_45 rfl ?_
            refine lv_aload_n hx hb dX6_trial_46 rfl (lv_at hl 0 rfl) ?_
            refine u_cl (u_rV (As := []) (rest := [.long a1.toInt64, .ref (g.2.1 5)]) (C := RX6) S K U 5 5 (by decide) rfl rfl (c_X6_points hw) (cwV 0 hts gX6_trial_X6_points rfl rfl rfl (by decide +kernel) ⟨Nat.le_of_ble_eq_true rfl, Nat.le_of_ble_eq_true rfl⟩) rfl hl.1 rfl (Nat.le_of_ble_eq_true rfl) dX6_trial_47 ⟨Nat.zero_le _, Nat.zero_le _⟩) U (fun r_43 A_44 B_45 H locs U9 hw => ?_)
            obtain ⟨eA, eB, hw⟩ := hw
            rw [eA, eB] at U9
            have U := U9
            obtain ⟨hz_46, hw⟩ := hw
            refine lv_lrem hx hb dX6_trial_50 hz_46 ?_
            refine lv_goto (tgt := 62) hx hb dX6_trial_51 (by decide) ?_
            refine u_ci (u_rV (As := [.long (a1.toInt64 - a1.toInt64 / r_43 * r_43)]) (rest := []) (C := RX6) S K U 5 5 (by decide) rfl rfl (c_X6_add hw) (cwV 1 hts gX6_trial_X6_add rfl rfl rfl (by decide +kernel) ⟨Nat.le_of_ble_eq_true rfl, Nat.le_of_ble_eq_true rfl⟩) rfl hl.1 rfl (Nat.le_of_ble_eq_true rfl) dX6_trial_62 ⟨Nat.zero_le _, Nat.zero_le _⟩) U (fun r_47 A_48 B_49 H locs U hw => ?_)
            exact u_iret hx hb hr hlocks U hw dX6_trial_65
      · have hw := hw.2 c_6
        refine lv_bipush (v := -4) hx hb dX6_trial_31 (by decide) ?_
        exact u_iret hx hb hr hlocks U hw dX6_trial_33
    · have hw := hw.2 c_5
      refine lv_iload_n hx hb dX6_trial_16 rfl (lv_at hl 2 rfl) ?_
      refine lv_if_ge (tgt := 22) hx hb dX6_trial_17 (by decide) (fun c_50 => ?_) (fun c_50 => ?_)
      · have hw := hw.1 c_50
        refine lv_aload_n hx hb dX6_trial_22 rfl (lv_at hl 0 rfl) ?_
        refine u_get (C := RX6) (T := TX6) (N := 31) (v := .int (A 5 6)) hx hb hts hX6_trial_X6 hown K U 5 5 (by decide) rfl rfl 6 (by decide) (hts (.fieldLink RX6 92 "TrialSearchModel" "trials" "I") (by decide +kernel)) rfl rfl dX6_trial_23 ?_
        refine lv_bipush (v := 60) hx hb dX6_trial_26 (by decide) ?_
        refine lv_icmp_ne (tgt := 34) hx hb dX6_trial_28 (by decide) (fun c_51 => ?_) (fun c_51 => ?_)
        · have hw := hw.1 c_51
          refine lv_iload_n hx hb dX6_trial_34 rfl (lv_at hl 1 rfl) ?_
          refine lv_iconst (v := 2) hx hb dX6_trial_35 (by decide) ?_
          refine lv_icmp_ge (tgt := 66) hx hb dX6_trial_36 (by decide) (fun c_52 => ?_) (fun c_52 => ?_)
          · have hw := hw.1 c_52
            refine lv_iconst (v := 0) hx hb dX6_trial_66 (by decide) ?_
            refine lv_istore_n (lv' := [(3, .int (0 : Int32)), (0, .ref (g.2.1 5)), (1, .int a0), (2, .int a1)]) hx hb dX6_trial_67 rfl hl (by decide) rfl (fun ls hl => ?_)
            obtain ⟨n_53, hw⟩ := hw
            refine t_X6_trial_68 C K hw U (lv_sub hl [1, 3, 0] rfl) (fun A_54 H locs ls U hl hw => ?_)
            refine lv_aload_n hx hb dX6_trial_121 rfl (lv_at hl 0 rfl) ?_
            refine lv_aload_n hx hb dX6_trial_122 rfl (lv_at hl 0 rfl) ?_
            refine u_cl (u_rV (As := []) (rest := [.ref (g.2.1 5)]) (C := RX6) S K U 5 5 (by decide) rfl rfl (c_X6_numberOf hw) (cwV 0 hts gX6_trial_X6_numberOf rfl rfl rfl (by decide +kernel) ⟨Nat.le_of_ble_eq_true rfl, Nat.le_of_ble_eq_true rfl⟩) rfl hl.1 rfl (Nat.le_of_ble_eq_true rfl) dX6_trial_123 ⟨Nat.zero_le _, Nat.zero_le _⟩) U (fun r_55 A_56 B_57 H locs U9 hw => ?_)
            obtain ⟨eB, hw⟩ := hw
            rw [eB] at U9
            have U := U9
            refine u_ci (u_rV (As := [.long r_55]) (rest := []) (C := RX6) S K U 5 5 (by decide) rfl rfl (c_X6_add hw) (cwV 1 hts gX6_trial_X6_add rfl rfl rfl (by decide +kernel) ⟨Nat.le_of_ble_eq_true rfl, Nat.le_of_ble_eq_true rfl⟩) rfl hl.1 rfl (Nat.le_of_ble_eq_true rfl) dX6_trial_126 ⟨Nat.zero_le _, Nat.zero_le _⟩) U (fun r_58 A_59 B_60 H locs U hw => ?_)
            exact u_iret hx hb hr hlocks U hw dX6_trial_129
          · have hw := hw.2 c_52
            refine lv_aload_n hx hb dX6_trial_39 rfl (lv_at hl 0 rfl) ?_
            refine lv_iload_n hx hb dX6_trial_40 rfl (lv_at hl 1 rfl) ?_
            refine lv_if_ne (tgt := 54) hx hb dX6_trial_41 (by decide) (fun c_61 => ?_) (fun c_61 => ?_)
            · have hw := hw.1 c_61
              refine lv_iload_n hx hb dX6_trial_54 rfl (lv_at hl 2 rfl) ?_
              refine lv_aload_n hx hb dX6_trial_55 rfl (lv_at hl 0 rfl) ?_
              refine u_cl (u_rV (As := []) (rest := [.int a1, .ref (g.2.1 5)]) (C := RX6) S K U 5 5 (by decide) rfl rfl (c_X6_points hw) (cwV 0 hts gX6_trial_X6_points rfl rfl rfl (by decide +kernel) ⟨Nat.le_of_ble_eq_true rfl, Nat.le_of_ble_eq_true rfl⟩) rfl hl.1 rfl (Nat.le_of_ble_eq_true rfl) dX6_trial_56 ⟨Nat.zero_le _, Nat.zero_le _⟩) U (fun r_62 A_63 B_64 H locs U9 hw => ?_)
              obtain ⟨eA, eB, hw⟩ := hw
              rw [eA, eB] at U9
              have U := U9
              refine u_cl (u_rS (As := [.int a1, .long r_62]) (rest := [.ref (g.2.1 5)]) S K U (c_X6_pick hw) (va_cwS 2 hts gX6_trial_X6_pick rfl rfl rfl (by decide +kernel) ⟨Nat.le_of_ble_eq_true rfl, Nat.le_of_ble_eq_true rfl⟩) rfl hl.1 rfl (Nat.le_of_ble_eq_true rfl) dX6_trial_59 ⟨Nat.zero_le _, Nat.zero_le _⟩) U (fun r_65 A_66 B_67 H locs U9 hw => ?_)
              obtain ⟨eA, eB, hw⟩ := hw
              rw [eA, eB] at U9
              have U := U9
              refine u_ci (u_rV (As := [.long r_65]) (rest := []) (C := RX6) S K U 5 5 (by decide) rfl rfl (c_X6_add hw) (cwV 1 hts gX6_trial_X6_add rfl rfl rfl (by decide +kernel) ⟨Nat.le_of_ble_eq_true rfl, Nat.le_of_ble_eq_true rfl⟩) rfl hl.1 rfl (Nat.le_of_ble_eq_true rfl) dX6_trial_62 ⟨Nat.zero_le _, Nat.zero_le _⟩) U (fun r_68 A_69 B_70 H locs U hw => ?_)
              exact u_iret hx hb hr hlocks U hw dX6_trial_65
            · have hw := hw.2 c_61
              refine lv_iload_n hx hb dX6_trial_44 rfl (lv_at hl 2 rfl) ?_
              refine lv_i2l hx hb dX6_trial_45 rfl ?_
              refine lv_aload_n hx hb dX6_trial_46 rfl (lv_at hl 0 rfl) ?_
              refine u_cl (u_rV (As := []) (rest := [.long a1.toInt64, .ref (g.2.1 5)]) (C := RX6) S K U 5 5 (by decide) rfl rfl (c_X6_points hw) (cwV 0 hts gX6_trial_X6_points rfl rfl rfl (by decide +kernel) ⟨Nat.le_of_ble_eq_true rfl, Nat.le_of_ble_eq_true rfl⟩) rfl hl.1 rfl (Nat.le_of_ble_eq_true rfl) dX6_trial_47 ⟨Nat.zero_le _, Nat.zero_le _⟩) U (fun r_71 A_72 B_73 H locs U9 hw => ?_)
              obtain ⟨eA, eB, hw⟩ := hw
              rw [eA, eB] at U9
              have U := U9
              obtain ⟨hz_74, hw⟩ := hw
              refine lv_lrem hx hb dX6_trial_50 hz_74 ?_
              refine lv_goto (tgt := 62) hx hb dX6_trial_51 (by decide) ?_
              refine u_ci (u_rV (As := [.long (a1.toInt64 - a1.toInt64 / r_71 * r_71)]) (rest := []) (C := RX6) S K U 5 5 (by decide) rfl rfl (c_X6_add hw) (cwV 1 hts gX6_trial_X6_add rfl rfl rfl (by decide +kernel) ⟨Nat.le_of_ble_eq_true rfl, Nat.le_of_ble_eq_true rfl⟩) rfl hl.1 rfl (Nat.le_of_ble_eq_true rfl) dX6_trial_62 ⟨Nat.zero_le _, Nat.zero_le _⟩) U (fun r_75 A_76 B_77 H locs U hw => ?_)
              exact u_iret hx hb hr hlocks U hw dX6_trial_65
        · have hw := hw.2 c_51
          refine lv_bipush (v := -4) hx hb dX6_trial_31 (by decide) ?_
          exact u_iret hx hb hr hlocks U hw dX6_trial_33
      · have hw := hw.2 c_50
        refine lv_iconst (v := -1) hx hb dX6_trial_20 (by decide) ?_
        exact u_iret hx hb hr hlocks U hw dX6_trial_21
set_option maxHeartbeats 4000000 in
set_option maxRecDepth 100000 in
theorem t_X6_near_3 {p : Program} {l : Launch} {e : Env} {s : State} {m : MethodId} {args : Array Value} {below : List Frame} {meth : Method} {c : Code} {g : uG} {E60 : SA → Prop} {Q : Int64 → SA → Prop} {v1 : Int64} {v3 : Int32} {B : SB} (C : uC p s m args meth c cX6_near 9 RX6 wsX6_near (some .long)) (K : UK g s) :
    ∀ {n : Nat} {v4 : Int32} {A : SA} {H : Heap} {locs : List Loc} {ls : Array Slot}, wp_X6_near_3 E60 Q v1 v3 B n v4 A → UU g A B s.heap H locs → lv_has ls 9 [(0, .ref (g.2.1 5)), (1, .long v1), (3, .int v3), (4, .int v4)] → (∀ (A : SA) (H : Heap) (locs : List Loc) (ls : Array Slot), UU g A B s.heap H locs → lv_has ls 9 [(0, .ref (g.2.1 5)), (3, .int v3)] → E60 A → W p l e rmX6_near s m args below meth c H locs 0 0 (MQ below (uQl g (fun r A1 B1 => B1 = B ∧ Q r A1 )) args s 0 0 (FA g)) (F0 m 60 ls [])) → W p l e rmX6_near s m args below meth c H locs 0 0 (MQ below (uQl g (fun r A1 B1 => B1 = B ∧ Q r A1 )) args s 0 0 (FA g)) (F0 m 3 ls []) := by
  obtain ⟨hx, hb, hml, hown, hts, hr, hlocks⟩ := id C
  have S : CallFix p m c cX6_near 9 s args wsX6_near RX6 := ⟨hx, hb, hml, hown, hts⟩
  intro n
  induction n with
  | zero => intro _ _ _ _ _ hw; exact False.elim hw
  | succ n ih =>
    intro v4 A H locs ls hw U hl h60
    refine lv_iload hx hb dX6_near_3 (lv_at hl 3 rfl) ?_
    refine lv_aload_n hx hb dX6_near_5 rfl (lv_at hl 0 rfl) ?_
    refine u_get (C := RX6) (T := TX6) (N := 31) (v := .int (A 5 6)) hx hb hts hX6_near_X6 hown K U 5 5 (by decide) rfl rfl 6 (by decide) (hts (.fieldLink RX6 92 "TrialSearchModel" "trials" "I") (by decide +kernel)) rfl rfl dX6_near_6 ?_
    refine lv_icmp_ge (tgt := 60) hx hb dX6_near_9 (by decide) (fun c_1 => ?_) (fun c_1 => ?_)
    · have hw := hw.1 c_1
      exact h60 _ _ _ _ U (lv_sub hl [0, 2] rfl) hw
    · have hw := hw.2 c_1
      refine lv_aload_n hx hb dX6_near_12 rfl (lv_at hl 0 rfl) ?_
      refine u_get (C := RX6) (T := TX6) (N := 31) (v := .ref (g.2.1 39)) hx hb hts hX6_near_X6 hown K U 5 5 (by decide) rfl rfl 12 (by decide) (hts (.fieldLink RX6 50 "TrialSearchModel" "isTaken" "[Z") (by decide +kernel)) rfl rfl dX6_near_13 ?_
      refine lv_iload hx hb dX6_near_16 (lv_at hl 3 rfl) ?_
      refine lv_iconst (v := 0) hx hb dX6_near_18 (by decide) ?_
      obtain ⟨hi_2, hw⟩ := hw
      refine u_zast (k := 39) hx hb K U rfl (by decide) rfl hi_2 dX6_near_19 (fun H locs U => ?_)
      refine lv_aload_n hx hb dX6_near_20 rfl (lv_at hl 0 rfl) ?_
      refine u_get (C := RX6) (T := TX6) (N := 31) (v := .ref (g.2.1 40)) hx hb hts hX6_near_X6 hown K U 5 5 (by decide) rfl rfl 14 (by decide) (hts (.fieldLink RX6 54 "TrialSearchModel" "far" "[I") (by decide +kernel)) rfl rfl dX6_near_21 ?_
      refine lv_iload hx hb dX6_near_24 (lv_at hl 3 rfl) ?_
      refine lv_aload_n hx hb dX6_near_26 rfl (lv_at hl 0 rfl) ?_
      refine u_get (C := RX6) (T := TX6) (N := 31) (v := .ref (g.2.1 35)) hx hb hts hX6_near_X6 hown K U 5 5 (by decide) rfl rfl 8 (by decide) (hts (.fieldLink RX6 38 "TrialSearchModel" "state" "[I") (by decide +kernel)) rfl rfl dX6_near_27 ?_
      refine lv_iload hx hb dX6_near_30 (lv_at hl 3 rfl) ?_
      obtain ⟨hi_3, hw⟩ := hw
      refine u_iald (k := 35) (v := (A 35 v4.toNatClampNeg)) hx hb K U rfl (by decide) rfl hi_3 rfl dX6_near_32 ?_
      refine lv_iconst (v := 1) hx hb dX6_near_33 (by decide) ?_
      refine lv_icmp_ne (tgt := 52) hx hb dX6_near_34 (by decide) (fun c_4 => ?_) (fun c_4 => ?_)
      · have hw := hw.1 c_4
        refine lv_iconst (v := 0) hx hb dX6_near_52 (by decide) ?_
        obtain ⟨hi_5, hw⟩ := hw
        refine u_iast (k := 40) hx hb K U rfl (by decide) rfl hi_5 dX6_near_53 (fun H locs U => ?_)
        obtain ⟨v4_6, ev4_6⟩ : ∃ y : Int32, y = v4 + 1 := ⟨_, rfl⟩
        have hw := hw v4_6 ev4_6
        refine lv_iinc (v := v4_6) (lv' := [(4, .int v4_6), (0, .ref (g.2.1 5)), (1, .long v1), (3, .int v3)]) hx hb dX6_near_54 hl (k := 3) rfl (by rw [ev4_6]; rfl) (by decide) rfl (fun ls hl => ?_)
        refine lv_goto (tgt := 3) hx hb dX6_near_57 (by decide) ?_
        exact ih hw U (lv_sub hl [1, 2, 3, 0] rfl) h60
      · have hw := hw.2 c_4
        refine lv_aload_n hx hb dX6_near_37 rfl (lv_at hl 0 rfl) ?_
        refine lv_lload_n hx hb dX6_near_38 rfl (lv_at hl 1 rfl) ?_
        refine lv_aload_n hx hb dX6_near_39 rfl (lv_at hl 0 rfl) ?_
        refine u_get (C := RX6) (T := TX6) (N := 31) (v := .ref (g.2.1 34)) hx hb hts hX6_near_X6 hown K U 5 5 (by decide) rfl rfl 7 (by decide) (hts (.fieldLink RX6 35 "TrialSearchModel" "pointOf" "[J") (by decide +kernel)) rfl rfl dX6_near_40 ?_
        refine lv_iload hx hb dX6_near_43 (lv_at hl 3 rfl) ?_
        obtain ⟨hi_7, hw⟩ := hw
        refine u_lald (k := 34) (v := (B 34 v4.toNatClampNeg)) hx hb K U rfl (by decide) rfl hi_7 rfl dX6_near_45 ?_
        refine u_ci (u_rV (As := [.long v1, .long (B 34 v4.toNatClampNeg)]) (rest := [.int v4, .ref (g.2.1 40)]) (C := RX6) S K U 5 5 (by decide) rfl rfl (c_X6_distanceOf hw) (cwV 2 hts gX6_near_X6_distanceOf rfl rfl rfl (by decide +kernel) ⟨Nat.le_of_ble_eq_true rfl, Nat.le_of_ble_eq_true rfl⟩) rfl hl.1 rfl (Nat.le_of_ble_eq_true rfl) dX6_near_46 ⟨Nat.zero_le _, Nat.zero_le _⟩) U (fun r_8 A_9 B_10 H locs U9 hw => ?_)
        obtain ⟨eB, hw⟩ := hw
        rw [eB] at U9
        have U := U9
        refine lv_goto (tgt := 53) hx hb dX6_near_49 (by decide) ?_
        obtain ⟨hi_11, hw⟩ := hw
        refine u_iast (k := 40) hx hb K U rfl (by decide) rfl hi_11 dX6_near_53 (fun H locs U => ?_)
        obtain ⟨v4_12, ev4_12⟩ : ∃ y : Int32, y = v4 + 1 := ⟨_, rfl⟩
        have hw := hw v4_12 ev4_12
        refine lv_iinc (v := v4_12) (lv' := [(4, .int v4_12), (0, .ref (g.2.1 5)), (1, .long v1), (3, .int v3)]) hx hb dX6_near_54 hl (k := 3) rfl (by rw [ev4_12]; rfl) (by decide) rfl (fun ls hl => ?_)
        refine lv_goto (tgt := 3) hx hb dX6_near_57 (by decide) ?_
        exact ih hw U (lv_sub hl [1, 2, 3, 0] rfl) h60
set_option maxHeartbeats 4000000 in
set_option maxRecDepth 100000 in
theorem t_X6_near_84 {p : Program} {l : Launch} {e : Env} {s : State} {m : MethodId} {args : Array Value} {below : List Frame} {meth : Method} {c : Code} {g : uG} {E151 : Int32 → Prop} {Q : Int64 → SA → Prop} {v3 : Int32} {v4 : Int64} {v6 : Int32} {A : SA} {B : SB} (C : uC p s m args meth c cX6_near 9 RX6 wsX6_near (some .long)) (K : UK g s) :
    ∀ {n : Nat} {v7 : Int32} {v8 : Int32} {H : Heap} {locs : List Loc} {ls : Array Slot}, wp_X6_near_84 E151 Q v3 v4 v6 A B n v7 v8 → UU g A B s.heap H locs → lv_has ls 9 [(0, .ref (g.2.1 5)), (3, .int v3), (4, .long v4), (6, .int v6), (7, .int v7), (8, .int v8)] → (∀ (v7 : Int32) (H : Heap) (locs : List Loc) (ls : Array Slot), UU g A B s.heap H locs → lv_has ls 9 [(0, .ref (g.2.1 5)), (3, .int v3), (4, .long v4), (6, .int v6), (7, .int v7)] → E151 v7 → W p l e rmX6_near s m args below meth c H locs 0 0 (MQ below (uQl g (fun r A1 B1 => B1 = B ∧ Q r A1 )) args s 0 0 (FA g)) (F0 m 151 ls [])) → W p l e rmX6_near s m args below meth c H locs 0 0 (MQ below (uQl g (fun r A1 B1 => B1 = B ∧ Q r A1 )) args s 0 0 (FA g)) (F0 m 84 ls []) := by
  obtain ⟨hx, hb, hml, hown, hts, hr, hlocks⟩ := id C
  have S : CallFix p m c cX6_near 9 s args wsX6_near RX6 := ⟨hx, hb, hml, hown, hts⟩
  intro n
  induction n with
  | zero => intro _ _ _ _ _ hw; exact False.elim hw
  | succ n ih =>
    intro v7 v8 H locs ls hw U hl h151
    refine lv_iload hx hb dX6_near_84 (lv_at hl 5 rfl) ?_
    refine lv_aload_n hx hb dX6_near_86 rfl (lv_at hl 0 rfl) ?_
    refine u_get (C := RX6) (T := TX6) (N := 31) (v := .int (A 5 6)) hx hb hts hX6_near_X6 hown K U 5 5 (by decide) rfl rfl 6 (by decide) (hts (.fieldLink RX6 92 "TrialSearchModel" "trials" "I") (by decide +kernel)) rfl rfl dX6_near_87 ?_
    refine lv_icmp_ge (tgt := 151) hx hb dX6_near_90 (by decide) (fun c_16 => ?_) (fun c_16 => ?_)
    · have hw := hw.1 c_16
      exact h151 _ _ _ _ U (lv_sub hl [0, 1, 2, 3, 4] rfl) hw
    · have hw := hw.2 c_16
      refine lv_aload_n hx hb dX6_near_93 rfl (lv_at hl 0 rfl) ?_
      refine u_get (C := RX6) (T := TX6) (N := 31) (v := .ref (g.2.1 35)) hx hb hts hX6_near_X6 hown K U 5 5 (by decide) rfl rfl 8 (by decide) (hts (.fieldLink RX6 38 "TrialSearchModel" "state" "[I") (by decide +kernel)) rfl rfl dX6_near_94 ?_
      refine lv_iload hx hb dX6_near_97 (lv_at hl 5 rfl) ?_
      obtain ⟨hi_17, hw⟩ := hw
      refine u_iald (k := 35) (v := (A 35 v8.toNatClampNeg)) hx hb K U rfl (by decide) rfl hi_17 rfl dX6_near_99 ?_
      refine lv_iconst (v := 1) hx hb dX6_near_100 (by decide) ?_
      refine lv_icmp_ne (tgt := 141) hx hb dX6_near_101 (by decide) (fun c_18 => ?_) (fun c_18 => ?_)
      · have hw := hw.1 c_18
        refine lv_iload hx hb dX6_near_141 (lv_at hl 4 rfl) ?_
        refine lv_istore (lv' := [(7, .int v7), (0, .ref (g.2.1 5)), (3, .int v3), (4, .long v4), (6, .int v6), (8, .int v8)]) hx hb dX6_near_143 hl (by decide) rfl (fun ls hl => ?_)
        obtain ⟨v8_19, ev8_19⟩ : ∃ y : Int32, y = v8 + 1 := ⟨_, rfl⟩
        have hw := hw v8_19 ev8_19
        refine lv_iinc (v := v8_19) (lv' := [(8, .int v8_19), (7, .int v7), (0, .ref (g.2.1 5)), (3, .int v3), (4, .long v4), (6, .int v6)]) hx hb dX6_near_145 hl (k := 5) rfl (by rw [ev8_19]; rfl) (by decide) rfl (fun ls hl => ?_)
        refine lv_goto (tgt := 84) hx hb dX6_near_148 (by decide) ?_
        exact ih hw U (lv_sub hl [2, 3, 4, 5, 1, 0] rfl) h151
      · have hw := hw.2 c_18
        refine lv_aload_n hx hb dX6_near_104 rfl (lv_at hl 0 rfl) ?_
        refine u_get (C := RX6) (T := TX6) (N := 31) (v := .ref (g.2.1 39)) hx hb hts hX6_near_X6 hown K U 5 5 (by decide) rfl rfl 12 (by decide) (hts (.fieldLink RX6 50 "TrialSearchModel" "isTaken" "[Z") (by decide +kernel)) rfl rfl dX6_near_105 ?_
        refine lv_iload hx hb dX6_near_108 (lv_at hl 5 rfl) ?_
        obtain ⟨hi_20, hw⟩ := hw
        refine u_zald (k := 39) (v := (A 39 v8.toNatClampNeg)) hx hb K U rfl (by decide) rfl hi_20 rfl dX6_near_110 ?_
        refine lv_if_ne (tgt := 141) hx hb dX6_near_111 (by decide) (fun c_21 => ?_) (fun c_21 => ?_)
        · have hw := hw.1 c_21
          refine lv_iload hx hb dX6_near_141 (lv_at hl 4 rfl) ?_
          refine lv_istore (lv' := [(7, .int v7), (0, .ref (g.2.1 5)), (3, .int v3), (4, .long v4), (6, .int v6), (8, .int v8)]) hx hb dX6_near_143 hl (by decide) rfl (fun ls hl => ?_)
          obtain ⟨v8_22, ev8_22⟩ : ∃ y : Int32, y = v8 + 1 := ⟨_, rfl⟩
          have hw := hw v8_22 ev8_22
          refine lv_iinc (v := v8_22) (lv' := [(8, .int v8_22), (7, .int v7), (0, .ref (g.2.1 5)), (3, .int v3), (4, .long v4), (6, .int v6)]) hx hb dX6_near_145 hl (k := 5) rfl (by rw [ev8_22]; rfl) (by decide) rfl (fun ls hl => ?_)
          refine lv_goto (tgt := 84) hx hb dX6_near_148 (by decide) ?_
          exact ih hw U (lv_sub hl [2, 3, 4, 5, 1, 0] rfl) h151
        · have hw := hw.2 c_21
          refine lv_iload hx hb dX6_near_114 (lv_at hl 4 rfl) ?_
          refine lv_if_lt (tgt := 136) hx hb dX6_near_116 (by decide) (fun c_23 => ?_) (fun c_23 => ?_)
          · have hw := hw.1 c_23
            refine lv_iload hx hb dX6_near_136 (lv_at hl 5 rfl) ?_
            refine lv_goto (tgt := 143) hx hb dX6_near_138 (by decide) ?_
            refine lv_istore (lv' := [(7, .int v8), (0, .ref (g.2.1 5)), (3, .int v3), (4, .long v4), (6, .int v6), (8, .int v8)]) hx hb dX6_near_143 hl (by decide) rfl (fun ls hl => ?_)
            obtain ⟨v8_24, ev8_24⟩ : ∃ y : Int32, y = v8 + 1 := ⟨_, rfl⟩
            have hw := hw v8_24 ev8_24
            refine lv_iinc (v := v8_24) (lv' := [(8, .int v8_24), (7, .int v8), (0, .ref (g.2.1 5)), (3, .int v3), (4, .long v4), (6, .int v6)]) hx hb dX6_near_145 hl (k := 5) rfl (by rw [ev8_24]; rfl) (by decide) rfl (fun ls hl => ?_)
            refine lv_goto (tgt := 84) hx hb dX6_near_148 (by decide) ?_
            exact ih hw U (lv_sub hl [2, 3, 4, 5, 1, 0] rfl) h151
          · have hw := hw.2 c_23
            refine lv_aload_n hx hb dX6_near_119 rfl (lv_at hl 0 rfl) ?_
            refine u_get (C := RX6) (T := TX6) (N := 31) (v := .ref (g.2.1 40)) hx hb hts hX6_near_X6 hown K U 5 5 (by decide) rfl rfl 14 (by decide) (hts (.fieldLink RX6 54 "TrialSearchModel" "far" "[I") (by decide +kernel)) rfl rfl dX6_near_120 ?_
            refine lv_iload hx hb dX6_near_123 (lv_at hl 5 rfl) ?_
            obtain ⟨hi_25, hw⟩ := hw
            refine u_iald (k := 40) (v := (A 40 v8.toNatClampNeg)) hx hb K U rfl (by decide) rfl hi_25 rfl dX6_near_125 ?_
            refine lv_aload_n hx hb dX6_near_126 rfl (lv_at hl 0 rfl) ?_
            refine u_get (C := RX6) (T := TX6) (N := 31) (v := .ref (g.2.1 40)) hx hb hts hX6_near_X6 hown K U 5 5 (by decide) rfl rfl 14 (by decide) (hts (.fieldLink RX6 54 "TrialSearchModel" "far" "[I") (by decide +kernel)) rfl rfl dX6_near_127 ?_
            refine lv_iload hx hb dX6_near_130 (lv_at hl 4 rfl) ?_
            obtain ⟨hi_26, hw⟩ := hw
            refine u_iald (k := 40) (v := (A 40 v7.toNatClampNeg)) hx hb K U rfl (by decide) rfl hi_26 rfl dX6_near_132 ?_
            refine lv_icmp_ge (tgt := 141) hx hb dX6_near_133 (by decide) (fun c_27 => ?_) (fun c_27 => ?_)
            · have hw := hw.1 c_27
              refine lv_iload hx hb dX6_near_141 (lv_at hl 4 rfl) ?_
              refine lv_istore (lv' := [(7, .int v7), (0, .ref (g.2.1 5)), (3, .int v3), (4, .long v4), (6, .int v6), (8, .int v8)]) hx hb dX6_near_143 hl (by decide) rfl (fun ls hl => ?_)
              obtain ⟨v8_28, ev8_28⟩ : ∃ y : Int32, y = v8 + 1 := ⟨_, rfl⟩
              have hw := hw v8_28 ev8_28
              refine lv_iinc (v := v8_28) (lv' := [(8, .int v8_28), (7, .int v7), (0, .ref (g.2.1 5)), (3, .int v3), (4, .long v4), (6, .int v6)]) hx hb dX6_near_145 hl (k := 5) rfl (by rw [ev8_28]; rfl) (by decide) rfl (fun ls hl => ?_)
              refine lv_goto (tgt := 84) hx hb dX6_near_148 (by decide) ?_
              exact ih hw U (lv_sub hl [2, 3, 4, 5, 1, 0] rfl) h151
            · have hw := hw.2 c_27
              refine lv_iload hx hb dX6_near_136 (lv_at hl 5 rfl) ?_
              refine lv_goto (tgt := 143) hx hb dX6_near_138 (by decide) ?_
              refine lv_istore (lv' := [(7, .int v8), (0, .ref (g.2.1 5)), (3, .int v3), (4, .long v4), (6, .int v6), (8, .int v8)]) hx hb dX6_near_143 hl (by decide) rfl (fun ls hl => ?_)
              obtain ⟨v8_29, ev8_29⟩ : ∃ y : Int32, y = v8 + 1 := ⟨_, rfl⟩
              have hw := hw v8_29 ev8_29
              refine lv_iinc (v := v8_29) (lv' := [(8, .int v8_29), (7, .int v8), (0, .ref (g.2.1 5)), (3, .int v3), (4, .long v4), (6, .int v6)]) hx hb dX6_near_145 hl (k := 5) rfl (by rw [ev8_29]; rfl) (by decide) rfl (fun ls hl => ?_)
              refine lv_goto (tgt := 84) hx hb dX6_near_148 (by decide) ?_
              exact ih hw U (lv_sub hl [2, 3, 4, 5, 1, 0] rfl) h151
set_option maxHeartbeats 4000000 in
set_option maxRecDepth 100000 in
theorem t_X6_near_71 {p : Program} {l : Launch} {e : Env} {s : State} {m : MethodId} {args : Array Value} {below : List Frame} {meth : Method} {c : Code} {g : uG} {E193 : Int64 → SA → Prop} {Q : Int64 → SA → Prop} {v3 : Int32} {B : SB} (C : uC p s m args meth c cX6_near 9 RX6 wsX6_near (some .long)) (K : UK g s) :
    ∀ {n : Nat} {v4 : Int64} {v6 : Int32} {A : SA} {H : Heap} {locs : List Loc} {ls : Array Slot}, wp_X6_near_71 E193 Q v3 B n v4 v6 A → UU g A B s.heap H locs → lv_has ls 9 [(0, .ref (g.2.1 5)), (3, .int v3), (4, .long v4), (6, .int v6)] → (∀ (v4 : Int64) (A : SA) (H : Heap) (locs : List Loc) (ls : Array Slot), UU g A B s.heap H locs → lv_has ls 9 [(4, .long v4)] → E193 v4 A → W p l e rmX6_near s m args below meth c H locs 0 0 (MQ below (uQl g (fun r A1 B1 => B1 = B ∧ Q r A1 )) args s 0 0 (FA g)) (F0 m 193 ls [])) → W p l e rmX6_near s m args below meth c H locs 0 0 (MQ below (uQl g (fun r A1 B1 => B1 = B ∧ Q r A1 )) args s 0 0 (FA g)) (F0 m 71 ls []) := by
  obtain ⟨hx, hb, hml, hown, hts, hr, hlocks⟩ := id C
  have S : CallFix p m c cX6_near 9 s args wsX6_near RX6 := ⟨hx, hb, hml, hown, hts⟩
  intro n
  induction n with
  | zero => intro _ _ _ _ _ _ hw; exact False.elim hw
  | succ n ih =>
    intro v4 v6 A H locs ls hw U hl h193
    refine lv_iload hx hb dX6_near_71 (lv_at hl 3 rfl) ?_
    refine lv_iload_n hx hb dX6_near_73 rfl (lv_at hl 1 rfl) ?_
    refine lv_icmp_ge (tgt := 193) hx hb dX6_near_74 (by decide) (fun c_15 => ?_) (fun c_15 => ?_)
    · have hw := hw.1 c_15
      exact h193 _ _ _ _ _ U (lv_sub hl [2] rfl) hw
    · have hw := hw.2 c_15
      refine lv_bipush (v := -2) hx hb dX6_near_77 (by decide) ?_
      refine lv_istore (lv' := [(7, .int (-2 : Int32)), (0, .ref (g.2.1 5)), (3, .int v3), (4, .long v4), (6, .int v6)]) hx hb dX6_near_79 hl (by decide) rfl (fun ls hl => ?_)
      refine lv_iconst (v := 0) hx hb dX6_near_81 (by decide) ?_
      refine lv_istore (lv' := [(8, .int (0 : Int32)), (7, .int (-2 : Int32)), (0, .ref (g.2.1 5)), (3, .int v3), (4, .long v4), (6, .int v6)]) hx hb dX6_near_82 hl (by decide) rfl (fun ls hl => ?_)
      obtain ⟨n_30, hw⟩ := hw
      refine t_X6_near_84 C K hw U (lv_sub hl [2, 3, 4, 5, 1, 0] rfl) (fun v7_31 H locs ls U hl hw => ?_)
      refine lv_iload hx hb dX6_near_151 (lv_at hl 4 rfl) ?_
      refine lv_if_lt (tgt := 187) hx hb dX6_near_153 (by decide) (fun c_32 => ?_) (fun c_32 => ?_)
      · have hw := hw.1 c_32
        obtain ⟨v6_33, ev6_33⟩ : ∃ y : Int32, y = v6 + 1 := ⟨_, rfl⟩
        have hw := hw v6_33 ev6_33
        refine lv_iinc (v := v6_33) (lv' := [(6, .int v6_33), (0, .ref (g.2.1 5)), (3, .int v3), (4, .long v4), (7, .int v7_31)]) hx hb dX6_near_187 hl (k := 3) rfl (by rw [ev6_33]; rfl) (by decide) rfl (fun ls hl => ?_)
        refine lv_goto (tgt := 71) hx hb dX6_near_190 (by decide) ?_
        exact ih hw U (lv_sub hl [1, 2, 3, 0] rfl) h193
      · have hw := hw.2 c_32
        refine lv_aload_n hx hb dX6_near_156 rfl (lv_at hl 0 rfl) ?_
        refine u_get (C := RX6) (T := TX6) (N := 31) (v := .ref (g.2.1 39)) hx hb hts hX6_near_X6 hown K U 5 5 (by decide) rfl rfl 12 (by decide) (hts (.fieldLink RX6 50 "TrialSearchModel" "isTaken" "[Z") (by decide +kernel)) rfl rfl dX6_near_157 ?_
        refine lv_iload hx hb dX6_near_160 (lv_at hl 4 rfl) ?_
        refine lv_iconst (v := 1) hx hb dX6_near_162 (by decide) ?_
        obtain ⟨hi_34, hw⟩ := hw
        refine u_zast (k := 39) hx hb K U rfl (by decide) rfl hi_34 dX6_near_163 (fun H locs U => ?_)
        refine lv_aload_n hx hb dX6_near_164 rfl (lv_at hl 0 rfl) ?_
        refine lv_dup hx hb dX6_near_165 rfl ?_
        refine u_get (C := RX6) (T := TX6) (N := 31) (v := .int (A 5 13)) hx hb hts hX6_near_X6 hown K U 5 5 (by decide) rfl rfl 13 (by decide) (hts (.fieldLink RX6 139 "TrialSearchModel" "taken" "I") (by decide +kernel)) rfl rfl dX6_near_166 ?_
        refine lv_iconst (v := 1) hx hb dX6_near_169 (by decide) ?_
        refine lv_iadd hx hb dX6_near_170 ?_
        refine lv_topi (fun x_35 ex_35 => ?_)
        have hw := hw x_35 ex_35
        refine u_puti (ty := .int) (C := RX6) (T := TX6) (N := 31) hx hb hts hX6_near_X6 tyX6 tyX6_ok nmX6 hown K U 5 5 (by decide) rfl rfl 13 (by decide) (hts (.fieldLink RX6 139 "TrialSearchModel" "taken" "I") (by decide +kernel)) rfl rfl (by decide +kernel) rfl rfl (Nat.le_of_ble_eq_true rfl) rfl dX6_near_171 (fun H locs U => ?_)
        refine lv_lload hx hb dX6_near_174 (lv_at hl 2 rfl) ?_
        refine lv_aload_n hx hb dX6_near_176 rfl (lv_at hl 0 rfl) ?_
        refine u_get (C := RX6) (T := TX6) (N := 31) (v := .ref (g.2.1 36)) hx hb hts hX6_near_X6 hown K U 5 5 (by decide) rfl rfl 9 (by decide) (hts (.fieldLink RX6 41 "TrialSearchModel" "score" "[I") (by decide +kernel)) rfl rfl dX6_near_177 ?_
        refine lv_iload hx hb dX6_near_180 (lv_at hl 4 rfl) ?_
        obtain ⟨hi_36, hw⟩ := hw
        refine u_iald (k := 36) (v := (A 36 v7_31.toNatClampNeg)) hx hb K U rfl (by decide) rfl hi_36 rfl dX6_near_182 ?_
        refine lv_i2l hx hb dX6_near_183 rfl ?_
        refine lv_ladd hx hb dX6_near_184 ?_
        refine lv_topl (fun x_37 ex_37 => ?_)
        have hw := hw x_37 ex_37
        refine lv_lstore (lv' := [(4, .long x_37), (0, .ref (g.2.1 5)), (3, .int v3), (6, .int v6), (7, .int v7_31)]) hx hb dX6_near_185 hl (by decide) rfl (fun ls hl => ?_)
        obtain ⟨v6_38, ev6_38⟩ : ∃ y : Int32, y = v6 + 1 := ⟨_, rfl⟩
        have hw := hw v6_38 ev6_38
        refine lv_iinc (v := v6_38) (lv' := [(6, .int v6_38), (4, .long x_37), (0, .ref (g.2.1 5)), (3, .int v3), (7, .int v7_31)]) hx hb dX6_near_187 hl (k := 3) rfl (by rw [ev6_38]; rfl) (by decide) rfl (fun ls hl => ?_)
        refine lv_goto (tgt := 71) hx hb dX6_near_190 (by decide) ?_
        exact ih hw U (lv_sub hl [2, 3, 1, 0] rfl) h193
set_option maxHeartbeats 4000000 in
set_option maxRecDepth 100000 in
theorem c_X6_near {l : Launch} {g : uG} {a0 : Int64} {a1 : Int32} {A : SA} {B : SB} {Q : Int64 → SA → Prop} (hw : wp_X6_near a0 a1 A B Q) : ML l yX6_near wsX6_near rmX6_near g A B [.ref (g.2.1 5), .long a0, .int a1] (fun r A1 B1 => B1 = B ∧ Q r A1 ) := by
  refine u_of (cc := cX6_near) (maxL := 9) (ret := (some .long)) (by decide) rfl (Nat.le_of_ble_eq_true rfl) ?_
  intro p e s m below meth c ls C K U hl
  obtain ⟨hx, hb, hml, hown, hts, hr, hlocks⟩ := id C
  have S : CallFix p m c cX6_near 9 s ([.ref (g.2.1 5), .long a0, .int a1] : List Value).toArray wsX6_near RX6 := ⟨hx, hb, hml, hown, hts⟩
  have hl : lv_has ls 9 [(0, .ref (g.2.1 5)), (1, .long a0), (3, .int a1)] := hl
  refine lv_iconst (v := 0) hx hb dX6_near_0 (by decide) ?_
  refine lv_istore (lv' := [(4, .int (0 : Int32)), (0, .ref (g.2.1 5)), (1, .long a0), (3, .int a1)]) hx hb dX6_near_1 hl (by decide) rfl (fun ls hl => ?_)
  obtain ⟨n_13, hw⟩ := hw
  refine t_X6_near_3 C K hw U (lv_sub hl [1, 2, 3, 0] rfl) (fun A_14 H locs ls U hl hw => ?_)
  refine lv_aload_n hx hb dX6_near_60 rfl (lv_at hl 0 rfl) ?_
  refine lv_iconst (v := 0) hx hb dX6_near_61 (by decide) ?_
  refine u_puti (ty := .int) (C := RX6) (T := TX6) (N := 31) hx hb hts hX6_near_X6 tyX6 tyX6_ok nmX6 hown K U 5 5 (by decide) rfl rfl 13 (by decide) (hts (.fieldLink RX6 139 "TrialSearchModel" "taken" "I") (by decide +kernel)) rfl rfl (by decide +kernel) rfl rfl (Nat.le_of_ble_eq_true rfl) rfl dX6_near_62 (fun H locs U => ?_)
  refine lv_lconst (v := 0) hx hb dX6_near_65 (by decide) ?_
  refine lv_lstore (lv' := [(4, .long (0 : Int64)), (0, .ref (g.2.1 5)), (3, .int a1)]) hx hb dX6_near_66 hl (by decide) rfl (fun ls hl => ?_)
  refine lv_iconst (v := 0) hx hb dX6_near_68 (by decide) ?_
  refine lv_istore (lv' := [(6, .int (0 : Int32)), (4, .long (0 : Int64)), (0, .ref (g.2.1 5)), (3, .int a1)]) hx hb dX6_near_69 hl (by decide) rfl (fun ls hl => ?_)
  obtain ⟨n_39, hw⟩ := hw
  refine t_X6_near_71 C K hw U (lv_sub hl [2, 3, 1, 0] rfl) (fun v4_40 A_41 H locs ls U hl hw => ?_)
  refine lv_lload hx hb dX6_near_193 (lv_at hl 0 rfl) ?_
  exact u_lret hx hb hr hlocks U ⟨rfl, hw⟩ dX6_near_195
set_option maxHeartbeats 4000000 in
set_option maxRecDepth 100000 in
theorem t_X6_guess_64 {p : Program} {l : Launch} {e : Env} {s : State} {m : MethodId} {args : Array Value} {below : List Frame} {meth : Method} {c : Code} {g : uG} {E123 : Int64 → SA → Prop} {Q : Int32 → SA → SB → Prop} {v1 : Int32} {v2 : Int32} {v3 : Int32} {B : SB} (C : uC p s m args meth c cX6_guess 13 RX6 wsX6_guess (some .int)) (K : UK g s) :
    ∀ {n : Nat} {v4 : Int64} {v6 : Int64} {v8 : Int32} {A : SA} {H : Heap} {locs : List Loc} {ls : Array Slot}, wp_X6_guess_64 E123 Q v1 v2 v3 B n v4 v6 v8 A → UU g A B s.heap H locs → lv_has ls 13 [(0, .ref (g.2.1 5)), (1, .int v1), (2, .int v2), (3, .int v3), (4, .long v4), (6, .long v6), (8, .int v8)] → (∀ (v4 : Int64) (A : SA) (H : Heap) (locs : List Loc) (ls : Array Slot), UU g A B s.heap H locs → lv_has ls 13 [(0, .ref (g.2.1 5)), (4, .long v4)] → E123 v4 A → W p l e rmX6_guess s m args below meth c H locs 0 0 (MQ below (uQi g Q) args s 0 0 (FA g)) (F0 m 123 ls [])) → W p l e rmX6_guess s m args below meth c H locs 0 0 (MQ below (uQi g Q) args s 0 0 (FA g)) (F0 m 64 ls []) := by
  obtain ⟨hx, hb, hml, hown, hts, hr, hlocks⟩ := id C
  have S : CallFix p m c cX6_guess 13 s args wsX6_guess RX6 := ⟨hx, hb, hml, hown, hts⟩
  intro n
  induction n with
  | zero => intro _ _ _ _ _ _ _ hw; exact False.elim hw
  | succ n ih =>
    intro v4 v6 v8 A H locs ls hw U hl h123
    refine lv_iload hx hb dX6_guess_64 (lv_at hl 6 rfl) ?_
    refine lv_iload_n hx hb dX6_guess_66 rfl (lv_at hl 2 rfl) ?_
    refine lv_icmp_ge (tgt := 123) hx hb dX6_guess_67 (by decide) (fun c_22 => ?_) (fun c_22 => ?_)
    · have hw := hw.1 c_22
      exact h123 _ _ _ _ _ U (lv_sub hl [0, 4] rfl) hw
    · have hw := hw.2 c_22
      refine lv_aload_n hx hb dX6_guess_70 rfl (lv_at hl 0 rfl) ?_
      refine u_get (C := RX6) (T := TX6) (N := 31) (v := .int (A 5 13)) hx hb hts hX6_guess_X6 hown K U 5 5 (by decide) rfl rfl 13 (by decide) (hts (.fieldLink RX6 139 "TrialSearchModel" "taken" "I") (by decide +kernel)) rfl rfl dX6_guess_71 ?_
      refine lv_if_le (tgt := 123) hx hb dX6_guess_74 (by decide) (fun c_23 => ?_) (fun c_23 => ?_)
      · have hw := hw.1 c_23
        exact h123 _ _ _ _ _ U (lv_sub hl [0, 4] rfl) hw
      · have hw := hw.2 c_23
        refine lv_iload_n hx hb dX6_guess_77 rfl (lv_at hl 1 rfl) ?_
        refine lv_iload hx hb dX6_guess_78 (lv_at hl 6 rfl) ?_
        refine u_ci (u_rS (As := [.int v1, .int v8]) (rest := []) S K U (c_X6_hash hw) (va_cwS 2 hts gX6_guess_X6_hash rfl rfl rfl (by decide +kernel) ⟨Nat.le_of_ble_eq_true rfl, Nat.le_of_ble_eq_true rfl⟩) rfl hl.1 rfl (Nat.le_of_ble_eq_true rfl) dX6_guess_80 ⟨Nat.zero_le _, Nat.zero_le _⟩) U (fun r_24 A_25 B_26 H locs U9 hw => ?_)
        obtain ⟨eA, eB, hw⟩ := hw
        rw [eA, eB] at U9
        have U := U9
        refine lv_aload_n hx hb dX6_guess_83 rfl (lv_at hl 0 rfl) ?_
        refine u_cl (u_rV (As := []) (rest := [.int r_24]) (C := RX6) S K U 5 5 (by decide) rfl rfl (c_X6_points hw) (cwV 0 hts gX6_guess_X6_points rfl rfl rfl (by decide +kernel) ⟨Nat.le_of_ble_eq_true rfl, Nat.le_of_ble_eq_true rfl⟩) rfl hl.1 rfl (Nat.le_of_ble_eq_true rfl) dX6_guess_84 ⟨Nat.zero_le _, Nat.zero_le _⟩) U (fun r_27 A_28 B_29 H locs U9 hw => ?_)
        obtain ⟨eA, eB, hw⟩ := hw
        rw [eA, eB] at U9
        have U := U9
        refine u_cl (u_rS (As := [.int r_24, .long r_27]) (rest := []) S K U (c_X6_pick hw) (va_cwS 2 hts gX6_guess_X6_pick rfl rfl rfl (by decide +kernel) ⟨Nat.le_of_ble_eq_true rfl, Nat.le_of_ble_eq_true rfl⟩) rfl hl.1 rfl (Nat.le_of_ble_eq_true rfl) dX6_guess_87 ⟨Nat.zero_le _, Nat.zero_le _⟩) U (fun r_30 A_31 B_32 H locs U9 hw => ?_)
        obtain ⟨eA, eB, hw⟩ := hw
        rw [eA, eB] at U9
        have U := U9
        refine lv_lstore (lv' := [(9, .long r_30), (0, .ref (g.2.1 5)), (1, .int v1), (2, .int v2), (3, .int v3), (4, .long v4), (6, .long v6), (8, .int v8)]) hx hb dX6_guess_90 hl (by decide) rfl (fun ls hl => ?_)
        refine lv_aload_n hx hb dX6_guess_92 rfl (lv_at hl 1 rfl) ?_
        refine lv_lload hx hb dX6_guess_93 (lv_at hl 0 rfl) ?_
        refine lv_iload_n hx hb dX6_guess_95 rfl (lv_at hl 4 rfl) ?_
        refine u_cl (u_rV (As := [.long r_30, .int v3]) (rest := []) (C := RX6) S K U 5 5 (by decide) rfl rfl (c_X6_near hw) (cwV 2 hts gX6_guess_X6_near rfl rfl rfl (by decide +kernel) ⟨Nat.le_of_ble_eq_true rfl, Nat.le_of_ble_eq_true rfl⟩) rfl hl.1 rfl (Nat.le_of_ble_eq_true rfl) dX6_guess_96 ⟨Nat.zero_le _, Nat.zero_le _⟩) U (fun r_33 A_34 B_35 H locs U9 hw => ?_)
        obtain ⟨eB, hw⟩ := hw
        rw [eB] at U9
        have U := U9
        refine lv_lstore (lv' := [(11, .long r_33), (9, .long r_30), (0, .ref (g.2.1 5)), (1, .int v1), (2, .int v2), (3, .int v3), (4, .long v4), (6, .long v6), (8, .int v8)]) hx hb dX6_guess_99 hl (by decide) rfl (fun ls hl => ?_)
        refine lv_lload hx hb dX6_guess_101 (lv_at hl 0 rfl) ?_
        refine lv_lload hx hb dX6_guess_103 (lv_at hl 7 rfl) ?_
        refine u_lc_le (tgt := 117) hx hb dX6_guess_105 dX6_guess_106 (by decide) (fun c_36 => ?_) (fun c_36 => ?_)
        · have hw := hw.1 c_36
          obtain ⟨v8_37, ev8_37⟩ : ∃ y : Int32, y = v8 + 1 := ⟨_, rfl⟩
          have hw := hw v8_37 ev8_37
          refine lv_iinc (v := v8_37) (lv' := [(8, .int v8_37), (11, .long r_33), (9, .long r_30), (0, .ref (g.2.1 5)), (1, .int v1), (2, .int v2), (3, .int v3), (4, .long v4), (6, .long v6)]) hx hb dX6_guess_117 hl (k := 8) rfl (by rw [ev8_37]; rfl) (by decide) rfl (fun ls hl => ?_)
          refine lv_goto (tgt := 64) hx hb dX6_guess_120 (by decide) ?_
          exact ih hw U (lv_sub hl [3, 4, 5, 6, 7, 8, 0] rfl) h123
        · have hw := hw.2 c_36
          refine lv_lload hx hb dX6_guess_109 (lv_at hl 0 rfl) ?_
          refine lv_lstore (lv' := [(6, .long r_33), (11, .long r_33), (9, .long r_30), (0, .ref (g.2.1 5)), (1, .int v1), (2, .int v2), (3, .int v3), (4, .long v4), (8, .int v8)]) hx hb dX6_guess_111 hl (by decide) rfl (fun ls hl => ?_)
          refine lv_lload hx hb dX6_guess_113 (lv_at hl 2 rfl) ?_
          refine lv_lstore (lv' := [(4, .long r_30), (6, .long r_33), (11, .long r_33), (9, .long r_30), (0, .ref (g.2.1 5)), (1, .int v1), (2, .int v2), (3, .int v3), (8, .int v8)]) hx hb dX6_guess_115 hl (by decide) rfl (fun ls hl => ?_)
          obtain ⟨v8_38, ev8_38⟩ : ∃ y : Int32, y = v8 + 1 := ⟨_, rfl⟩
          have hw := hw v8_38 ev8_38
          refine lv_iinc (v := v8_38) (lv' := [(8, .int v8_38), (4, .long r_30), (6, .long r_33), (11, .long r_33), (9, .long r_30), (0, .ref (g.2.1 5)), (1, .int v1), (2, .int v2), (3, .int v3)]) hx hb dX6_guess_117 hl (k := 8) rfl (by rw [ev8_38]; rfl) (by decide) rfl (fun ls hl => ?_)
          refine lv_goto (tgt := 64) hx hb dX6_guess_120 (by decide) ?_
          exact ih hw U (lv_sub hl [5, 6, 7, 8, 1, 2, 0] rfl) h123
set_option maxHeartbeats 4000000 in
set_option maxRecDepth 100000 in
theorem c_X6_guess {l : Launch} {g : uG} {a0 : Int32} {a1 : Int32} {a2 : Int32} {A : SA} {B : SB} {Q : Int32 → SA → SB → Prop} (hw : wp_X6_guess a0 a1 a2 A B Q) : MI l yX6_guess wsX6_guess rmX6_guess g A B [.ref (g.2.1 5), .int a0, .int a1, .int a2] Q := by
  refine u_of (cc := cX6_guess) (maxL := 13) (ret := (some .int)) (by decide) rfl (Nat.le_of_ble_eq_true rfl) ?_
  intro p e s m below meth c ls C K U hl
  obtain ⟨hx, hb, hml, hown, hts, hr, hlocks⟩ := id C
  have S : CallFix p m c cX6_guess 13 s ([.ref (g.2.1 5), .int a0, .int a1, .int a2] : List Value).toArray wsX6_guess RX6 := ⟨hx, hb, hml, hown, hts⟩
  have hl : lv_has ls 13 [(0, .ref (g.2.1 5)), (1, .int a0), (2, .int a1), (3, .int a2)] := hl
  refine lv_iload_n hx hb dX6_guess_0 rfl (lv_at hl 2 rfl) ?_
  refine lv_i2l hx hb dX6_guess_1 rfl ?_
  refine lv_lconst (v := 1) hx hb dX6_guess_2 (by decide) ?_
  refine lv_ldc2 (v := 40) hx hb hown (hts (.constantLong RX6 142 (40)) (by decide +kernel)) dX6_guess_3 ?_
  refine u_ci (u_rS (As := [.long a1.toInt64, .long (1 : Int64), .long (40 : Int64)]) (rest := []) S K U (c_X6_in hw) (va_cwS 3 hts gX6_guess_X6_in rfl rfl rfl (by decide +kernel) ⟨Nat.le_of_ble_eq_true rfl, Nat.le_of_ble_eq_true rfl⟩) rfl hl.1 rfl (Nat.le_of_ble_eq_true rfl) dX6_guess_6 ⟨Nat.zero_le _, Nat.zero_le _⟩) U (fun r_1 A_2 B_3 H locs U9 hw => ?_)
  obtain ⟨eA, eB, hw⟩ := hw
  rw [eA, eB] at U9
  have U := U9
  refine lv_if_eq (tgt := 24) hx hb dX6_guess_9 (by decide) (fun c_4 => ?_) (fun c_4 => ?_)
  · have hw := hw.1 c_4
    refine lv_iconst (v := -1) hx hb dX6_guess_24 (by decide) ?_
    exact u_iret hx hb hr hlocks U hw dX6_guess_25
  · have hw := hw.2 c_4
    refine lv_iload_n hx hb dX6_guess_12 rfl (lv_at hl 3 rfl) ?_
    refine lv_i2l hx hb dX6_guess_13 rfl ?_
    refine lv_lconst (v := 1) hx hb dX6_guess_14 (by decide) ?_
    refine lv_ldc2 (v := 5) hx hb hown (hts (.constantLong RX6 144 (5)) (by decide +kernel)) dX6_guess_15 ?_
    refine u_ci (u_rS (As := [.long a2.toInt64, .long (1 : Int64), .long (5 : Int64)]) (rest := []) S K U (c_X6_in hw) (va_cwS 3 hts gX6_guess_X6_in rfl rfl rfl (by decide +kernel) ⟨Nat.le_of_ble_eq_true rfl, Nat.le_of_ble_eq_true rfl⟩) rfl hl.1 rfl (Nat.le_of_ble_eq_true rfl) dX6_guess_18 ⟨Nat.zero_le _, Nat.zero_le _⟩) U (fun r_5 A_6 B_7 H locs U9 hw => ?_)
    obtain ⟨eA, eB, hw⟩ := hw
    rw [eA, eB] at U9
    have U := U9
    refine lv_if_ne (tgt := 26) hx hb dX6_guess_21 (by decide) (fun c_8 => ?_) (fun c_8 => ?_)
    · have hw := hw.1 c_8
      refine lv_aload_n hx hb dX6_guess_26 rfl (lv_at hl 0 rfl) ?_
      refine u_get (C := RX6) (T := TX6) (N := 31) (v := .int (A 5 6)) hx hb hts hX6_guess_X6 hown K U 5 5 (by decide) rfl rfl 6 (by decide) (hts (.fieldLink RX6 92 "TrialSearchModel" "trials" "I") (by decide +kernel)) rfl rfl dX6_guess_27 ?_
      refine lv_bipush (v := 60) hx hb dX6_guess_30 (by decide) ?_
      refine lv_icmp_ne (tgt := 38) hx hb dX6_guess_32 (by decide) (fun c_9 => ?_) (fun c_9 => ?_)
      · have hw := hw.1 c_9
        refine lv_iload_n hx hb dX6_guess_38 rfl (lv_at hl 1 rfl) ?_
        refine lv_iconst (v := 0) hx hb dX6_guess_39 (by decide) ?_
        refine u_ci (u_rS (As := [.int a0, .int (0 : Int32)]) (rest := []) S K U (c_X6_hash hw) (va_cwS 2 hts gX6_guess_X6_hash rfl rfl rfl (by decide +kernel) ⟨Nat.le_of_ble_eq_true rfl, Nat.le_of_ble_eq_true rfl⟩) rfl hl.1 rfl (Nat.le_of_ble_eq_true rfl) dX6_guess_40 ⟨Nat.zero_le _, Nat.zero_le _⟩) U (fun r_10 A_11 B_12 H locs U9 hw => ?_)
        obtain ⟨eA, eB, hw⟩ := hw
        rw [eA, eB] at U9
        have U := U9
        refine lv_aload_n hx hb dX6_guess_43 rfl (lv_at hl 0 rfl) ?_
        refine u_cl (u_rV (As := []) (rest := [.int r_10]) (C := RX6) S K U 5 5 (by decide) rfl rfl (c_X6_points hw) (cwV 0 hts gX6_guess_X6_points rfl rfl rfl (by decide +kernel) ⟨Nat.le_of_ble_eq_true rfl, Nat.le_of_ble_eq_true rfl⟩) rfl hl.1 rfl (Nat.le_of_ble_eq_true rfl) dX6_guess_44 ⟨Nat.zero_le _, Nat.zero_le _⟩) U (fun r_13 A_14 B_15 H locs U9 hw => ?_)
        obtain ⟨eA, eB, hw⟩ := hw
        rw [eA, eB] at U9
        have U := U9
        refine u_cl (u_rS (As := [.int r_10, .long r_13]) (rest := []) S K U (c_X6_pick hw) (va_cwS 2 hts gX6_guess_X6_pick rfl rfl rfl (by decide +kernel) ⟨Nat.le_of_ble_eq_true rfl, Nat.le_of_ble_eq_true rfl⟩) rfl hl.1 rfl (Nat.le_of_ble_eq_true rfl) dX6_guess_47 ⟨Nat.zero_le _, Nat.zero_le _⟩) U (fun r_16 A_17 B_18 H locs U9 hw => ?_)
        obtain ⟨eA, eB, hw⟩ := hw
        rw [eA, eB] at U9
        have U := U9
        refine lv_lstore (lv' := [(4, .long r_16), (0, .ref (g.2.1 5)), (1, .int a0), (2, .int a1), (3, .int a2)]) hx hb dX6_guess_50 hl (by decide) rfl (fun ls hl => ?_)
        refine lv_aload_n hx hb dX6_guess_52 rfl (lv_at hl 1 rfl) ?_
        refine lv_lload hx hb dX6_guess_53 (lv_at hl 0 rfl) ?_
        refine lv_iload_n hx hb dX6_guess_55 rfl (lv_at hl 4 rfl) ?_
        refine u_cl (u_rV (As := [.long r_16, .int a2]) (rest := []) (C := RX6) S K U 5 5 (by decide) rfl rfl (c_X6_near hw) (cwV 2 hts gX6_guess_X6_near rfl rfl rfl (by decide +kernel) ⟨Nat.le_of_ble_eq_true rfl, Nat.le_of_ble_eq_true rfl⟩) rfl hl.1 rfl (Nat.le_of_ble_eq_true rfl) dX6_guess_56 ⟨Nat.zero_le _, Nat.zero_le _⟩) U (fun r_19 A_20 B_21 H locs U9 hw => ?_)
        obtain ⟨eB, hw⟩ := hw
        rw [eB] at U9
        have U := U9
        refine lv_lstore (lv' := [(6, .long r_19), (4, .long r_16), (0, .ref (g.2.1 5)), (1, .int a0), (2, .int a1), (3, .int a2)]) hx hb dX6_guess_59 hl (by decide) rfl (fun ls hl => ?_)
        refine lv_iconst (v := 1) hx hb dX6_guess_61 (by decide) ?_
        refine lv_istore (lv' := [(8, .int (1 : Int32)), (6, .long r_19), (4, .long r_16), (0, .ref (g.2.1 5)), (1, .int a0), (2, .int a1), (3, .int a2)]) hx hb dX6_guess_62 hl (by decide) rfl (fun ls hl => ?_)
        obtain ⟨n_39, hw⟩ := hw
        refine t_X6_guess_64 C K hw U (lv_sub hl [3, 4, 5, 6, 2, 1, 0] rfl) (fun v4_40 A_41 H locs ls U hl hw => ?_)
        refine lv_aload_n hx hb dX6_guess_123 rfl (lv_at hl 0 rfl) ?_
        refine lv_lload hx hb dX6_guess_124 (lv_at hl 1 rfl) ?_
        refine u_ci (u_rV (As := [.long v4_40]) (rest := []) (C := RX6) S K U 5 5 (by decide) rfl rfl (c_X6_add hw) (cwV 1 hts gX6_guess_X6_add rfl rfl rfl (by decide +kernel) ⟨Nat.le_of_ble_eq_true rfl, Nat.le_of_ble_eq_true rfl⟩) rfl hl.1 rfl (Nat.le_of_ble_eq_true rfl) dX6_guess_126 ⟨Nat.zero_le _, Nat.zero_le _⟩) U (fun r_42 A_43 B_44 H locs U hw => ?_)
        exact u_iret hx hb hr hlocks U hw dX6_guess_129
      · have hw := hw.2 c_9
        refine lv_bipush (v := -4) hx hb dX6_guess_35 (by decide) ?_
        exact u_iret hx hb hr hlocks U hw dX6_guess_37
    · have hw := hw.2 c_8
      refine lv_iconst (v := -1) hx hb dX6_guess_24 (by decide) ?_
      exact u_iret hx hb hr hlocks U hw dX6_guess_25
set_option maxHeartbeats 4000000 in
set_option maxRecDepth 100000 in
theorem t_X6_divisor_17 {p : Program} {l : Launch} {e : Env} {s : State} {m : MethodId} {args : Array Value} {below : List Frame} {meth : Method} {c : Code} {g : uG} {E42 : Int64 → Prop} {Q : Int64 → Prop} {A : SA} {B : SB} (C : uC p s m args meth c cX6_divisor 10 RX6 wsX6_divisor (some .long)) (K : UK g s) :
    ∀ {n : Nat} {v4 : Int64} {v6 : Int64} {H : Heap} {locs : List Loc} {ls : Array Slot}, wp_X6_divisor_17 E42 Q A B n v4 v6 → UU g A B s.heap H locs → lv_has ls 10 [(4, .long v4), (6, .long v6)] → (∀ (v4 : Int64) (H : Heap) (locs : List Loc) (ls : Array Slot), UU g A B s.heap H locs → lv_has ls 10 [(4, .long v4)] → E42 v4 → W p l e rmX6_divisor s m args below meth c H locs 0 0 (MQ below (uQl g (fun r A1 B1 => A1 = A ∧ B1 = B ∧ Q r )) args s 0 0 (FA g)) (F0 m 42 ls [])) → W p l e rmX6_divisor s m args below meth c H locs 0 0 (MQ below (uQl g (fun r A1 B1 => A1 = A ∧ B1 = B ∧ Q r )) args s 0 0 (FA g)) (F0 m 17 ls []) := by
  obtain ⟨hx, hb, hml, hown, hts, hr, hlocks⟩ := id C
  have S : CallFix p m c cX6_divisor 10 s args wsX6_divisor RX6 := ⟨hx, hb, hml, hown, hts⟩
  intro n
  induction n with
  | zero => intro _ _ _ _ _ hw; exact False.elim hw
  | succ n ih =>
    intro v4 v6 H locs ls hw U hl h42
    refine lv_lload hx hb dX6_divisor_17 (lv_at hl 1 rfl) ?_
    refine lv_lconst (v := 0) hx hb dX6_divisor_19 (by decide) ?_
    refine u_lc_eq (tgt := 42) hx hb dX6_divisor_20 dX6_divisor_21 (by decide) (fun c_2 => ?_) (fun c_2 => ?_)
    · have hw := hw.1 c_2
      exact h42 _ _ _ _ U (lv_sub hl [0] rfl) hw
    · have hw := hw.2 c_2
      refine lv_lload hx hb dX6_divisor_24 (lv_at hl 0 rfl) ?_
      refine lv_lload hx hb dX6_divisor_26 (lv_at hl 1 rfl) ?_
      obtain ⟨hz_3, hw⟩ := hw
      refine lv_lrem hx hb dX6_divisor_28 hz_3 ?_
      refine lv_topl (fun x_4 ex_4 => ?_)
      have hw := hw x_4 ex_4
      refine lv_lstore (lv' := [(8, .long x_4), (4, .long v4), (6, .long v6)]) hx hb dX6_divisor_29 hl (by decide) rfl (fun ls hl => ?_)
      refine lv_lload hx hb dX6_divisor_31 (lv_at hl 2 rfl) ?_
      refine lv_lstore (lv' := [(4, .long v6), (8, .long x_4), (6, .long v6)]) hx hb dX6_divisor_33 hl (by decide) rfl (fun ls hl => ?_)
      refine lv_lload hx hb dX6_divisor_35 (lv_at hl 1 rfl) ?_
      refine lv_lstore (lv' := [(6, .long x_4), (4, .long v6), (8, .long x_4)]) hx hb dX6_divisor_37 hl (by decide) rfl (fun ls hl => ?_)
      refine lv_goto (tgt := 17) hx hb dX6_divisor_39 (by decide) ?_
      exact ih hw U (lv_sub hl [1, 0] rfl) h42
set_option maxHeartbeats 4000000 in
set_option maxRecDepth 100000 in
theorem c_X6_divisor {l : Launch} {g : uG} {a0 : Int64} {a1 : Int64} {A : SA} {B : SB} {Q : Int64 → Prop} (hw : wp_X6_divisor a0 a1 A B Q) : ML l yX6_divisor wsX6_divisor rmX6_divisor g A B [.long a0, .long a1] (fun r A1 B1 => A1 = A ∧ B1 = B ∧ Q r ) := by
  refine u_of (cc := cX6_divisor) (maxL := 10) (ret := (some .long)) (by decide) rfl (Nat.le_of_ble_eq_true rfl) ?_
  intro p e s m below meth c ls C K U hl
  obtain ⟨hx, hb, hml, hown, hts, hr, hlocks⟩ := id C
  have S : CallFix p m c cX6_divisor 10 s ([.long a0, .long a1] : List Value).toArray wsX6_divisor RX6 := ⟨hx, hb, hml, hown, hts⟩
  have hl : lv_has ls 10 [(0, .long a0), (2, .long a1)] := hl
  refine lv_lload_n hx hb dX6_divisor_0 rfl (lv_at hl 0 rfl) ?_
  refine lv_lconst (v := 0) hx hb dX6_divisor_1 (by decide) ?_
  refine u_lc_ge (tgt := 11) hx hb dX6_divisor_2 dX6_divisor_3 (by decide) (fun c_1 => ?_) (fun c_1 => ?_)
  · have hw := hw.1 c_1
    refine lv_lload_n hx hb dX6_divisor_11 rfl (lv_at hl 0 rfl) ?_
    refine lv_lstore (lv' := [(4, .long a0), (0, .long a0), (2, .long a1)]) hx hb dX6_divisor_12 hl (by decide) rfl (fun ls hl => ?_)
    refine lv_lload_n hx hb dX6_divisor_14 rfl (lv_at hl 2 rfl) ?_
    refine lv_lstore (lv' := [(6, .long a1), (4, .long a0), (0, .long a0), (2, .long a1)]) hx hb dX6_divisor_15 hl (by decide) rfl (fun ls hl => ?_)
    obtain ⟨n_5, hw⟩ := hw
    refine t_X6_divisor_17 C K hw U (lv_sub hl [1, 0] rfl) (fun v4_6 H locs ls U hl hw => ?_)
    refine lv_lload hx hb dX6_divisor_42 (lv_at hl 0 rfl) ?_
    exact u_lret hx hb hr hlocks U ⟨rfl, rfl, hw⟩ dX6_divisor_44
  · have hw := hw.2 c_1
    refine lv_lload_n hx hb dX6_divisor_6 rfl (lv_at hl 0 rfl) ?_
    refine lv_lneg hx hb dX6_divisor_7 ?_
    refine lv_goto (tgt := 12) hx hb dX6_divisor_8 (by decide) ?_
    refine lv_topl (fun x_7 ex_7 => ?_)
    have hw := hw x_7 ex_7
    refine lv_lstore (lv' := [(4, .long x_7), (0, .long a0), (2, .long a1)]) hx hb dX6_divisor_12 hl (by decide) rfl (fun ls hl => ?_)
    refine lv_lload_n hx hb dX6_divisor_14 rfl (lv_at hl 2 rfl) ?_
    refine lv_lstore (lv' := [(6, .long a1), (4, .long x_7), (0, .long a0), (2, .long a1)]) hx hb dX6_divisor_15 hl (by decide) rfl (fun ls hl => ?_)
    obtain ⟨n_8, hw⟩ := hw
    refine t_X6_divisor_17 C K hw U (lv_sub hl [1, 0] rfl) (fun v4_9 H locs ls U hl hw => ?_)
    refine lv_lload hx hb dX6_divisor_42 (lv_at hl 0 rfl) ?_
    exact u_lret hx hb hr hlocks U ⟨rfl, rfl, hw⟩ dX6_divisor_44
set_option maxHeartbeats 4000000 in
set_option maxRecDepth 100000 in
theorem c_X6_forecast {l : Launch} {g : uG} {a0 : Int64} {a1 : Int32} {a2 : Int32} {A : SA} {B : SB} {Q : Int64 → SA → Prop} (hw : wp_X6_forecast a0 a1 a2 A B Q) : ML l yX6_forecast wsX6_forecast rmX6_forecast g A B [.ref (g.2.1 5), .long a0, .int a1, .int a2] (fun r A1 B1 => B1 = B ∧ Q r A1 ) := by
  refine u_of (cc := cX6_forecast) (maxL := 9) (ret := (some .long)) (by decide) rfl (Nat.le_of_ble_eq_true rfl) ?_
  intro p e s m below meth c ls C K U hl
  obtain ⟨hx, hb, hml, hown, hts, hr, hlocks⟩ := id C
  have S : CallFix p m c cX6_forecast 9 s ([.ref (g.2.1 5), .long a0, .int a1, .int a2] : List Value).toArray wsX6_forecast RX6 := ⟨hx, hb, hml, hown, hts⟩
  have hl : lv_has ls 9 [(0, .ref (g.2.1 5)), (1, .long a0), (3, .int a1), (4, .int a2)] := hl
  refine lv_aload_n hx hb dX6_forecast_0 rfl (lv_at hl 0 rfl) ?_
  refine lv_lload_n hx hb dX6_forecast_1 rfl (lv_at hl 1 rfl) ?_
  refine u_ci (u_rV (As := [.long a0]) (rest := []) (C := RX6) S K U 5 5 (by decide) rfl rfl (c_X6_noPoint hw) (cwV 1 hts gX6_forecast_X6_noPoint rfl rfl rfl (by decide +kernel) ⟨Nat.le_of_ble_eq_true rfl, Nat.le_of_ble_eq_true rfl⟩) rfl hl.1 rfl (Nat.le_of_ble_eq_true rfl) dX6_forecast_2 ⟨Nat.zero_le _, Nat.zero_le _⟩) U (fun r_1 A_2 B_3 H locs U9 hw => ?_)
  obtain ⟨eA, eB, hw⟩ := hw
  rw [eA, eB] at U9
  have U := U9
  refine lv_if_ne (tgt := 31) hx hb dX6_forecast_5 (by decide) (fun c_4 => ?_) (fun c_4 => ?_)
  · have hw := hw.1 c_4
    refine lv_ldc2 (v := -1000000000000000001) hx hb hown (hts (.constantLong RX6 150 (-1000000000000000001)) (by decide +kernel)) dX6_forecast_31 ?_
    exact u_lret hx hb hr hlocks U ⟨rfl, hw⟩ dX6_forecast_34
  · have hw := hw.2 c_4
    refine lv_iload_n hx hb dX6_forecast_8 rfl (lv_at hl 2 rfl) ?_
    refine lv_i2l hx hb dX6_forecast_9 rfl ?_
    refine lv_lconst (v := 1) hx hb dX6_forecast_10 (by decide) ?_
    refine lv_ldc2 (v := 5) hx hb hown (hts (.constantLong RX6 144 (5)) (by decide +kernel)) dX6_forecast_11 ?_
    refine u_ci (u_rS (As := [.long a1.toInt64, .long (1 : Int64), .long (5 : Int64)]) (rest := []) S K U (c_X6_in hw) (va_cwS 3 hts gX6_forecast_X6_in rfl rfl rfl (by decide +kernel) ⟨Nat.le_of_ble_eq_true rfl, Nat.le_of_ble_eq_true rfl⟩) rfl hl.1 rfl (Nat.le_of_ble_eq_true rfl) dX6_forecast_14 ⟨Nat.zero_le _, Nat.zero_le _⟩) U (fun r_5 A_6 B_7 H locs U9 hw => ?_)
    obtain ⟨eA, eB, hw⟩ := hw
    rw [eA, eB] at U9
    have U := U9
    refine lv_if_eq (tgt := 31) hx hb dX6_forecast_17 (by decide) (fun c_8 => ?_) (fun c_8 => ?_)
    · have hw := hw.1 c_8
      refine lv_ldc2 (v := -1000000000000000001) hx hb hown (hts (.constantLong RX6 150 (-1000000000000000001)) (by decide +kernel)) dX6_forecast_31 ?_
      exact u_lret hx hb hr hlocks U ⟨rfl, hw⟩ dX6_forecast_34
    · have hw := hw.2 c_8
      refine lv_iload hx hb dX6_forecast_20 (lv_at hl 3 rfl) ?_
      refine lv_i2l hx hb dX6_forecast_22 rfl ?_
      refine lv_lconst (v := 0) hx hb dX6_forecast_23 (by decide) ?_
      refine lv_lconst (v := 1) hx hb dX6_forecast_24 (by decide) ?_
      refine u_ci (u_rS (As := [.long a2.toInt64, .long (0 : Int64), .long (1 : Int64)]) (rest := []) S K U (c_X6_in hw) (va_cwS 3 hts gX6_forecast_X6_in rfl rfl rfl (by decide +kernel) ⟨Nat.le_of_ble_eq_true rfl, Nat.le_of_ble_eq_true rfl⟩) rfl hl.1 rfl (Nat.le_of_ble_eq_true rfl) dX6_forecast_25 ⟨Nat.zero_le _, Nat.zero_le _⟩) U (fun r_9 A_10 B_11 H locs U9 hw => ?_)
      obtain ⟨eA, eB, hw⟩ := hw
      rw [eA, eB] at U9
      have U := U9
      refine lv_if_ne (tgt := 35) hx hb dX6_forecast_28 (by decide) (fun c_12 => ?_) (fun c_12 => ?_)
      · have hw := hw.1 c_12
        refine lv_aload_n hx hb dX6_forecast_35 rfl (lv_at hl 0 rfl) ?_
        refine lv_lload_n hx hb dX6_forecast_36 rfl (lv_at hl 1 rfl) ?_
        refine lv_iload_n hx hb dX6_forecast_37 rfl (lv_at hl 2 rfl) ?_
        refine u_cl (u_rV (As := [.long a0, .int a1]) (rest := []) (C := RX6) S K U 5 5 (by decide) rfl rfl (c_X6_near hw) (cwV 2 hts gX6_forecast_X6_near rfl rfl rfl (by decide +kernel) ⟨Nat.le_of_ble_eq_true rfl, Nat.le_of_ble_eq_true rfl⟩) rfl hl.1 rfl (Nat.le_of_ble_eq_true rfl) dX6_forecast_38 ⟨Nat.zero_le _, Nat.zero_le _⟩) U (fun r_13 A_14 B_15 H locs U9 hw => ?_)
        obtain ⟨eB, hw⟩ := hw
        rw [eB] at U9
        have U := U9
        refine lv_lstore (lv' := [(5, .long r_13), (0, .ref (g.2.1 5)), (1, .long a0), (3, .int a1), (4, .int a2)]) hx hb dX6_forecast_41 hl (by decide) rfl (fun ls hl => ?_)
        refine lv_aload_n hx hb dX6_forecast_43 rfl (lv_at hl 1 rfl) ?_
        refine u_get (C := RX6) (T := TX6) (N := 31) (v := .int (A_14 5 13)) hx hb hts hX6_forecast_X6 hown K U 5 5 (by decide) rfl rfl 13 (by decide) (hts (.fieldLink RX6 139 "TrialSearchModel" "taken" "I") (by decide +kernel)) rfl rfl dX6_forecast_44 ?_
        refine lv_if_ne (tgt := 54) hx hb dX6_forecast_47 (by decide) (fun c_16 => ?_) (fun c_16 => ?_)
        · have hw := hw.1 c_16
          refine lv_lload hx hb dX6_forecast_54 (lv_at hl 0 rfl) ?_
          refine lv_aload_n hx hb dX6_forecast_56 rfl (lv_at hl 1 rfl) ?_
          refine u_get (C := RX6) (T := TX6) (N := 31) (v := .int (A_14 5 13)) hx hb hts hX6_forecast_X6 hown K U 5 5 (by decide) rfl rfl 13 (by decide) (hts (.fieldLink RX6 139 "TrialSearchModel" "taken" "I") (by decide +kernel)) rfl rfl dX6_forecast_57 ?_
          refine lv_i2l hx hb dX6_forecast_60 rfl ?_
          refine u_cl (u_rS (As := [.long r_13, .long (A_14 5 13).toInt64]) (rest := []) S K U (c_X6_divisor hw) (va_cwS 2 hts gX6_forecast_X6_divisor rfl rfl rfl (by decide +kernel) ⟨Nat.le_of_ble_eq_true rfl, Nat.le_of_ble_eq_true rfl⟩) rfl hl.1 rfl (Nat.le_of_ble_eq_true rfl) dX6_forecast_61 ⟨Nat.zero_le _, Nat.zero_le _⟩) U (fun r_17 A_18 B_19 H locs U9 hw => ?_)
          obtain ⟨eA, eB, hw⟩ := hw
          rw [eA, eB] at U9
          have U := U9
          refine lv_lstore (lv' := [(7, .long r_17), (5, .long r_13), (0, .ref (g.2.1 5)), (1, .long a0), (3, .int a1), (4, .int a2)]) hx hb dX6_forecast_64 hl (by decide) rfl (fun ls hl => ?_)
          refine lv_iload hx hb dX6_forecast_66 (lv_at hl 5 rfl) ?_
          refine lv_if_ne (tgt := 79) hx hb dX6_forecast_68 (by decide) (fun c_20 => ?_) (fun c_20 => ?_)
          · have hw := hw.1 c_20
            refine lv_aload_n hx hb dX6_forecast_79 rfl (lv_at hl 2 rfl) ?_
            refine u_get (C := RX6) (T := TX6) (N := 31) (v := .int (A_14 5 13)) hx hb hts hX6_forecast_X6 hown K U 5 5 (by decide) rfl rfl 13 (by decide) (hts (.fieldLink RX6 139 "TrialSearchModel" "taken" "I") (by decide +kernel)) rfl rfl dX6_forecast_80 ?_
            refine lv_i2l hx hb dX6_forecast_83 rfl ?_
            refine lv_lload hx hb dX6_forecast_84 (lv_at hl 0 rfl) ?_
            obtain ⟨hz_21, hw⟩ := hw
            refine lv_ldiv hx hb dX6_forecast_86 hz_21 ?_
            exact u_lret hx hb hr hlocks U ⟨rfl, hw⟩ dX6_forecast_87
          · have hw := hw.2 c_20
            refine lv_lload hx hb dX6_forecast_71 (lv_at hl 1 rfl) ?_
            refine lv_lload hx hb dX6_forecast_73 (lv_at hl 0 rfl) ?_
            obtain ⟨hz_22, hw⟩ := hw
            refine lv_ldiv hx hb dX6_forecast_75 hz_22 ?_
            refine lv_goto (tgt := 87) hx hb dX6_forecast_76 (by decide) ?_
            exact u_lret hx hb hr hlocks U ⟨rfl, hw⟩ dX6_forecast_87
        · have hw := hw.2 c_16
          refine lv_ldc2 (v := -1000000000000000002) hx hb hown (hts (.constantLong RX6 152 (-1000000000000000002)) (by decide +kernel)) dX6_forecast_50 ?_
          exact u_lret hx hb hr hlocks U ⟨rfl, hw⟩ dX6_forecast_53
      · have hw := hw.2 c_12
        refine lv_ldc2 (v := -1000000000000000001) hx hb hown (hts (.constantLong RX6 150 (-1000000000000000001)) (by decide +kernel)) dX6_forecast_31 ?_
        exact u_lret hx hb hr hlocks U ⟨rfl, hw⟩ dX6_forecast_34
set_option maxHeartbeats 4000000 in
set_option maxRecDepth 100000 in
theorem c_X6_noTrial {l : Launch} {g : uG} {a0 : Int32} {A : SA} {B : SB} {Q : Int32 → Prop} (hw : wp_X6_noTrial a0 A B Q) : MI l yX6_noTrial wsX6_noTrial rmX6_noTrial g A B [.ref (g.2.1 5), .int a0] (fun r A1 B1 => A1 = A ∧ B1 = B ∧ Q r ) := by
  refine u_of (cc := cX6_noTrial) (maxL := 2) (ret := (some .boolean)) (by decide) rfl (Nat.le_of_ble_eq_true rfl) ?_
  intro p e s m below meth c ls C K U hl
  obtain ⟨hx, hb, hml, hown, hts, hr, hlocks⟩ := id C
  have S : CallFix p m c cX6_noTrial 2 s ([.ref (g.2.1 5), .int a0] : List Value).toArray wsX6_noTrial RX6 := ⟨hx, hb, hml, hown, hts⟩
  have hl : lv_has ls 2 [(0, .ref (g.2.1 5)), (1, .int a0)] := hl
  refine lv_iload_n hx hb dX6_noTrial_0 rfl (lv_at hl 1 rfl) ?_
  refine lv_i2l hx hb dX6_noTrial_1 rfl ?_
  refine lv_lconst (v := 0) hx hb dX6_noTrial_2 (by decide) ?_
  refine lv_aload_n hx hb dX6_noTrial_3 rfl (lv_at hl 0 rfl) ?_
  refine u_get (C := RX6) (T := TX6) (N := 31) (v := .int (A 5 6)) hx hb hts hX6_noTrial_X6 hown K U 5 5 (by decide) rfl rfl 6 (by decide) (hts (.fieldLink RX6 92 "TrialSearchModel" "trials" "I") (by decide +kernel)) rfl rfl dX6_noTrial_4 ?_
  refine lv_iconst (v := 1) hx hb dX6_noTrial_7 (by decide) ?_
  refine lv_isub hx hb dX6_noTrial_8 ?_
  refine lv_i2l hx hb dX6_noTrial_9 rfl ?_
  refine u_ci (u_rS (As := [.long a0.toInt64, .long (0 : Int64), .long ((A 5 6) - (1 : Int32)).toInt64]) (rest := []) S K U (c_X6_in hw) (va_cwS 3 hts gX6_noTrial_X6_in rfl rfl rfl (by decide +kernel) ⟨Nat.le_of_ble_eq_true rfl, Nat.le_of_ble_eq_true rfl⟩) rfl hl.1 rfl (Nat.le_of_ble_eq_true rfl) dX6_noTrial_10 ⟨Nat.zero_le _, Nat.zero_le _⟩) U (fun r_1 A_2 B_3 H locs U9 hw => ?_)
  obtain ⟨eA, eB, hw⟩ := hw
  rw [eA, eB] at U9
  have U := U9
  refine lv_if_ne (tgt := 20) hx hb dX6_noTrial_13 (by decide) (fun c_4 => ?_) (fun c_4 => ?_)
  · have hw := hw.1 c_4
    refine lv_iconst (v := 0) hx hb dX6_noTrial_20 (by decide) ?_
    exact u_zret hx hb hr hlocks U (by decide +kernel) ⟨rfl, rfl, hw⟩ dX6_noTrial_21
  · have hw := hw.2 c_4
    refine lv_iconst (v := 1) hx hb dX6_noTrial_16 (by decide) ?_
    refine lv_goto (tgt := 21) hx hb dX6_noTrial_17 (by decide) ?_
    exact u_zret hx hb hr hlocks U (by decide +kernel) ⟨rfl, rfl, hw⟩ dX6_noTrial_21
set_option maxHeartbeats 4000000 in
set_option maxRecDepth 100000 in
theorem c_X6_isScore {l : Launch} {g : uG} {a0 : Int32} {A : SA} {B : SB} {Q : Int32 → Prop} (hw : wp_X6_isScore a0 A B Q) : MI l yX6_isScore wsX6_isScore rmX6_isScore g A B [.int a0] (fun r A1 B1 => A1 = A ∧ B1 = B ∧ Q r ) := by
  refine u_of (cc := cX6_isScore) (maxL := 1) (ret := (some .boolean)) (by decide) rfl (Nat.le_of_ble_eq_true rfl) ?_
  intro p e s m below meth c ls C K U hl
  obtain ⟨hx, hb, hml, hown, hts, hr, hlocks⟩ := id C
  have S : CallFix p m c cX6_isScore 1 s ([.int a0] : List Value).toArray wsX6_isScore RX6 := ⟨hx, hb, hml, hown, hts⟩
  have hl : lv_has ls 1 [(0, .int a0)] := hl
  refine lv_iload_n hx hb dX6_isScore_0 rfl (lv_at hl 0 rfl) ?_
  refine lv_i2l hx hb dX6_isScore_1 rfl ?_
  refine lv_ldc2 (v := -1000000) hx hb hown (hts (.constantLong RX6 158 (-1000000)) (by decide +kernel)) dX6_isScore_2 ?_
  refine lv_ldc2 (v := 1000000) hx hb hown (hts (.constantLong RX6 160 (1000000)) (by decide +kernel)) dX6_isScore_5 ?_
  refine u_ci (u_rS (As := [.long a0.toInt64, .long (-1000000 : Int64), .long (1000000 : Int64)]) (rest := []) S K U (c_X6_in hw) (va_cwS 3 hts gX6_isScore_X6_in rfl rfl rfl (by decide +kernel) ⟨Nat.le_of_ble_eq_true rfl, Nat.le_of_ble_eq_true rfl⟩) rfl hl.1 rfl (Nat.le_of_ble_eq_true rfl) dX6_isScore_8 ⟨Nat.zero_le _, Nat.zero_le _⟩) U (fun r_1 A_2 B_3 H locs U9 hw => ?_)
  obtain ⟨eA, eB, hw⟩ := hw
  rw [eA, eB] at U9
  have U := U9
  obtain ⟨hn_4, hw⟩ := hw
  exact u_zret hx hb hr hlocks U hn_4 ⟨rfl, rfl, hw⟩ dX6_isScore_11
set_option maxHeartbeats 4000000 in
set_option maxRecDepth 100000 in
theorem t_X6_score_69 {p : Program} {l : Launch} {e : Env} {s : State} {m : MethodId} {args : Array Value} {below : List Frame} {meth : Method} {c : Code} {g : uG} {E105 : Int32 → Prop} {Q : Int32 → SA → Prop} {A : SA} {B : SB} (C : uC p s m args meth c cX6_score 6 RX6 wsX6_score (some .int)) (K : UK g s) :
    ∀ {n : Nat} {v4 : Int32} {v5 : Int32} {H : Heap} {locs : List Loc} {ls : Array Slot}, wp_X6_score_69 E105 Q A B n v4 v5 → UU g A B s.heap H locs → lv_has ls 6 [(0, .ref (g.2.1 5)), (4, .int v4), (5, .int v5)] → (∀ (v4 : Int32) (H : Heap) (locs : List Loc) (ls : Array Slot), UU g A B s.heap H locs → lv_has ls 6 [(4, .int v4)] → E105 v4 → W p l e rmX6_score s m args below meth c H locs 0 0 (MQ below (uQi g (fun r A1 B1 => B1 = B ∧ Q r A1 )) args s 0 0 (FA g)) (F0 m 105 ls [])) → W p l e rmX6_score s m args below meth c H locs 0 0 (MQ below (uQi g (fun r A1 B1 => B1 = B ∧ Q r A1 )) args s 0 0 (FA g)) (F0 m 69 ls []) := by
  obtain ⟨hx, hb, hml, hown, hts, hr, hlocks⟩ := id C
  have S : CallFix p m c cX6_score 6 s args wsX6_score RX6 := ⟨hx, hb, hml, hown, hts⟩
  intro n
  induction n with
  | zero => intro _ _ _ _ _ hw; exact False.elim hw
  | succ n ih =>
    intro v4 v5 H locs ls hw U hl h105
    refine lv_iload hx hb dX6_score_69 (lv_at hl 2 rfl) ?_
    refine lv_aload_n hx hb dX6_score_71 rfl (lv_at hl 0 rfl) ?_
    refine u_get (C := RX6) (T := TX6) (N := 31) (v := .int (A 5 6)) hx hb hts hX6_score_X6 hown K U 5 5 (by decide) rfl rfl 6 (by decide) (hts (.fieldLink RX6 92 "TrialSearchModel" "trials" "I") (by decide +kernel)) rfl rfl dX6_score_72 ?_
    refine lv_icmp_ge (tgt := 105) hx hb dX6_score_75 (by decide) (fun c_12 => ?_) (fun c_12 => ?_)
    · have hw := hw.1 c_12
      exact h105 _ _ _ _ U (lv_sub hl [1] rfl) hw
    · have hw := hw.2 c_12
      refine lv_iload hx hb dX6_score_78 (lv_at hl 1 rfl) ?_
      refine lv_aload_n hx hb dX6_score_80 rfl (lv_at hl 0 rfl) ?_
      refine u_get (C := RX6) (T := TX6) (N := 31) (v := .ref (g.2.1 35)) hx hb hts hX6_score_X6 hown K U 5 5 (by decide) rfl rfl 8 (by decide) (hts (.fieldLink RX6 38 "TrialSearchModel" "state" "[I") (by decide +kernel)) rfl rfl dX6_score_81 ?_
      refine lv_iload hx hb dX6_score_84 (lv_at hl 2 rfl) ?_
      obtain ⟨hi_13, hw⟩ := hw
      refine u_iald (k := 35) (v := (A 35 v5.toNatClampNeg)) hx hb K U rfl (by decide) rfl hi_13 rfl dX6_score_86 ?_
      refine lv_iconst (v := 1) hx hb dX6_score_87 (by decide) ?_
      refine lv_icmp_ne (tgt := 95) hx hb dX6_score_88 (by decide) (fun c_14 => ?_) (fun c_14 => ?_)
      · have hw := hw.1 c_14
        refine lv_iconst (v := 0) hx hb dX6_score_95 (by decide) ?_
        refine lv_iadd hx hb dX6_score_96 ?_
        refine lv_topi (fun x_15 ex_15 => ?_)
        have hw := hw x_15 ex_15
        refine lv_istore (lv' := [(4, .int x_15), (0, .ref (g.2.1 5)), (5, .int v5)]) hx hb dX6_score_97 hl (by decide) rfl (fun ls hl => ?_)
        obtain ⟨v5_16, ev5_16⟩ : ∃ y : Int32, y = v5 + 1 := ⟨_, rfl⟩
        have hw := hw v5_16 ev5_16
        refine lv_iinc (v := v5_16) (lv' := [(5, .int v5_16), (4, .int x_15), (0, .ref (g.2.1 5))]) hx hb dX6_score_99 hl (k := 2) rfl (by rw [ev5_16]; rfl) (by decide) rfl (fun ls hl => ?_)
        refine lv_goto (tgt := 69) hx hb dX6_score_102 (by decide) ?_
        exact ih hw U (lv_sub hl [2, 1, 0] rfl) h105
      · have hw := hw.2 c_14
        refine lv_iconst (v := 1) hx hb dX6_score_91 (by decide) ?_
        refine lv_goto (tgt := 96) hx hb dX6_score_92 (by decide) ?_
        refine lv_iadd hx hb dX6_score_96 ?_
        refine lv_topi (fun x_17 ex_17 => ?_)
        have hw := hw x_17 ex_17
        refine lv_istore (lv' := [(4, .int x_17), (0, .ref (g.2.1 5)), (5, .int v5)]) hx hb dX6_score_97 hl (by decide) rfl (fun ls hl => ?_)
        obtain ⟨v5_18, ev5_18⟩ : ∃ y : Int32, y = v5 + 1 := ⟨_, rfl⟩
        have hw := hw v5_18 ev5_18
        refine lv_iinc (v := v5_18) (lv' := [(5, .int v5_18), (4, .int x_17), (0, .ref (g.2.1 5))]) hx hb dX6_score_99 hl (k := 2) rfl (by rw [ev5_18]; rfl) (by decide) rfl (fun ls hl => ?_)
        refine lv_goto (tgt := 69) hx hb dX6_score_102 (by decide) ?_
        exact ih hw U (lv_sub hl [2, 1, 0] rfl) h105
set_option maxHeartbeats 4000000 in
set_option maxRecDepth 100000 in
theorem c_X6_score {l : Launch} {g : uG} {a0 : Int32} {a1 : Int32} {a2 : Int32} {A : SA} {B : SB} {Q : Int32 → SA → Prop} (hw : wp_X6_score a0 a1 a2 A B Q) : MI l yX6_score wsX6_score rmX6_score g A B [.ref (g.2.1 5), .int a0, .int a1, .int a2] (fun r A1 B1 => B1 = B ∧ Q r A1 ) := by
  refine u_of (cc := cX6_score) (maxL := 6) (ret := (some .int)) (by decide) rfl (Nat.le_of_ble_eq_true rfl) ?_
  intro p e s m below meth c ls C K U hl
  obtain ⟨hx, hb, hml, hown, hts, hr, hlocks⟩ := id C
  have S : CallFix p m c cX6_score 6 s ([.ref (g.2.1 5), .int a0, .int a1, .int a2] : List Value).toArray wsX6_score RX6 := ⟨hx, hb, hml, hown, hts⟩
  have hl : lv_has ls 6 [(0, .ref (g.2.1 5)), (1, .int a0), (2, .int a1), (3, .int a2)] := hl
  refine lv_aload_n hx hb dX6_score_0 rfl (lv_at hl 0 rfl) ?_
  refine lv_iload_n hx hb dX6_score_1 rfl (lv_at hl 1 rfl) ?_
  refine u_ci (u_rV (As := [.int a0]) (rest := []) (C := RX6) S K U 5 5 (by decide) rfl rfl (c_X6_noTrial hw) (cwV 1 hts gX6_score_X6_noTrial rfl rfl rfl (by decide +kernel) ⟨Nat.le_of_ble_eq_true rfl, Nat.le_of_ble_eq_true rfl⟩) rfl hl.1 rfl (Nat.le_of_ble_eq_true rfl) dX6_score_2 ⟨Nat.zero_le _, Nat.zero_le _⟩) U (fun r_1 A_2 B_3 H locs U9 hw => ?_)
  obtain ⟨eA, eB, hw⟩ := hw
  rw [eA, eB] at U9
  have U := U9
  refine lv_if_ne (tgt := 19) hx hb dX6_score_5 (by decide) (fun c_4 => ?_) (fun c_4 => ?_)
  · have hw := hw.1 c_4
    refine lv_iconst (v := -1) hx hb dX6_score_19 (by decide) ?_
    exact u_iret hx hb hr hlocks U ⟨rfl, hw⟩ dX6_score_20
  · have hw := hw.2 c_4
    refine lv_iload_n hx hb dX6_score_8 rfl (lv_at hl 3 rfl) ?_
    refine lv_if_eq (tgt := 21) hx hb dX6_score_9 (by decide) (fun c_5 => ?_) (fun c_5 => ?_)
    · have hw := hw.1 c_5
      refine lv_aload_n hx hb dX6_score_21 rfl (lv_at hl 0 rfl) ?_
      refine u_get (C := RX6) (T := TX6) (N := 31) (v := .ref (g.2.1 35)) hx hb hts hX6_score_X6 hown K U 5 5 (by decide) rfl rfl 8 (by decide) (hts (.fieldLink RX6 38 "TrialSearchModel" "state" "[I") (by decide +kernel)) rfl rfl dX6_score_22 ?_
      refine lv_iload_n hx hb dX6_score_25 rfl (lv_at hl 1 rfl) ?_
      obtain ⟨hi_6, hw⟩ := hw
      refine u_iald (k := 35) (v := (A 35 a0.toNatClampNeg)) hx hb K U rfl (by decide) rfl hi_6 rfl dX6_score_26 ?_
      refine lv_if_eq (tgt := 33) hx hb dX6_score_27 (by decide) (fun c_7 => ?_) (fun c_7 => ?_)
      · have hw := hw.1 c_7
        refine lv_aload_n hx hb dX6_score_33 rfl (lv_at hl 0 rfl) ?_
        refine u_get (C := RX6) (T := TX6) (N := 31) (v := .ref (g.2.1 35)) hx hb hts hX6_score_X6 hown K U 5 5 (by decide) rfl rfl 8 (by decide) (hts (.fieldLink RX6 38 "TrialSearchModel" "state" "[I") (by decide +kernel)) rfl rfl dX6_score_34 ?_
        refine lv_iload_n hx hb dX6_score_37 rfl (lv_at hl 1 rfl) ?_
        refine lv_iload_n hx hb dX6_score_38 rfl (lv_at hl 3 rfl) ?_
        refine lv_if_eq (tgt := 46) hx hb dX6_score_39 (by decide) (fun c_8 => ?_) (fun c_8 => ?_)
        · have hw := hw.1 c_8
          refine lv_iconst (v := 2) hx hb dX6_score_46 (by decide) ?_
          obtain ⟨hi_9, hw⟩ := hw
          refine u_iast (k := 35) hx hb K U rfl (by decide) rfl hi_9 dX6_score_47 (fun H locs U => ?_)
          refine lv_aload_n hx hb dX6_score_48 rfl (lv_at hl 0 rfl) ?_
          refine u_get (C := RX6) (T := TX6) (N := 31) (v := .ref (g.2.1 36)) hx hb hts hX6_score_X6 hown K U 5 5 (by decide) rfl rfl 9 (by decide) (hts (.fieldLink RX6 41 "TrialSearchModel" "score" "[I") (by decide +kernel)) rfl rfl dX6_score_49 ?_
          refine lv_iload_n hx hb dX6_score_52 rfl (lv_at hl 1 rfl) ?_
          refine lv_iload_n hx hb dX6_score_53 rfl (lv_at hl 3 rfl) ?_
          refine lv_if_eq (tgt := 61) hx hb dX6_score_54 (by decide) (fun c_10 => ?_) (fun c_10 => ?_)
          · have hw := hw.1 c_10
            refine lv_iconst (v := 0) hx hb dX6_score_61 (by decide) ?_
            obtain ⟨hi_11, hw⟩ := hw
            refine u_iast (k := 36) hx hb K U rfl (by decide) rfl hi_11 dX6_score_62 (fun H locs U => ?_)
            refine lv_iconst (v := 0) hx hb dX6_score_63 (by decide) ?_
            refine lv_istore (lv' := [(4, .int (0 : Int32)), (0, .ref (g.2.1 5)), (1, .int a0), (2, .int a1), (3, .int a2)]) hx hb dX6_score_64 hl (by decide) rfl (fun ls hl => ?_)
            refine lv_iconst (v := 0) hx hb dX6_score_66 (by decide) ?_
            refine lv_istore (lv' := [(5, .int (0 : Int32)), (4, .int (0 : Int32)), (0, .ref (g.2.1 5)), (1, .int a0), (2, .int a1), (3, .int a2)]) hx hb dX6_score_67 hl (by decide) rfl (fun ls hl => ?_)
            obtain ⟨n_19, hw⟩ := hw
            refine t_X6_score_69 C K hw U (lv_sub hl [2, 1, 0] rfl) (fun v4_20 H locs ls U hl hw => ?_)
            refine lv_iload hx hb dX6_score_105 (lv_at hl 0 rfl) ?_
            exact u_iret hx hb hr hlocks U ⟨rfl, hw⟩ dX6_score_107
          · have hw := hw.2 c_10
            refine lv_iload_n hx hb dX6_score_57 rfl (lv_at hl 2 rfl) ?_
            refine lv_goto (tgt := 62) hx hb dX6_score_58 (by decide) ?_
            obtain ⟨hi_21, hw⟩ := hw
            refine u_iast (k := 36) hx hb K U rfl (by decide) rfl hi_21 dX6_score_62 (fun H locs U => ?_)
            refine lv_iconst (v := 0) hx hb dX6_score_63 (by decide) ?_
            refine lv_istore (lv' := [(4, .int (0 : Int32)), (0, .ref (g.2.1 5)), (1, .int a0), (2, .int a1), (3, .int a2)]) hx hb dX6_score_64 hl (by decide) rfl (fun ls hl => ?_)
            refine lv_iconst (v := 0) hx hb dX6_score_66 (by decide) ?_
            refine lv_istore (lv' := [(5, .int (0 : Int32)), (4, .int (0 : Int32)), (0, .ref (g.2.1 5)), (1, .int a0), (2, .int a1), (3, .int a2)]) hx hb dX6_score_67 hl (by decide) rfl (fun ls hl => ?_)
            obtain ⟨n_22, hw⟩ := hw
            refine t_X6_score_69 C K hw U (lv_sub hl [2, 1, 0] rfl) (fun v4_23 H locs ls U hl hw => ?_)
            refine lv_iload hx hb dX6_score_105 (lv_at hl 0 rfl) ?_
            exact u_iret hx hb hr hlocks U ⟨rfl, hw⟩ dX6_score_107
        · have hw := hw.2 c_8
          refine lv_iconst (v := 1) hx hb dX6_score_42 (by decide) ?_
          refine lv_goto (tgt := 47) hx hb dX6_score_43 (by decide) ?_
          obtain ⟨hi_24, hw⟩ := hw
          refine u_iast (k := 35) hx hb K U rfl (by decide) rfl hi_24 dX6_score_47 (fun H locs U => ?_)
          refine lv_aload_n hx hb dX6_score_48 rfl (lv_at hl 0 rfl) ?_
          refine u_get (C := RX6) (T := TX6) (N := 31) (v := .ref (g.2.1 36)) hx hb hts hX6_score_X6 hown K U 5 5 (by decide) rfl rfl 9 (by decide) (hts (.fieldLink RX6 41 "TrialSearchModel" "score" "[I") (by decide +kernel)) rfl rfl dX6_score_49 ?_
          refine lv_iload_n hx hb dX6_score_52 rfl (lv_at hl 1 rfl) ?_
          refine lv_iload_n hx hb dX6_score_53 rfl (lv_at hl 3 rfl) ?_
          refine lv_if_eq (tgt := 61) hx hb dX6_score_54 (by decide) (fun c_25 => ?_) (fun c_25 => ?_)
          · have hw := hw.1 c_25
            refine lv_iconst (v := 0) hx hb dX6_score_61 (by decide) ?_
            obtain ⟨hi_26, hw⟩ := hw
            refine u_iast (k := 36) hx hb K U rfl (by decide) rfl hi_26 dX6_score_62 (fun H locs U => ?_)
            refine lv_iconst (v := 0) hx hb dX6_score_63 (by decide) ?_
            refine lv_istore (lv' := [(4, .int (0 : Int32)), (0, .ref (g.2.1 5)), (1, .int a0), (2, .int a1), (3, .int a2)]) hx hb dX6_score_64 hl (by decide) rfl (fun ls hl => ?_)
            refine lv_iconst (v := 0) hx hb dX6_score_66 (by decide) ?_
            refine lv_istore (lv' := [(5, .int (0 : Int32)), (4, .int (0 : Int32)), (0, .ref (g.2.1 5)), (1, .int a0), (2, .int a1), (3, .int a2)]) hx hb dX6_score_67 hl (by decide) rfl (fun ls hl => ?_)
            obtain ⟨n_27, hw⟩ := hw
            refine t_X6_score_69 C K hw U (lv_sub hl [2, 1, 0] rfl) (fun v4_28 H locs ls U hl hw => ?_)
            refine lv_iload hx hb dX6_score_105 (lv_at hl 0 rfl) ?_
            exact u_iret hx hb hr hlocks U ⟨rfl, hw⟩ dX6_score_107
          · have hw := hw.2 c_25
            refine lv_iload_n hx hb dX6_score_57 rfl (lv_at hl 2 rfl) ?_
            refine lv_goto (tgt := 62) hx hb dX6_score_58 (by decide) ?_
            obtain ⟨hi_29, hw⟩ := hw
            refine u_iast (k := 36) hx hb K U rfl (by decide) rfl hi_29 dX6_score_62 (fun H locs U => ?_)
            refine lv_iconst (v := 0) hx hb dX6_score_63 (by decide) ?_
            refine lv_istore (lv' := [(4, .int (0 : Int32)), (0, .ref (g.2.1 5)), (1, .int a0), (2, .int a1), (3, .int a2)]) hx hb dX6_score_64 hl (by decide) rfl (fun ls hl => ?_)
            refine lv_iconst (v := 0) hx hb dX6_score_66 (by decide) ?_
            refine lv_istore (lv' := [(5, .int (0 : Int32)), (4, .int (0 : Int32)), (0, .ref (g.2.1 5)), (1, .int a0), (2, .int a1), (3, .int a2)]) hx hb dX6_score_67 hl (by decide) rfl (fun ls hl => ?_)
            obtain ⟨n_30, hw⟩ := hw
            refine t_X6_score_69 C K hw U (lv_sub hl [2, 1, 0] rfl) (fun v4_31 H locs ls U hl hw => ?_)
            refine lv_iload hx hb dX6_score_105 (lv_at hl 0 rfl) ?_
            exact u_iret hx hb hr hlocks U ⟨rfl, hw⟩ dX6_score_107
      · have hw := hw.2 c_7
        refine lv_bipush (v := -3) hx hb dX6_score_30 (by decide) ?_
        exact u_iret hx hb hr hlocks U ⟨rfl, hw⟩ dX6_score_32
    · have hw := hw.2 c_5
      refine lv_iload_n hx hb dX6_score_12 rfl (lv_at hl 2 rfl) ?_
      refine u_ci (u_rS (As := [.int a1]) (rest := []) S K U (c_X6_isScore hw) (va_cwS 1 hts gX6_score_X6_isScore rfl rfl rfl (by decide +kernel) ⟨Nat.le_of_ble_eq_true rfl, Nat.le_of_ble_eq_true rfl⟩) rfl hl.1 rfl (Nat.le_of_ble_eq_true rfl) dX6_score_13 ⟨Nat.zero_le _, Nat.zero_le _⟩) U (fun r_32 A_33 B_34 H locs U9 hw => ?_)
      obtain ⟨eA, eB, hw⟩ := hw
      rw [eA, eB] at U9
      have U := U9
      refine lv_if_ne (tgt := 21) hx hb dX6_score_16 (by decide) (fun c_35 => ?_) (fun c_35 => ?_)
      · have hw := hw.1 c_35
        refine lv_aload_n hx hb dX6_score_21 rfl (lv_at hl 0 rfl) ?_
        refine u_get (C := RX6) (T := TX6) (N := 31) (v := .ref (g.2.1 35)) hx hb hts hX6_score_X6 hown K U 5 5 (by decide) rfl rfl 8 (by decide) (hts (.fieldLink RX6 38 "TrialSearchModel" "state" "[I") (by decide +kernel)) rfl rfl dX6_score_22 ?_
        refine lv_iload_n hx hb dX6_score_25 rfl (lv_at hl 1 rfl) ?_
        obtain ⟨hi_36, hw⟩ := hw
        refine u_iald (k := 35) (v := (A 35 a0.toNatClampNeg)) hx hb K U rfl (by decide) rfl hi_36 rfl dX6_score_26 ?_
        refine lv_if_eq (tgt := 33) hx hb dX6_score_27 (by decide) (fun c_37 => ?_) (fun c_37 => ?_)
        · have hw := hw.1 c_37
          refine lv_aload_n hx hb dX6_score_33 rfl (lv_at hl 0 rfl) ?_
          refine u_get (C := RX6) (T := TX6) (N := 31) (v := .ref (g.2.1 35)) hx hb hts hX6_score_X6 hown K U 5 5 (by decide) rfl rfl 8 (by decide) (hts (.fieldLink RX6 38 "TrialSearchModel" "state" "[I") (by decide +kernel)) rfl rfl dX6_score_34 ?_
          refine lv_iload_n hx hb dX6_score_37 rfl (lv_at hl 1 rfl) ?_
          refine lv_iload_n hx hb dX6_score_38 rfl (lv_at hl 3 rfl) ?_
          refine lv_if_eq (tgt := 46) hx hb dX6_score_39 (by decide) (fun c_38 => ?_) (fun c_38 => ?_)
          · have hw := hw.1 c_38
            refine lv_iconst (v := 2) hx hb dX6_score_46 (by decide) ?_
            obtain ⟨hi_39, hw⟩ := hw
            refine u_iast (k := 35) hx hb K U rfl (by decide) rfl hi_39 dX6_score_47 (fun H locs U => ?_)
            refine lv_aload_n hx hb dX6_score_48 rfl (lv_at hl 0 rfl) ?_
            refine u_get (C := RX6) (T := TX6) (N := 31) (v := .ref (g.2.1 36)) hx hb hts hX6_score_X6 hown K U 5 5 (by decide) rfl rfl 9 (by decide) (hts (.fieldLink RX6 41 "TrialSearchModel" "score" "[I") (by decide +kernel)) rfl rfl dX6_score_49 ?_
            refine lv_iload_n hx hb dX6_score_52 rfl (lv_at hl 1 rfl) ?_
            refine lv_iload_n hx hb dX6_score_53 rfl (lv_at hl 3 rfl) ?_
            refine lv_if_eq (tgt := 61) hx hb dX6_score_54 (by decide) (fun c_40 => ?_) (fun c_40 => ?_)
            · have hw := hw.1 c_40
              refine lv_iconst (v := 0) hx hb dX6_score_61 (by decide) ?_
              obtain ⟨hi_41, hw⟩ := hw
              refine u_iast (k := 36) hx hb K U rfl (by decide) rfl hi_41 dX6_score_62 (fun H locs U => ?_)
              refine lv_iconst (v := 0) hx hb dX6_score_63 (by decide) ?_
              refine lv_istore (lv' := [(4, .int (0 : Int32)), (0, .ref (g.2.1 5)), (1, .int a0), (2, .int a1), (3, .int a2)]) hx hb dX6_score_64 hl (by decide) rfl (fun ls hl => ?_)
              refine lv_iconst (v := 0) hx hb dX6_score_66 (by decide) ?_
              refine lv_istore (lv' := [(5, .int (0 : Int32)), (4, .int (0 : Int32)), (0, .ref (g.2.1 5)), (1, .int a0), (2, .int a1), (3, .int a2)]) hx hb dX6_score_67 hl (by decide) rfl (fun ls hl => ?_)
              obtain ⟨n_42, hw⟩ := hw
              refine t_X6_score_69 C K hw U (lv_sub hl [2, 1, 0] rfl) (fun v4_43 H locs ls U hl hw => ?_)
              refine lv_iload hx hb dX6_score_105 (lv_at hl 0 rfl) ?_
              exact u_iret hx hb hr hlocks U ⟨rfl, hw⟩ dX6_score_107
            · have hw := hw.2 c_40
              refine lv_iload_n hx hb dX6_score_57 rfl (lv_at hl 2 rfl) ?_
              refine lv_goto (tgt := 62) hx hb dX6_score_58 (by decide) ?_
              obtain ⟨hi_44, hw⟩ := hw
              refine u_iast (k := 36) hx hb K U rfl (by decide) rfl hi_44 dX6_score_62 (fun H locs U => ?_)
              refine lv_iconst (v := 0) hx hb dX6_score_63 (by decide) ?_
              refine lv_istore (lv' := [(4, .int (0 : Int32)), (0, .ref (g.2.1 5)), (1, .int a0), (2, .int a1), (3, .int a2)]) hx hb dX6_score_64 hl (by decide) rfl (fun ls hl => ?_)
              refine lv_iconst (v := 0) hx hb dX6_score_66 (by decide) ?_
              refine lv_istore (lv' := [(5, .int (0 : Int32)), (4, .int (0 : Int32)), (0, .ref (g.2.1 5)), (1, .int a0), (2, .int a1), (3, .int a2)]) hx hb dX6_score_67 hl (by decide) rfl (fun ls hl => ?_)
              obtain ⟨n_45, hw⟩ := hw
              refine t_X6_score_69 C K hw U (lv_sub hl [2, 1, 0] rfl) (fun v4_46 H locs ls U hl hw => ?_)
              refine lv_iload hx hb dX6_score_105 (lv_at hl 0 rfl) ?_
              exact u_iret hx hb hr hlocks U ⟨rfl, hw⟩ dX6_score_107
          · have hw := hw.2 c_38
            refine lv_iconst (v := 1) hx hb dX6_score_42 (by decide) ?_
            refine lv_goto (tgt := 47) hx hb dX6_score_43 (by decide) ?_
            obtain ⟨hi_47, hw⟩ := hw
            refine u_iast (k := 35) hx hb K U rfl (by decide) rfl hi_47 dX6_score_47 (fun H locs U => ?_)
            refine lv_aload_n hx hb dX6_score_48 rfl (lv_at hl 0 rfl) ?_
            refine u_get (C := RX6) (T := TX6) (N := 31) (v := .ref (g.2.1 36)) hx hb hts hX6_score_X6 hown K U 5 5 (by decide) rfl rfl 9 (by decide) (hts (.fieldLink RX6 41 "TrialSearchModel" "score" "[I") (by decide +kernel)) rfl rfl dX6_score_49 ?_
            refine lv_iload_n hx hb dX6_score_52 rfl (lv_at hl 1 rfl) ?_
            refine lv_iload_n hx hb dX6_score_53 rfl (lv_at hl 3 rfl) ?_
            refine lv_if_eq (tgt := 61) hx hb dX6_score_54 (by decide) (fun c_48 => ?_) (fun c_48 => ?_)
            · have hw := hw.1 c_48
              refine lv_iconst (v := 0) hx hb dX6_score_61 (by decide) ?_
              obtain ⟨hi_49, hw⟩ := hw
              refine u_iast (k := 36) hx hb K U rfl (by decide) rfl hi_49 dX6_score_62 (fun H locs U => ?_)
              refine lv_iconst (v := 0) hx hb dX6_score_63 (by decide) ?_
              refine lv_istore (lv' := [(4, .int (0 : Int32)), (0, .ref (g.2.1 5)), (1, .int a0), (2, .int a1), (3, .int a2)]) hx hb dX6_score_64 hl (by decide) rfl (fun ls hl => ?_)
              refine lv_iconst (v := 0) hx hb dX6_score_66 (by decide) ?_
              refine lv_istore (lv' := [(5, .int (0 : Int32)), (4, .int (0 : Int32)), (0, .ref (g.2.1 5)), (1, .int a0), (2, .int a1), (3, .int a2)]) hx hb dX6_score_67 hl (by decide) rfl (fun ls hl => ?_)
              obtain ⟨n_50, hw⟩ := hw
              refine t_X6_score_69 C K hw U (lv_sub hl [2, 1, 0] rfl) (fun v4_51 H locs ls U hl hw => ?_)
              refine lv_iload hx hb dX6_score_105 (lv_at hl 0 rfl) ?_
              exact u_iret hx hb hr hlocks U ⟨rfl, hw⟩ dX6_score_107
            · have hw := hw.2 c_48
              refine lv_iload_n hx hb dX6_score_57 rfl (lv_at hl 2 rfl) ?_
              refine lv_goto (tgt := 62) hx hb dX6_score_58 (by decide) ?_
              obtain ⟨hi_52, hw⟩ := hw
              refine u_iast (k := 36) hx hb K U rfl (by decide) rfl hi_52 dX6_score_62 (fun H locs U => ?_)
              refine lv_iconst (v := 0) hx hb dX6_score_63 (by decide) ?_
              refine lv_istore (lv' := [(4, .int (0 : Int32)), (0, .ref (g.2.1 5)), (1, .int a0), (2, .int a1), (3, .int a2)]) hx hb dX6_score_64 hl (by decide) rfl (fun ls hl => ?_)
              refine lv_iconst (v := 0) hx hb dX6_score_66 (by decide) ?_
              refine lv_istore (lv' := [(5, .int (0 : Int32)), (4, .int (0 : Int32)), (0, .ref (g.2.1 5)), (1, .int a0), (2, .int a1), (3, .int a2)]) hx hb dX6_score_67 hl (by decide) rfl (fun ls hl => ?_)
              obtain ⟨n_53, hw⟩ := hw
              refine t_X6_score_69 C K hw U (lv_sub hl [2, 1, 0] rfl) (fun v4_54 H locs ls U hl hw => ?_)
              refine lv_iload hx hb dX6_score_105 (lv_at hl 0 rfl) ?_
              exact u_iret hx hb hr hlocks U ⟨rfl, hw⟩ dX6_score_107
        · have hw := hw.2 c_37
          refine lv_bipush (v := -3) hx hb dX6_score_30 (by decide) ?_
          exact u_iret hx hb hr hlocks U ⟨rfl, hw⟩ dX6_score_32
      · have hw := hw.2 c_35
        refine lv_iconst (v := -1) hx hb dX6_score_19 (by decide) ?_
        exact u_iret hx hb hr hlocks U ⟨rfl, hw⟩ dX6_score_20
set_option maxHeartbeats 4000000 in
set_option maxRecDepth 100000 in
theorem t_X6_prunes_6 {p : Program} {l : Launch} {e : Env} {s : State} {m : MethodId} {args : Array Value} {below : List Frame} {meth : Method} {c : Code} {g : uG} {E48 : Int32 → Prop} {Q : Int32 → Prop} {v1 : Int32} {v2 : Int32} {v3 : Int32} {v4 : Int32} {A : SA} {B : SB} (C : uC p s m args meth c cX6_prunes 8 RX6 wsX6_prunes (some .boolean)) (K : UK g s) :
    ∀ {n : Nat} {v5 : Int32} {v6 : Int32} {H : Heap} {locs : List Loc} {ls : Array Slot}, wp_X6_prunes_6 E48 Q v1 v2 v3 v4 A B n v5 v6 → UU g A B s.heap H locs → lv_has ls 8 [(0, .ref (g.2.1 5)), (1, .int v1), (2, .int v2), (3, .int v3), (4, .int v4), (5, .int v5), (6, .int v6)] → (∀ (v5 : Int32) (H : Heap) (locs : List Loc) (ls : Array Slot), UU g A B s.heap H locs → lv_has ls 8 [(0, .ref (g.2.1 5)), (1, .int v1), (2, .int v2), (3, .int v3), (4, .int v4), (5, .int v5)] → E48 v5 → W p l e rmX6_prunes s m args below meth c H locs 0 0 (MQ below (uQi g (fun r A1 B1 => A1 = A ∧ B1 = B ∧ Q r )) args s 0 0 (FA g)) (F0 m 48 ls [])) → W p l e rmX6_prunes s m args below meth c H locs 0 0 (MQ below (uQi g (fun r A1 B1 => A1 = A ∧ B1 = B ∧ Q r )) args s 0 0 (FA g)) (F0 m 6 ls []) := by
  obtain ⟨hx, hb, hml, hown, hts, hr, hlocks⟩ := id C
  have S : CallFix p m c cX6_prunes 8 s args wsX6_prunes RX6 := ⟨hx, hb, hml, hown, hts⟩
  intro n
  induction n with
  | zero => intro _ _ _ _ _ hw; exact False.elim hw
  | succ n ih =>
    intro v5 v6 H locs ls hw U hl h48
    refine lv_iload hx hb dX6_prunes_6 (lv_at hl 6 rfl) ?_
    refine lv_aload_n hx hb dX6_prunes_8 rfl (lv_at hl 0 rfl) ?_
    refine u_get (C := RX6) (T := TX6) (N := 31) (v := .int (A 5 6)) hx hb hts hX6_prunes_X6 hown K U 5 5 (by decide) rfl rfl 6 (by decide) (hts (.fieldLink RX6 92 "TrialSearchModel" "trials" "I") (by decide +kernel)) rfl rfl dX6_prunes_9 ?_
    refine lv_icmp_ge (tgt := 48) hx hb dX6_prunes_12 (by decide) (fun c_1 => ?_) (fun c_1 => ?_)
    · have hw := hw.1 c_1
      exact h48 _ _ _ _ U (lv_sub hl [0, 1, 2, 3, 4, 5] rfl) hw
    · have hw := hw.2 c_1
      refine lv_iload hx hb dX6_prunes_15 (lv_at hl 5 rfl) ?_
      refine lv_iload hx hb dX6_prunes_17 (lv_at hl 6 rfl) ?_
      refine lv_iload_n hx hb dX6_prunes_19 rfl (lv_at hl 1 rfl) ?_
      refine lv_icmp_eq (tgt := 38) hx hb dX6_prunes_20 (by decide) (fun c_2 => ?_) (fun c_2 => ?_)
      · have hw := hw.1 c_2
        refine lv_iconst (v := 0) hx hb dX6_prunes_38 (by decide) ?_
        refine lv_iadd hx hb dX6_prunes_39 ?_
        refine lv_topi (fun x_3 ex_3 => ?_)
        have hw := hw x_3 ex_3
        refine lv_istore (lv' := [(5, .int x_3), (0, .ref (g.2.1 5)), (1, .int v1), (2, .int v2), (3, .int v3), (4, .int v4), (6, .int v6)]) hx hb dX6_prunes_40 hl (by decide) rfl (fun ls hl => ?_)
        obtain ⟨v6_4, ev6_4⟩ : ∃ y : Int32, y = v6 + 1 := ⟨_, rfl⟩
        have hw := hw v6_4 ev6_4
        refine lv_iinc (v := v6_4) (lv' := [(6, .int v6_4), (5, .int x_3), (0, .ref (g.2.1 5)), (1, .int v1), (2, .int v2), (3, .int v3), (4, .int v4)]) hx hb dX6_prunes_42 hl (k := 6) rfl (by rw [ev6_4]; rfl) (by decide) rfl (fun ls hl => ?_)
        refine lv_goto (tgt := 6) hx hb dX6_prunes_45 (by decide) ?_
        exact ih hw U (lv_sub hl [2, 3, 4, 5, 6, 1, 0] rfl) h48
      · have hw := hw.2 c_2
        refine lv_aload_n hx hb dX6_prunes_23 rfl (lv_at hl 0 rfl) ?_
        refine u_get (C := RX6) (T := TX6) (N := 31) (v := .ref (g.2.1 37)) hx hb hts hX6_prunes_X6 hown K U 5 5 (by decide) rfl rfl 10 (by decide) (hts (.fieldLink RX6 44 "TrialSearchModel" "reports" "[I") (by decide +kernel)) rfl rfl dX6_prunes_24 ?_
        refine lv_iload hx hb dX6_prunes_27 (lv_at hl 6 rfl) ?_
        obtain ⟨hi_5, hw⟩ := hw
        refine u_iald (k := 37) (v := (A 37 v6.toNatClampNeg)) hx hb K U rfl (by decide) rfl hi_5 rfl dX6_prunes_29 ?_
        refine lv_iload_n hx hb dX6_prunes_30 rfl (lv_at hl 2 rfl) ?_
        refine lv_icmp_le (tgt := 38) hx hb dX6_prunes_31 (by decide) (fun c_6 => ?_) (fun c_6 => ?_)
        · have hw := hw.1 c_6
          refine lv_iconst (v := 0) hx hb dX6_prunes_38 (by decide) ?_
          refine lv_iadd hx hb dX6_prunes_39 ?_
          refine lv_topi (fun x_7 ex_7 => ?_)
          have hw := hw x_7 ex_7
          refine lv_istore (lv' := [(5, .int x_7), (0, .ref (g.2.1 5)), (1, .int v1), (2, .int v2), (3, .int v3), (4, .int v4), (6, .int v6)]) hx hb dX6_prunes_40 hl (by decide) rfl (fun ls hl => ?_)
          obtain ⟨v6_8, ev6_8⟩ : ∃ y : Int32, y = v6 + 1 := ⟨_, rfl⟩
          have hw := hw v6_8 ev6_8
          refine lv_iinc (v := v6_8) (lv' := [(6, .int v6_8), (5, .int x_7), (0, .ref (g.2.1 5)), (1, .int v1), (2, .int v2), (3, .int v3), (4, .int v4)]) hx hb dX6_prunes_42 hl (k := 6) rfl (by rw [ev6_8]; rfl) (by decide) rfl (fun ls hl => ?_)
          refine lv_goto (tgt := 6) hx hb dX6_prunes_45 (by decide) ?_
          exact ih hw U (lv_sub hl [2, 3, 4, 5, 6, 1, 0] rfl) h48
        · have hw := hw.2 c_6
          refine lv_iconst (v := 1) hx hb dX6_prunes_34 (by decide) ?_
          refine lv_goto (tgt := 39) hx hb dX6_prunes_35 (by decide) ?_
          refine lv_iadd hx hb dX6_prunes_39 ?_
          refine lv_topi (fun x_9 ex_9 => ?_)
          have hw := hw x_9 ex_9
          refine lv_istore (lv' := [(5, .int x_9), (0, .ref (g.2.1 5)), (1, .int v1), (2, .int v2), (3, .int v3), (4, .int v4), (6, .int v6)]) hx hb dX6_prunes_40 hl (by decide) rfl (fun ls hl => ?_)
          obtain ⟨v6_10, ev6_10⟩ : ∃ y : Int32, y = v6 + 1 := ⟨_, rfl⟩
          have hw := hw v6_10 ev6_10
          refine lv_iinc (v := v6_10) (lv' := [(6, .int v6_10), (5, .int x_9), (0, .ref (g.2.1 5)), (1, .int v1), (2, .int v2), (3, .int v3), (4, .int v4)]) hx hb dX6_prunes_42 hl (k := 6) rfl (by rw [ev6_10]; rfl) (by decide) rfl (fun ls hl => ?_)
          refine lv_goto (tgt := 6) hx hb dX6_prunes_45 (by decide) ?_
          exact ih hw U (lv_sub hl [2, 3, 4, 5, 6, 1, 0] rfl) h48
set_option maxHeartbeats 4000000 in
set_option maxRecDepth 100000 in
theorem t_X6_prunes_68 {p : Program} {l : Launch} {e : Env} {s : State} {m : MethodId} {args : Array Value} {below : List Frame} {meth : Method} {c : Code} {g : uG} {E126 : Int32 → Prop} {Q : Int32 → Prop} {v1 : Int32} {v2 : Int32} {v3 : Int32} {v5 : Int32} {A : SA} {B : SB} (C : uC p s m args meth c cX6_prunes 8 RX6 wsX6_prunes (some .boolean)) (K : UK g s) :
    ∀ {n : Nat} {v6 : Int32} {v7 : Int32} {H : Heap} {locs : List Loc} {ls : Array Slot}, wp_X6_prunes_68 E126 Q v1 v2 v3 v5 A B n v6 v7 → UU g A B s.heap H locs → lv_has ls 8 [(0, .ref (g.2.1 5)), (1, .int v1), (2, .int v2), (3, .int v3), (5, .int v5), (6, .int v6), (7, .int v7)] → (∀ (v6 : Int32) (H : Heap) (locs : List Loc) (ls : Array Slot), UU g A B s.heap H locs → lv_has ls 8 [(5, .int v5), (6, .int v6)] → E126 v6 → W p l e rmX6_prunes s m args below meth c H locs 0 0 (MQ below (uQi g (fun r A1 B1 => A1 = A ∧ B1 = B ∧ Q r )) args s 0 0 (FA g)) (F0 m 126 ls [])) → W p l e rmX6_prunes s m args below meth c H locs 0 0 (MQ below (uQi g (fun r A1 B1 => A1 = A ∧ B1 = B ∧ Q r )) args s 0 0 (FA g)) (F0 m 68 ls []) := by
  obtain ⟨hx, hb, hml, hown, hts, hr, hlocks⟩ := id C
  have S : CallFix p m c cX6_prunes 8 s args wsX6_prunes RX6 := ⟨hx, hb, hml, hown, hts⟩
  intro n
  induction n with
  | zero => intro _ _ _ _ _ hw; exact False.elim hw
  | succ n ih =>
    intro v6 v7 H locs ls hw U hl h126
    refine lv_iload hx hb dX6_prunes_68 (lv_at hl 6 rfl) ?_
    refine lv_aload_n hx hb dX6_prunes_70 rfl (lv_at hl 0 rfl) ?_
    refine u_get (C := RX6) (T := TX6) (N := 31) (v := .int (A 5 6)) hx hb hts hX6_prunes_X6 hown K U 5 5 (by decide) rfl rfl 6 (by decide) (hts (.fieldLink RX6 92 "TrialSearchModel" "trials" "I") (by decide +kernel)) rfl rfl dX6_prunes_71 ?_
    refine lv_icmp_ge (tgt := 126) hx hb dX6_prunes_74 (by decide) (fun c_15 => ?_) (fun c_15 => ?_)
    · have hw := hw.1 c_15
      exact h126 _ _ _ _ U (lv_sub hl [4, 5] rfl) hw
    · have hw := hw.2 c_15
      refine lv_iload hx hb dX6_prunes_77 (lv_at hl 5 rfl) ?_
      refine lv_iload hx hb dX6_prunes_79 (lv_at hl 6 rfl) ?_
      refine lv_iload_n hx hb dX6_prunes_81 rfl (lv_at hl 1 rfl) ?_
      refine lv_icmp_eq (tgt := 116) hx hb dX6_prunes_82 (by decide) (fun c_16 => ?_) (fun c_16 => ?_)
      · have hw := hw.1 c_16
        refine lv_iconst (v := 0) hx hb dX6_prunes_116 (by decide) ?_
        refine lv_iadd hx hb dX6_prunes_117 ?_
        refine lv_topi (fun x_17 ex_17 => ?_)
        have hw := hw x_17 ex_17
        refine lv_istore (lv' := [(6, .int x_17), (0, .ref (g.2.1 5)), (1, .int v1), (2, .int v2), (3, .int v3), (5, .int v5), (7, .int v7)]) hx hb dX6_prunes_118 hl (by decide) rfl (fun ls hl => ?_)
        obtain ⟨v7_18, ev7_18⟩ : ∃ y : Int32, y = v7 + 1 := ⟨_, rfl⟩
        have hw := hw v7_18 ev7_18
        refine lv_iinc (v := v7_18) (lv' := [(7, .int v7_18), (6, .int x_17), (0, .ref (g.2.1 5)), (1, .int v1), (2, .int v2), (3, .int v3), (5, .int v5)]) hx hb dX6_prunes_120 hl (k := 6) rfl (by rw [ev7_18]; rfl) (by decide) rfl (fun ls hl => ?_)
        refine lv_goto (tgt := 68) hx hb dX6_prunes_123 (by decide) ?_
        exact ih hw U (lv_sub hl [2, 3, 4, 5, 6, 1, 0] rfl) h126
      · have hw := hw.2 c_16
        refine lv_aload_n hx hb dX6_prunes_85 rfl (lv_at hl 0 rfl) ?_
        refine u_get (C := RX6) (T := TX6) (N := 31) (v := .ref (g.2.1 37)) hx hb hts hX6_prunes_X6 hown K U 5 5 (by decide) rfl rfl 10 (by decide) (hts (.fieldLink RX6 44 "TrialSearchModel" "reports" "[I") (by decide +kernel)) rfl rfl dX6_prunes_86 ?_
        refine lv_iload hx hb dX6_prunes_89 (lv_at hl 6 rfl) ?_
        obtain ⟨hi_19, hw⟩ := hw
        refine u_iald (k := 37) (v := (A 37 v7.toNatClampNeg)) hx hb K U rfl (by decide) rfl hi_19 rfl dX6_prunes_91 ?_
        refine lv_iload_n hx hb dX6_prunes_92 rfl (lv_at hl 2 rfl) ?_
        refine lv_icmp_le (tgt := 116) hx hb dX6_prunes_93 (by decide) (fun c_20 => ?_) (fun c_20 => ?_)
        · have hw := hw.1 c_20
          refine lv_iconst (v := 0) hx hb dX6_prunes_116 (by decide) ?_
          refine lv_iadd hx hb dX6_prunes_117 ?_
          refine lv_topi (fun x_21 ex_21 => ?_)
          have hw := hw x_21 ex_21
          refine lv_istore (lv' := [(6, .int x_21), (0, .ref (g.2.1 5)), (1, .int v1), (2, .int v2), (3, .int v3), (5, .int v5), (7, .int v7)]) hx hb dX6_prunes_118 hl (by decide) rfl (fun ls hl => ?_)
          obtain ⟨v7_22, ev7_22⟩ : ∃ y : Int32, y = v7 + 1 := ⟨_, rfl⟩
          have hw := hw v7_22 ev7_22
          refine lv_iinc (v := v7_22) (lv' := [(7, .int v7_22), (6, .int x_21), (0, .ref (g.2.1 5)), (1, .int v1), (2, .int v2), (3, .int v3), (5, .int v5)]) hx hb dX6_prunes_120 hl (k := 6) rfl (by rw [ev7_22]; rfl) (by decide) rfl (fun ls hl => ?_)
          refine lv_goto (tgt := 68) hx hb dX6_prunes_123 (by decide) ?_
          exact ih hw U (lv_sub hl [2, 3, 4, 5, 6, 1, 0] rfl) h126
        · have hw := hw.2 c_20
          refine lv_aload_n hx hb dX6_prunes_96 rfl (lv_at hl 0 rfl) ?_
          refine u_get (C := RX6) (T := TX6) (N := 31) (v := .ref (g.2.1 38)) hx hb hts hX6_prunes_X6 hown K U 5 5 (by decide) rfl rfl 11 (by decide) (hts (.fieldLink RX6 47 "TrialSearchModel" "reported" "[I") (by decide +kernel)) rfl rfl dX6_prunes_97 ?_
          refine lv_bipush (v := 20) hx hb dX6_prunes_100 (by decide) ?_
          refine lv_iload hx hb dX6_prunes_102 (lv_at hl 6 rfl) ?_
          refine lv_imul hx hb dX6_prunes_104 ?_
          refine lv_iload_n hx hb dX6_prunes_105 rfl (lv_at hl 2 rfl) ?_
          refine lv_iadd hx hb dX6_prunes_106 ?_
          refine lv_topi (fun x_23 ex_23 => ?_)
          have hw := hw x_23 ex_23
          obtain ⟨hi_24, hw⟩ := hw
          refine u_iald (k := 38) (v := (A 38 x_23.toNatClampNeg)) hx hb K U rfl (by decide) rfl hi_24 rfl dX6_prunes_107 ?_
          refine lv_iload_n hx hb dX6_prunes_108 rfl (lv_at hl 3 rfl) ?_
          refine lv_icmp_le (tgt := 116) hx hb dX6_prunes_109 (by decide) (fun c_25 => ?_) (fun c_25 => ?_)
          · have hw := hw.1 c_25
            refine lv_iconst (v := 0) hx hb dX6_prunes_116 (by decide) ?_
            refine lv_iadd hx hb dX6_prunes_117 ?_
            refine lv_topi (fun x_26 ex_26 => ?_)
            have hw := hw x_26 ex_26
            refine lv_istore (lv' := [(6, .int x_26), (0, .ref (g.2.1 5)), (1, .int v1), (2, .int v2), (3, .int v3), (5, .int v5), (7, .int v7)]) hx hb dX6_prunes_118 hl (by decide) rfl (fun ls hl => ?_)
            obtain ⟨v7_27, ev7_27⟩ : ∃ y : Int32, y = v7 + 1 := ⟨_, rfl⟩
            have hw := hw v7_27 ev7_27
            refine lv_iinc (v := v7_27) (lv' := [(7, .int v7_27), (6, .int x_26), (0, .ref (g.2.1 5)), (1, .int v1), (2, .int v2), (3, .int v3), (5, .int v5)]) hx hb dX6_prunes_120 hl (k := 6) rfl (by rw [ev7_27]; rfl) (by decide) rfl (fun ls hl => ?_)
            refine lv_goto (tgt := 68) hx hb dX6_prunes_123 (by decide) ?_
            exact ih hw U (lv_sub hl [2, 3, 4, 5, 6, 1, 0] rfl) h126
          · have hw := hw.2 c_25
            refine lv_iconst (v := 1) hx hb dX6_prunes_112 (by decide) ?_
            refine lv_goto (tgt := 117) hx hb dX6_prunes_113 (by decide) ?_
            refine lv_iadd hx hb dX6_prunes_117 ?_
            refine lv_topi (fun x_28 ex_28 => ?_)
            have hw := hw x_28 ex_28
            refine lv_istore (lv' := [(6, .int x_28), (0, .ref (g.2.1 5)), (1, .int v1), (2, .int v2), (3, .int v3), (5, .int v5), (7, .int v7)]) hx hb dX6_prunes_118 hl (by decide) rfl (fun ls hl => ?_)
            obtain ⟨v7_29, ev7_29⟩ : ∃ y : Int32, y = v7 + 1 := ⟨_, rfl⟩
            have hw := hw v7_29 ev7_29
            refine lv_iinc (v := v7_29) (lv' := [(7, .int v7_29), (6, .int x_28), (0, .ref (g.2.1 5)), (1, .int v1), (2, .int v2), (3, .int v3), (5, .int v5)]) hx hb dX6_prunes_120 hl (k := 6) rfl (by rw [ev7_29]; rfl) (by decide) rfl (fun ls hl => ?_)
            refine lv_goto (tgt := 68) hx hb dX6_prunes_123 (by decide) ?_
            exact ih hw U (lv_sub hl [2, 3, 4, 5, 6, 1, 0] rfl) h126
set_option maxHeartbeats 4000000 in
set_option maxRecDepth 100000 in
theorem c_X6_prunes {l : Launch} {g : uG} {a0 : Int32} {a1 : Int32} {a2 : Int32} {a3 : Int32} {A : SA} {B : SB} {Q : Int32 → Prop} (hw : wp_X6_prunes a0 a1 a2 a3 A B Q) : MI l yX6_prunes wsX6_prunes rmX6_prunes g A B [.ref (g.2.1 5), .int a0, .int a1, .int a2, .int a3] (fun r A1 B1 => A1 = A ∧ B1 = B ∧ Q r ) := by
  refine u_of (cc := cX6_prunes) (maxL := 8) (ret := (some .boolean)) (by decide) rfl (Nat.le_of_ble_eq_true rfl) ?_
  intro p e s m below meth c ls C K U hl
  obtain ⟨hx, hb, hml, hown, hts, hr, hlocks⟩ := id C
  have S : CallFix p m c cX6_prunes 8 s ([.ref (g.2.1 5), .int a0, .int a1, .int a2, .int a3] : List Value).toArray wsX6_prunes RX6 := ⟨hx, hb, hml, hown, hts⟩
  have hl : lv_has ls 8 [(0, .ref (g.2.1 5)), (1, .int a0), (2, .int a1), (3, .int a2), (4, .int a3)] := hl
  refine lv_iconst (v := 0) hx hb dX6_prunes_0 (by decide) ?_
  refine lv_istore (lv' := [(5, .int (0 : Int32)), (0, .ref (g.2.1 5)), (1, .int a0), (2, .int a1), (3, .int a2), (4, .int a3)]) hx hb dX6_prunes_1 hl (by decide) rfl (fun ls hl => ?_)
  refine lv_iconst (v := 0) hx hb dX6_prunes_3 (by decide) ?_
  refine lv_istore (lv' := [(6, .int (0 : Int32)), (5, .int (0 : Int32)), (0, .ref (g.2.1 5)), (1, .int a0), (2, .int a1), (3, .int a2), (4, .int a3)]) hx hb dX6_prunes_4 hl (by decide) rfl (fun ls hl => ?_)
  obtain ⟨n_11, hw⟩ := hw
  refine t_X6_prunes_6 C K hw U (lv_sub hl [2, 3, 4, 5, 6, 1, 0] rfl) (fun v5_12 H locs ls U hl hw => ?_)
  refine lv_iload hx hb dX6_prunes_48 (lv_at hl 4 rfl) ?_
  refine lv_if_eq (tgt := 60) hx hb dX6_prunes_50 (by decide) (fun c_13 => ?_) (fun c_13 => ?_)
  · have hw := hw.1 c_13
    refine lv_iconst (v := 0) hx hb dX6_prunes_60 (by decide) ?_
    exact u_zret hx hb hr hlocks U (by decide +kernel) ⟨rfl, rfl, hw⟩ dX6_prunes_61
  · have hw := hw.2 c_13
    refine lv_iload hx hb dX6_prunes_53 (lv_at hl 5 rfl) ?_
    refine lv_iload hx hb dX6_prunes_55 (lv_at hl 4 rfl) ?_
    refine lv_icmp_ge (tgt := 62) hx hb dX6_prunes_57 (by decide) (fun c_14 => ?_) (fun c_14 => ?_)
    · have hw := hw.1 c_14
      refine lv_iconst (v := 0) hx hb dX6_prunes_62 (by decide) ?_
      refine lv_istore (lv' := [(6, .int (0 : Int32)), (0, .ref (g.2.1 5)), (1, .int a0), (2, .int a1), (3, .int a2), (4, .int a3), (5, .int v5_12)]) hx hb dX6_prunes_63 hl (by decide) rfl (fun ls hl => ?_)
      refine lv_iconst (v := 0) hx hb dX6_prunes_65 (by decide) ?_
      refine lv_istore (lv' := [(7, .int (0 : Int32)), (6, .int (0 : Int32)), (0, .ref (g.2.1 5)), (1, .int a0), (2, .int a1), (3, .int a2), (4, .int a3), (5, .int v5_12)]) hx hb dX6_prunes_66 hl (by decide) rfl (fun ls hl => ?_)
      obtain ⟨n_30, hw⟩ := hw
      refine t_X6_prunes_68 C K hw U (lv_sub hl [2, 3, 4, 5, 7, 1, 0] rfl) (fun v6_31 H locs ls U hl hw => ?_)
      refine lv_iload hx hb dX6_prunes_126 (lv_at hl 0 rfl) ?_
      refine lv_iload hx hb dX6_prunes_128 (lv_at hl 1 rfl) ?_
      refine lv_isub hx hb dX6_prunes_130 ?_
      refine lv_iload hx hb dX6_prunes_131 (lv_at hl 0 rfl) ?_
      refine lv_iconst (v := 1) hx hb dX6_prunes_133 (by decide) ?_
      refine lv_isub hx hb dX6_prunes_134 ?_
      refine lv_iconst (v := 2) hx hb dX6_prunes_135 (by decide) ?_
      refine lv_idiv hx hb dX6_prunes_136 (by decide) ?_
      refine lv_icmp_gt (tgt := 144) hx hb dX6_prunes_137 (by decide) (fun c_32 => ?_) (fun c_32 => ?_)
      · have hw := hw.1 c_32
        refine lv_iconst (v := 0) hx hb dX6_prunes_144 (by decide) ?_
        exact u_zret hx hb hr hlocks U (by decide +kernel) ⟨rfl, rfl, hw⟩ dX6_prunes_145
      · have hw := hw.2 c_32
        refine lv_iconst (v := 1) hx hb dX6_prunes_140 (by decide) ?_
        refine lv_goto (tgt := 145) hx hb dX6_prunes_141 (by decide) ?_
        exact u_zret hx hb hr hlocks U (by decide +kernel) ⟨rfl, rfl, hw⟩ dX6_prunes_145
    · have hw := hw.2 c_14
      refine lv_iconst (v := 0) hx hb dX6_prunes_60 (by decide) ?_
      exact u_zret hx hb hr hlocks U (by decide +kernel) ⟨rfl, rfl, hw⟩ dX6_prunes_61
set_option maxHeartbeats 4000000 in
set_option maxRecDepth 100000 in
theorem c_X6_report {l : Launch} {g : uG} {a0 : Int32} {a1 : Int32} {a2 : Int32} {A : SA} {B : SB} {Q : Int32 → SA → Prop} (hw : wp_X6_report a0 a1 a2 A B Q) : MI l yX6_report wsX6_report rmX6_report g A B [.ref (g.2.1 5), .int a0, .int a1, .int a2] (fun r A1 B1 => B1 = B ∧ Q r A1 ) := by
  refine u_of (cc := cX6_report) (maxL := 5) (ret := (some .int)) (by decide) rfl (Nat.le_of_ble_eq_true rfl) ?_
  intro p e s m below meth c ls C K U hl
  obtain ⟨hx, hb, hml, hown, hts, hr, hlocks⟩ := id C
  have S : CallFix p m c cX6_report 5 s ([.ref (g.2.1 5), .int a0, .int a1, .int a2] : List Value).toArray wsX6_report RX6 := ⟨hx, hb, hml, hown, hts⟩
  have hl : lv_has ls 5 [(0, .ref (g.2.1 5)), (1, .int a0), (2, .int a1), (3, .int a2)] := hl
  refine lv_aload_n hx hb dX6_report_0 rfl (lv_at hl 0 rfl) ?_
  refine lv_iload_n hx hb dX6_report_1 rfl (lv_at hl 1 rfl) ?_
  refine u_ci (u_rV (As := [.int a0]) (rest := []) (C := RX6) S K U 5 5 (by decide) rfl rfl (c_X6_noTrial hw) (cwV 1 hts gX6_report_X6_noTrial rfl rfl rfl (by decide +kernel) ⟨Nat.le_of_ble_eq_true rfl, Nat.le_of_ble_eq_true rfl⟩) rfl hl.1 rfl (Nat.le_of_ble_eq_true rfl) dX6_report_2 ⟨Nat.zero_le _, Nat.zero_le _⟩) U (fun r_1 A_2 B_3 H locs U9 hw => ?_)
  obtain ⟨eA, eB, hw⟩ := hw
  rw [eA, eB] at U9
  have U := U9
  refine lv_if_ne (tgt := 27) hx hb dX6_report_5 (by decide) (fun c_4 => ?_) (fun c_4 => ?_)
  · have hw := hw.1 c_4
    refine lv_iconst (v := -1) hx hb dX6_report_27 (by decide) ?_
    exact u_iret hx hb hr hlocks U ⟨rfl, hw⟩ dX6_report_28
  · have hw := hw.2 c_4
    refine lv_iload_n hx hb dX6_report_8 rfl (lv_at hl 2 rfl) ?_
    refine u_ci (u_rS (As := [.int a1]) (rest := []) S K U (c_X6_isScore hw) (va_cwS 1 hts gX6_report_X6_isScore rfl rfl rfl (by decide +kernel) ⟨Nat.le_of_ble_eq_true rfl, Nat.le_of_ble_eq_true rfl⟩) rfl hl.1 rfl (Nat.le_of_ble_eq_true rfl) dX6_report_9 ⟨Nat.zero_le _, Nat.zero_le _⟩) U (fun r_5 A_6 B_7 H locs U9 hw => ?_)
    obtain ⟨eA, eB, hw⟩ := hw
    rw [eA, eB] at U9
    have U := U9
    refine lv_if_eq (tgt := 27) hx hb dX6_report_12 (by decide) (fun c_8 => ?_) (fun c_8 => ?_)
    · have hw := hw.1 c_8
      refine lv_iconst (v := -1) hx hb dX6_report_27 (by decide) ?_
      exact u_iret hx hb hr hlocks U ⟨rfl, hw⟩ dX6_report_28
    · have hw := hw.2 c_8
      refine lv_iload_n hx hb dX6_report_15 rfl (lv_at hl 3 rfl) ?_
      refine lv_i2l hx hb dX6_report_16 rfl ?_
      refine lv_lconst (v := 0) hx hb dX6_report_17 (by decide) ?_
      refine lv_ldc2 (v := 60) hx hb hown (hts (.constantLong RX6 169 (60)) (by decide +kernel)) dX6_report_18 ?_
      refine u_ci (u_rS (As := [.long a2.toInt64, .long (0 : Int64), .long (60 : Int64)]) (rest := []) S K U (c_X6_in hw) (va_cwS 3 hts gX6_report_X6_in rfl rfl rfl (by decide +kernel) ⟨Nat.le_of_ble_eq_true rfl, Nat.le_of_ble_eq_true rfl⟩) rfl hl.1 rfl (Nat.le_of_ble_eq_true rfl) dX6_report_21 ⟨Nat.zero_le _, Nat.zero_le _⟩) U (fun r_9 A_10 B_11 H locs U9 hw => ?_)
      obtain ⟨eA, eB, hw⟩ := hw
      rw [eA, eB] at U9
      have U := U9
      refine lv_if_ne (tgt := 29) hx hb dX6_report_24 (by decide) (fun c_12 => ?_) (fun c_12 => ?_)
      · have hw := hw.1 c_12
        refine lv_aload_n hx hb dX6_report_29 rfl (lv_at hl 0 rfl) ?_
        refine u_get (C := RX6) (T := TX6) (N := 31) (v := .ref (g.2.1 35)) hx hb hts hX6_report_X6 hown K U 5 5 (by decide) rfl rfl 8 (by decide) (hts (.fieldLink RX6 38 "TrialSearchModel" "state" "[I") (by decide +kernel)) rfl rfl dX6_report_30 ?_
        refine lv_iload_n hx hb dX6_report_33 rfl (lv_at hl 1 rfl) ?_
        obtain ⟨hi_13, hw⟩ := hw
        refine u_iald (k := 35) (v := (A 35 a0.toNatClampNeg)) hx hb K U rfl (by decide) rfl hi_13 rfl dX6_report_34 ?_
        refine lv_if_eq (tgt := 41) hx hb dX6_report_35 (by decide) (fun c_14 => ?_) (fun c_14 => ?_)
        · have hw := hw.1 c_14
          refine lv_aload_n hx hb dX6_report_41 rfl (lv_at hl 0 rfl) ?_
          refine u_get (C := RX6) (T := TX6) (N := 31) (v := .ref (g.2.1 37)) hx hb hts hX6_report_X6 hown K U 5 5 (by decide) rfl rfl 10 (by decide) (hts (.fieldLink RX6 44 "TrialSearchModel" "reports" "[I") (by decide +kernel)) rfl rfl dX6_report_42 ?_
          refine lv_iload_n hx hb dX6_report_45 rfl (lv_at hl 1 rfl) ?_
          obtain ⟨hi_15, hw⟩ := hw
          refine u_iald (k := 37) (v := (A 37 a0.toNatClampNeg)) hx hb K U rfl (by decide) rfl hi_15 rfl dX6_report_46 ?_
          refine lv_bipush (v := 20) hx hb dX6_report_47 (by decide) ?_
          refine lv_icmp_ne (tgt := 55) hx hb dX6_report_49 (by decide) (fun c_16 => ?_) (fun c_16 => ?_)
          · have hw := hw.1 c_16
            refine lv_aload_n hx hb dX6_report_55 rfl (lv_at hl 0 rfl) ?_
            refine u_get (C := RX6) (T := TX6) (N := 31) (v := .ref (g.2.1 37)) hx hb hts hX6_report_X6 hown K U 5 5 (by decide) rfl rfl 10 (by decide) (hts (.fieldLink RX6 44 "TrialSearchModel" "reports" "[I") (by decide +kernel)) rfl rfl dX6_report_56 ?_
            refine lv_iload_n hx hb dX6_report_59 rfl (lv_at hl 1 rfl) ?_
            refine lv_dup2_11 hx hb dX6_report_60 rfl rfl ?_
            obtain ⟨hi_17, hw⟩ := hw
            refine u_iald (k := 37) (v := (A 37 a0.toNatClampNeg)) hx hb K U rfl (by decide) rfl hi_17 rfl dX6_report_61 ?_
            refine lv_dup_x2 hx hb dX6_report_62 rfl rfl rfl ?_
            refine lv_iconst (v := 1) hx hb dX6_report_63 (by decide) ?_
            refine lv_iadd hx hb dX6_report_64 ?_
            refine lv_topi (fun x_18 ex_18 => ?_)
            have hw := hw x_18 ex_18
            obtain ⟨hi_19, hw⟩ := hw
            refine u_iast (k := 37) hx hb K U rfl (by decide) rfl hi_19 dX6_report_65 (fun H locs U => ?_)
            refine lv_topi (fun x_20 ex_20 => ?_)
            have hw := hw x_20 ex_20
            refine lv_istore (lv' := [(4, .int x_20), (0, .ref (g.2.1 5)), (1, .int a0), (2, .int a1), (3, .int a2)]) hx hb dX6_report_66 hl (by decide) rfl (fun ls hl => ?_)
            refine lv_aload_n hx hb dX6_report_68 rfl (lv_at hl 1 rfl) ?_
            refine u_get (C := RX6) (T := TX6) (N := 31) (v := .ref (g.2.1 38)) hx hb hts hX6_report_X6 hown K U 5 5 (by decide) rfl rfl 11 (by decide) (hts (.fieldLink RX6 47 "TrialSearchModel" "reported" "[I") (by decide +kernel)) rfl rfl dX6_report_69 ?_
            refine lv_bipush (v := 20) hx hb dX6_report_72 (by decide) ?_
            refine lv_iload_n hx hb dX6_report_74 rfl (lv_at hl 2 rfl) ?_
            refine lv_imul hx hb dX6_report_75 ?_
            refine lv_iload hx hb dX6_report_76 (lv_at hl 0 rfl) ?_
            refine lv_iadd hx hb dX6_report_78 ?_
            refine lv_iload_n hx hb dX6_report_79 rfl (lv_at hl 3 rfl) ?_
            obtain ⟨hi_21, hw⟩ := hw
            refine u_iast (k := 38) hx hb K U rfl (by decide) rfl hi_21 dX6_report_80 (fun H locs U => ?_)
            refine lv_aload_n hx hb dX6_report_81 rfl (lv_at hl 1 rfl) ?_
            refine lv_iload_n hx hb dX6_report_82 rfl (lv_at hl 2 rfl) ?_
            refine lv_iload hx hb dX6_report_83 (lv_at hl 0 rfl) ?_
            refine lv_iload_n hx hb dX6_report_85 rfl (lv_at hl 3 rfl) ?_
            refine lv_iload_n hx hb dX6_report_86 rfl (lv_at hl 4 rfl) ?_
            refine u_ci (u_rV (As := [.int a0, .int x_20, .int a1, .int a2]) (rest := []) (C := RX6) S K U 5 5 (by decide) rfl rfl (c_X6_prunes hw) (cwV 4 hts gX6_report_X6_prunes rfl rfl rfl (by decide +kernel) ⟨Nat.le_of_ble_eq_true rfl, Nat.le_of_ble_eq_true rfl⟩) rfl hl.1 rfl (Nat.le_of_ble_eq_true rfl) dX6_report_87 ⟨Nat.zero_le _, Nat.zero_le _⟩) U (fun r_22 A_23 B_24 H locs U9 hw => ?_)
            obtain ⟨eA, eB, hw⟩ := hw
            rw [eA, eB] at U9
            have U := U9
            refine lv_if_ne (tgt := 96) hx hb dX6_report_90 (by decide) (fun c_25 => ?_) (fun c_25 => ?_)
            · have hw := hw.1 c_25
              refine lv_aload_n hx hb dX6_report_96 rfl (lv_at hl 1 rfl) ?_
              refine u_get (C := RX6) (T := TX6) (N := 31) (v := .ref (g.2.1 35)) hx hb hts hX6_report_X6 hown K U 5 5 (by decide) rfl rfl 8 (by decide) (hts (.fieldLink RX6 38 "TrialSearchModel" "state" "[I") (by decide +kernel)) rfl rfl dX6_report_97 ?_
              refine lv_iload_n hx hb dX6_report_100 rfl (lv_at hl 2 rfl) ?_
              refine lv_iconst (v := 3) hx hb dX6_report_101 (by decide) ?_
              obtain ⟨hi_26, hw⟩ := hw
              refine u_iast (k := 35) hx hb K U rfl (by decide) rfl hi_26 dX6_report_102 (fun H locs U => ?_)
              refine lv_bipush (v := -10) hx hb dX6_report_103 (by decide) ?_
              refine lv_iload hx hb dX6_report_105 (lv_at hl 0 rfl) ?_
              refine lv_isub hx hb dX6_report_107 ?_
              exact u_iret hx hb hr hlocks U ⟨rfl, hw⟩ dX6_report_108
            · have hw := hw.2 c_25
              refine lv_iload hx hb dX6_report_93 (lv_at hl 0 rfl) ?_
              exact u_iret hx hb hr hlocks U ⟨rfl, hw⟩ dX6_report_95
          · have hw := hw.2 c_16
            refine lv_bipush (v := -4) hx hb dX6_report_52 (by decide) ?_
            exact u_iret hx hb hr hlocks U ⟨rfl, hw⟩ dX6_report_54
        · have hw := hw.2 c_14
          refine lv_bipush (v := -3) hx hb dX6_report_38 (by decide) ?_
          exact u_iret hx hb hr hlocks U ⟨rfl, hw⟩ dX6_report_40
      · have hw := hw.2 c_12
        refine lv_iconst (v := -1) hx hb dX6_report_27 (by decide) ?_
        exact u_iret hx hb hr hlocks U ⟨rfl, hw⟩ dX6_report_28
set_option maxHeartbeats 4000000 in
set_option maxRecDepth 100000 in
theorem c_X6_told {l : Launch} {g : uG} {a0 : Int32} {a1 : Int32} {A : SA} {B : SB} {Q : Int32 → Prop} (hw : wp_X6_told a0 a1 A B Q) : MI l yX6_told wsX6_told rmX6_told g A B [.ref (g.2.1 5), .int a0, .int a1] (fun r A1 B1 => A1 = A ∧ B1 = B ∧ Q r ) := by
  refine u_of (cc := cX6_told) (maxL := 3) (ret := (some .int)) (by decide) rfl (Nat.le_of_ble_eq_true rfl) ?_
  intro p e s m below meth c ls C K U hl
  obtain ⟨hx, hb, hml, hown, hts, hr, hlocks⟩ := id C
  have S : CallFix p m c cX6_told 3 s ([.ref (g.2.1 5), .int a0, .int a1] : List Value).toArray wsX6_told RX6 := ⟨hx, hb, hml, hown, hts⟩
  have hl : lv_has ls 3 [(0, .ref (g.2.1 5)), (1, .int a0), (2, .int a1)] := hl
  refine lv_aload_n hx hb dX6_told_0 rfl (lv_at hl 0 rfl) ?_
  refine lv_iload_n hx hb dX6_told_1 rfl (lv_at hl 1 rfl) ?_
  refine u_ci (u_rV (As := [.int a0]) (rest := []) (C := RX6) S K U 5 5 (by decide) rfl rfl (c_X6_noTrial hw) (cwV 1 hts gX6_told_X6_noTrial rfl rfl rfl (by decide +kernel) ⟨Nat.le_of_ble_eq_true rfl, Nat.le_of_ble_eq_true rfl⟩) rfl hl.1 rfl (Nat.le_of_ble_eq_true rfl) dX6_told_2 ⟨Nat.zero_le _, Nat.zero_le _⟩) U (fun r_1 A_2 B_3 H locs U9 hw => ?_)
  obtain ⟨eA, eB, hw⟩ := hw
  rw [eA, eB] at U9
  have U := U9
  refine lv_if_eq (tgt := 10) hx hb dX6_told_5 (by decide) (fun c_4 => ?_) (fun c_4 => ?_)
  · have hw := hw.1 c_4
    refine lv_iload_n hx hb dX6_told_10 rfl (lv_at hl 2 rfl) ?_
    by_cases h_5 : a1 = 0
    · have hw := hw.1 h_5
      refine lv_tableIn (off := 33) (tgt := 44) hx hb dX6_told_11 (by rw [h_5]; decide) (by rw [h_5]; decide) (by rw [h_5]; rfl) (by decide) ?_
      refine lv_aload_n hx hb dX6_told_44 rfl (lv_at hl 0 rfl) ?_
      refine u_get (C := RX6) (T := TX6) (N := 31) (v := .ref (g.2.1 35)) hx hb hts hX6_told_X6 hown K U 5 5 (by decide) rfl rfl 8 (by decide) (hts (.fieldLink RX6 38 "TrialSearchModel" "state" "[I") (by decide +kernel)) rfl rfl dX6_told_45 ?_
      refine lv_iload_n hx hb dX6_told_48 rfl (lv_at hl 1 rfl) ?_
      obtain ⟨hi_6, hw⟩ := hw
      refine u_iald (k := 35) (v := (A 35 a0.toNatClampNeg)) hx hb K U rfl (by decide) rfl hi_6 rfl dX6_told_49 ?_
      exact u_iret hx hb hr hlocks U ⟨rfl, rfl, hw⟩ dX6_told_50
    · have hw := hw.2 h_5
      by_cases h_7 : a1 = 1
      · have hw := hw.1 h_7
        refine lv_tableIn (off := 40) (tgt := 51) hx hb dX6_told_11 (by rw [h_7]; decide) (by rw [h_7]; decide) (by rw [h_7]; rfl) (by decide) ?_
        refine lv_aload_n hx hb dX6_told_51 rfl (lv_at hl 0 rfl) ?_
        refine u_get (C := RX6) (T := TX6) (N := 31) (v := .ref (g.2.1 36)) hx hb hts hX6_told_X6 hown K U 5 5 (by decide) rfl rfl 9 (by decide) (hts (.fieldLink RX6 41 "TrialSearchModel" "score" "[I") (by decide +kernel)) rfl rfl dX6_told_52 ?_
        refine lv_iload_n hx hb dX6_told_55 rfl (lv_at hl 1 rfl) ?_
        obtain ⟨hi_8, hw⟩ := hw
        refine u_iald (k := 36) (v := (A 36 a0.toNatClampNeg)) hx hb K U rfl (by decide) rfl hi_8 rfl dX6_told_56 ?_
        exact u_iret hx hb hr hlocks U ⟨rfl, rfl, hw⟩ dX6_told_57
      · have hw := hw.2 h_7
        by_cases h_9 : a1 = 2
        · have hw := hw.1 h_9
          refine lv_tableIn (off := 47) (tgt := 58) hx hb dX6_told_11 (by rw [h_9]; decide) (by rw [h_9]; decide) (by rw [h_9]; rfl) (by decide) ?_
          refine lv_aload_n hx hb dX6_told_58 rfl (lv_at hl 0 rfl) ?_
          refine u_get (C := RX6) (T := TX6) (N := 31) (v := .ref (g.2.1 37)) hx hb hts hX6_told_X6 hown K U 5 5 (by decide) rfl rfl 10 (by decide) (hts (.fieldLink RX6 44 "TrialSearchModel" "reports" "[I") (by decide +kernel)) rfl rfl dX6_told_59 ?_
          refine lv_iload_n hx hb dX6_told_62 rfl (lv_at hl 1 rfl) ?_
          obtain ⟨hi_10, hw⟩ := hw
          refine u_iald (k := 37) (v := (A 37 a0.toNatClampNeg)) hx hb K U rfl (by decide) rfl hi_10 rfl dX6_told_63 ?_
          exact u_iret hx hb hr hlocks U ⟨rfl, rfl, hw⟩ dX6_told_64
        · have hw := hw.2 h_9
          by_cases h_11 : a1 = 3
          · have hw := hw.1 h_11
            refine lv_tableIn (off := 54) (tgt := 65) hx hb dX6_told_11 (by rw [h_11]; decide) (by rw [h_11]; decide) (by rw [h_11]; rfl) (by decide) ?_
            refine lv_aload_n hx hb dX6_told_65 rfl (lv_at hl 0 rfl) ?_
            refine u_get (C := RX6) (T := TX6) (N := 31) (v := .ref (g.2.1 41)) hx hb hts hX6_told_X6 hown K U 5 5 (by decide) rfl rfl 16 (by decide) (hts (.fieldLink RX6 57 "TrialSearchModel" "isIn" "[Z") (by decide +kernel)) rfl rfl dX6_told_66 ?_
            refine lv_iload_n hx hb dX6_told_69 rfl (lv_at hl 1 rfl) ?_
            obtain ⟨hi_12, hw⟩ := hw
            refine u_zald (k := 41) (v := (A 41 a0.toNatClampNeg)) hx hb K U rfl (by decide) rfl hi_12 rfl dX6_told_70 ?_
            refine lv_if_eq (tgt := 92) hx hb dX6_told_71 (by decide) (fun c_13 => ?_) (fun c_13 => ?_)
            · have hw := hw.1 c_13
              refine lv_iconst (v := 0) hx hb dX6_told_92 (by decide) ?_
              exact u_iret hx hb hr hlocks U ⟨rfl, rfl, hw⟩ dX6_told_93
            · have hw := hw.2 c_13
              refine lv_aload_n hx hb dX6_told_74 rfl (lv_at hl 0 rfl) ?_
              refine u_get (C := RX6) (T := TX6) (N := 31) (v := .ref (g.2.1 42)) hx hb hts hX6_told_X6 hown K U 5 5 (by decide) rfl rfl 17 (by decide) (hts (.fieldLink RX6 60 "TrialSearchModel" "hasResult" "[Z") (by decide +kernel)) rfl rfl dX6_told_75 ?_
              refine lv_iload_n hx hb dX6_told_78 rfl (lv_at hl 1 rfl) ?_
              obtain ⟨hi_14, hw⟩ := hw
              refine u_zald (k := 42) (v := (A 42 a0.toNatClampNeg)) hx hb K U rfl (by decide) rfl hi_14 rfl dX6_told_79 ?_
              refine lv_if_eq (tgt := 92) hx hb dX6_told_80 (by decide) (fun c_15 => ?_) (fun c_15 => ?_)
              · have hw := hw.1 c_15
                refine lv_iconst (v := 0) hx hb dX6_told_92 (by decide) ?_
                exact u_iret hx hb hr hlocks U ⟨rfl, rfl, hw⟩ dX6_told_93
              · have hw := hw.2 c_15
                refine lv_aload_n hx hb dX6_told_83 rfl (lv_at hl 0 rfl) ?_
                refine u_get (C := RX6) (T := TX6) (N := 31) (v := .ref (g.2.1 44)) hx hb hts hX6_told_X6 hown K U 5 5 (by decide) rfl rfl 19 (by decide) (hts (.fieldLink RX6 66 "TrialSearchModel" "result" "[I") (by decide +kernel)) rfl rfl dX6_told_84 ?_
                refine lv_iload_n hx hb dX6_told_87 rfl (lv_at hl 1 rfl) ?_
                obtain ⟨hi_16, hw⟩ := hw
                refine u_iald (k := 44) (v := (A 44 a0.toNatClampNeg)) hx hb K U rfl (by decide) rfl hi_16 rfl dX6_told_88 ?_
                refine lv_goto (tgt := 93) hx hb dX6_told_89 (by decide) ?_
                exact u_iret hx hb hr hlocks U ⟨rfl, rfl, hw⟩ dX6_told_93
          · have hw := hw.2 h_11
            by_cases h_17 : a1 = 4
            · have hw := hw.1 h_17
              refine lv_tableIn (off := 83) (tgt := 94) hx hb dX6_told_11 (by rw [h_17]; decide) (by rw [h_17]; decide) (by rw [h_17]; rfl) (by decide) ?_
              refine lv_aload_n hx hb dX6_told_94 rfl (lv_at hl 0 rfl) ?_
              refine u_get (C := RX6) (T := TX6) (N := 31) (v := .ref (g.2.1 41)) hx hb hts hX6_told_X6 hown K U 5 5 (by decide) rfl rfl 16 (by decide) (hts (.fieldLink RX6 57 "TrialSearchModel" "isIn" "[Z") (by decide +kernel)) rfl rfl dX6_told_95 ?_
              refine lv_iload_n hx hb dX6_told_98 rfl (lv_at hl 1 rfl) ?_
              obtain ⟨hi_18, hw⟩ := hw
              refine u_zald (k := 41) (v := (A 41 a0.toNatClampNeg)) hx hb K U rfl (by decide) rfl hi_18 rfl dX6_told_99 ?_
              refine lv_if_eq (tgt := 107) hx hb dX6_told_100 (by decide) (fun c_19 => ?_) (fun c_19 => ?_)
              · have hw := hw.1 c_19
                refine lv_iconst (v := 0) hx hb dX6_told_107 (by decide) ?_
                exact u_iret hx hb hr hlocks U ⟨rfl, rfl, hw⟩ dX6_told_108
              · have hw := hw.2 c_19
                refine lv_iconst (v := 1) hx hb dX6_told_103 (by decide) ?_
                refine lv_goto (tgt := 108) hx hb dX6_told_104 (by decide) ?_
                exact u_iret hx hb hr hlocks U ⟨rfl, rfl, hw⟩ dX6_told_108
            · have hw := hw.2 h_17
              have nh_5 := lv_neT (a := 0) h_5 (by decide)
              have nh_7 := lv_neT (a := 1) h_7 (by decide)
              have nh_9 := lv_neT (a := 2) h_9 (by decide)
              have nh_11 := lv_neT (a := 3) h_11 (by decide)
              have nh_17 := lv_neT (a := 4) h_17 (by decide)
              refine lv_tableOut (tgt := 109) hx hb dX6_told_11 (by omega) (by decide) ?_
              refine lv_iconst (v := -1) hx hb dX6_told_109 (by decide) ?_
              exact u_iret hx hb hr hlocks U ⟨rfl, rfl, hw⟩ dX6_told_110
  · have hw := hw.2 c_4
    refine lv_iconst (v := -1) hx hb dX6_told_8 (by decide) ?_
    exact u_iret hx hb hr hlocks U ⟨rfl, rfl, hw⟩ dX6_told_9
set_option maxHeartbeats 4000000 in
set_option maxRecDepth 100000 in
theorem c_X6_point {l : Launch} {g : uG} {a0 : Int32} {A : SA} {B : SB} {Q : Int64 → Prop} (hw : wp_X6_point a0 A B Q) : ML l yX6_point wsX6_point rmX6_point g A B [.ref (g.2.1 5), .int a0] (fun r A1 B1 => A1 = A ∧ B1 = B ∧ Q r ) := by
  refine u_of (cc := cX6_point) (maxL := 2) (ret := (some .long)) (by decide) rfl (Nat.le_of_ble_eq_true rfl) ?_
  intro p e s m below meth c ls C K U hl
  obtain ⟨hx, hb, hml, hown, hts, hr, hlocks⟩ := id C
  have S : CallFix p m c cX6_point 2 s ([.ref (g.2.1 5), .int a0] : List Value).toArray wsX6_point RX6 := ⟨hx, hb, hml, hown, hts⟩
  have hl : lv_has ls 2 [(0, .ref (g.2.1 5)), (1, .int a0)] := hl
  refine lv_aload_n hx hb dX6_point_0 rfl (lv_at hl 0 rfl) ?_
  refine lv_iload_n hx hb dX6_point_1 rfl (lv_at hl 1 rfl) ?_
  refine u_ci (u_rV (As := [.int a0]) (rest := []) (C := RX6) S K U 5 5 (by decide) rfl rfl (c_X6_noTrial hw) (cwV 1 hts gX6_point_X6_noTrial rfl rfl rfl (by decide +kernel) ⟨Nat.le_of_ble_eq_true rfl, Nat.le_of_ble_eq_true rfl⟩) rfl hl.1 rfl (Nat.le_of_ble_eq_true rfl) dX6_point_2 ⟨Nat.zero_le _, Nat.zero_le _⟩) U (fun r_1 A_2 B_3 H locs U9 hw => ?_)
  obtain ⟨eA, eB, hw⟩ := hw
  rw [eA, eB] at U9
  have U := U9
  refine lv_if_eq (tgt := 14) hx hb dX6_point_5 (by decide) (fun c_4 => ?_) (fun c_4 => ?_)
  · have hw := hw.1 c_4
    refine lv_aload_n hx hb dX6_point_14 rfl (lv_at hl 0 rfl) ?_
    refine u_get (C := RX6) (T := TX6) (N := 31) (v := .ref (g.2.1 34)) hx hb hts hX6_point_X6 hown K U 5 5 (by decide) rfl rfl 7 (by decide) (hts (.fieldLink RX6 35 "TrialSearchModel" "pointOf" "[J") (by decide +kernel)) rfl rfl dX6_point_15 ?_
    refine lv_iload_n hx hb dX6_point_18 rfl (lv_at hl 1 rfl) ?_
    obtain ⟨hi_5, hw⟩ := hw
    refine u_lald (k := 34) (v := (B 34 a0.toNatClampNeg)) hx hb K U rfl (by decide) rfl hi_5 rfl dX6_point_19 ?_
    exact u_lret hx hb hr hlocks U ⟨rfl, rfl, hw⟩ dX6_point_20
  · have hw := hw.2 c_4
    refine lv_ldc2 (v := -1) hx hb hown (hts (.constantLong RX6 84 (-1)) (by decide +kernel)) dX6_point_8 ?_
    refine lv_goto (tgt := 20) hx hb dX6_point_11 (by decide) ?_
    exact u_lret hx hb hr hlocks U ⟨rfl, rfl, hw⟩ dX6_point_20
set_option maxHeartbeats 4000000 in
set_option maxRecDepth 100000 in
theorem c_X6_reported {l : Launch} {g : uG} {a0 : Int32} {a1 : Int32} {A : SA} {B : SB} {Q : Int32 → Prop} (hw : wp_X6_reported a0 a1 A B Q) : MI l yX6_reported wsX6_reported rmX6_reported g A B [.ref (g.2.1 5), .int a0, .int a1] (fun r A1 B1 => A1 = A ∧ B1 = B ∧ Q r ) := by
  refine u_of (cc := cX6_reported) (maxL := 3) (ret := (some .int)) (by decide) rfl (Nat.le_of_ble_eq_true rfl) ?_
  intro p e s m below meth c ls C K U hl
  obtain ⟨hx, hb, hml, hown, hts, hr, hlocks⟩ := id C
  have S : CallFix p m c cX6_reported 3 s ([.ref (g.2.1 5), .int a0, .int a1] : List Value).toArray wsX6_reported RX6 := ⟨hx, hb, hml, hown, hts⟩
  have hl : lv_has ls 3 [(0, .ref (g.2.1 5)), (1, .int a0), (2, .int a1)] := hl
  refine lv_aload_n hx hb dX6_reported_0 rfl (lv_at hl 0 rfl) ?_
  refine lv_iload_n hx hb dX6_reported_1 rfl (lv_at hl 1 rfl) ?_
  refine u_ci (u_rV (As := [.int a0]) (rest := []) (C := RX6) S K U 5 5 (by decide) rfl rfl (c_X6_noTrial hw) (cwV 1 hts gX6_reported_X6_noTrial rfl rfl rfl (by decide +kernel) ⟨Nat.le_of_ble_eq_true rfl, Nat.le_of_ble_eq_true rfl⟩) rfl hl.1 rfl (Nat.le_of_ble_eq_true rfl) dX6_reported_2 ⟨Nat.zero_le _, Nat.zero_le _⟩) U (fun r_1 A_2 B_3 H locs U9 hw => ?_)
  obtain ⟨eA, eB, hw⟩ := hw
  rw [eA, eB] at U9
  have U := U9
  refine lv_if_ne (tgt := 26) hx hb dX6_reported_5 (by decide) (fun c_4 => ?_) (fun c_4 => ?_)
  · have hw := hw.1 c_4
    refine lv_ldc (v := -2000000) hx hb hown (hts (.constant RX6 175 (-2000000)) (by decide +kernel)) dX6_reported_26 ?_
    refine lv_goto (tgt := 42) hx hb dX6_reported_28 (by decide) ?_
    exact u_iret hx hb hr hlocks U ⟨rfl, rfl, hw⟩ dX6_reported_42
  · have hw := hw.2 c_4
    refine lv_iload_n hx hb dX6_reported_8 rfl (lv_at hl 2 rfl) ?_
    refine lv_i2l hx hb dX6_reported_9 rfl ?_
    refine lv_lconst (v := 0) hx hb dX6_reported_10 (by decide) ?_
    refine lv_aload_n hx hb dX6_reported_11 rfl (lv_at hl 0 rfl) ?_
    refine u_get (C := RX6) (T := TX6) (N := 31) (v := .ref (g.2.1 37)) hx hb hts hX6_reported_X6 hown K U 5 5 (by decide) rfl rfl 10 (by decide) (hts (.fieldLink RX6 44 "TrialSearchModel" "reports" "[I") (by decide +kernel)) rfl rfl dX6_reported_12 ?_
    refine lv_iload_n hx hb dX6_reported_15 rfl (lv_at hl 1 rfl) ?_
    obtain ⟨hi_5, hw⟩ := hw
    refine u_iald (k := 37) (v := (A 37 a0.toNatClampNeg)) hx hb K U rfl (by decide) rfl hi_5 rfl dX6_reported_16 ?_
    refine lv_iconst (v := 1) hx hb dX6_reported_17 (by decide) ?_
    refine lv_isub hx hb dX6_reported_18 ?_
    refine lv_i2l hx hb dX6_reported_19 rfl ?_
    refine u_ci (u_rS (As := [.long a1.toInt64, .long (0 : Int64), .long ((A 37 a0.toNatClampNeg) - (1 : Int32)).toInt64]) (rest := []) S K U (c_X6_in hw) (va_cwS 3 hts gX6_reported_X6_in rfl rfl rfl (by decide +kernel) ⟨Nat.le_of_ble_eq_true rfl, Nat.le_of_ble_eq_true rfl⟩) rfl hl.1 rfl (Nat.le_of_ble_eq_true rfl) dX6_reported_20 ⟨Nat.zero_le _, Nat.zero_le _⟩) U (fun r_6 A_7 B_8 H locs U9 hw => ?_)
    obtain ⟨eA, eB, hw⟩ := hw
    rw [eA, eB] at U9
    have U := U9
    refine lv_if_ne (tgt := 31) hx hb dX6_reported_23 (by decide) (fun c_9 => ?_) (fun c_9 => ?_)
    · have hw := hw.1 c_9
      refine lv_aload_n hx hb dX6_reported_31 rfl (lv_at hl 0 rfl) ?_
      refine u_get (C := RX6) (T := TX6) (N := 31) (v := .ref (g.2.1 38)) hx hb hts hX6_reported_X6 hown K U 5 5 (by decide) rfl rfl 11 (by decide) (hts (.fieldLink RX6 47 "TrialSearchModel" "reported" "[I") (by decide +kernel)) rfl rfl dX6_reported_32 ?_
      refine lv_bipush (v := 20) hx hb dX6_reported_35 (by decide) ?_
      refine lv_iload_n hx hb dX6_reported_37 rfl (lv_at hl 1 rfl) ?_
      refine lv_imul hx hb dX6_reported_38 ?_
      refine lv_iload_n hx hb dX6_reported_39 rfl (lv_at hl 2 rfl) ?_
      refine lv_iadd hx hb dX6_reported_40 ?_
      refine lv_topi (fun x_10 ex_10 => ?_)
      have hw := hw x_10 ex_10
      obtain ⟨hi_11, hw⟩ := hw
      refine u_iald (k := 38) (v := (A 38 x_10.toNatClampNeg)) hx hb K U rfl (by decide) rfl hi_11 rfl dX6_reported_41 ?_
      exact u_iret hx hb hr hlocks U ⟨rfl, rfl, hw⟩ dX6_reported_42
    · have hw := hw.2 c_9
      refine lv_ldc (v := -2000000) hx hb hown (hts (.constant RX6 175 (-2000000)) (by decide +kernel)) dX6_reported_26 ?_
      refine lv_goto (tgt := 42) hx hb dX6_reported_28 (by decide) ?_
      exact u_iret hx hb hr hlocks U ⟨rfl, rfl, hw⟩ dX6_reported_42
set_option maxHeartbeats 4000000 in
set_option maxRecDepth 100000 in
theorem t_X6_best_5 {p : Program} {l : Launch} {e : Env} {s : State} {m : MethodId} {args : Array Value} {below : List Frame} {meth : Method} {c : Code} {g : uG} {E54 : Int32 → Prop} {Q : Int32 → Prop} {A : SA} {B : SB} (C : uC p s m args meth c cX6_best 3 RX6 wsX6_best (some .int)) (K : UK g s) :
    ∀ {n : Nat} {v1 : Int32} {v2 : Int32} {H : Heap} {locs : List Loc} {ls : Array Slot}, wp_X6_best_5 E54 Q A B n v1 v2 → UU g A B s.heap H locs → lv_has ls 3 [(0, .ref (g.2.1 5)), (1, .int v1), (2, .int v2)] → (∀ (v1 : Int32) (H : Heap) (locs : List Loc) (ls : Array Slot), UU g A B s.heap H locs → lv_has ls 3 [(1, .int v1)] → E54 v1 → W p l e rmX6_best s m args below meth c H locs 0 0 (MQ below (uQi g (fun r A1 B1 => A1 = A ∧ B1 = B ∧ Q r )) args s 0 0 (FA g)) (F0 m 54 ls [])) → W p l e rmX6_best s m args below meth c H locs 0 0 (MQ below (uQi g (fun r A1 B1 => A1 = A ∧ B1 = B ∧ Q r )) args s 0 0 (FA g)) (F0 m 5 ls []) := by
  obtain ⟨hx, hb, hml, hown, hts, hr, hlocks⟩ := id C
  have S : CallFix p m c cX6_best 3 s args wsX6_best RX6 := ⟨hx, hb, hml, hown, hts⟩
  intro n
  induction n with
  | zero => intro _ _ _ _ _ hw; exact False.elim hw
  | succ n ih =>
    intro v1 v2 H locs ls hw U hl h54
    refine lv_iload_n hx hb dX6_best_5 rfl (lv_at hl 2 rfl) ?_
    refine lv_aload_n hx hb dX6_best_6 rfl (lv_at hl 0 rfl) ?_
    refine u_get (C := RX6) (T := TX6) (N := 31) (v := .int (A 5 6)) hx hb hts hX6_best_X6 hown K U 5 5 (by decide) rfl rfl 6 (by decide) (hts (.fieldLink RX6 92 "TrialSearchModel" "trials" "I") (by decide +kernel)) rfl rfl dX6_best_7 ?_
    refine lv_icmp_ge (tgt := 54) hx hb dX6_best_10 (by decide) (fun c_1 => ?_) (fun c_1 => ?_)
    · have hw := hw.1 c_1
      exact h54 _ _ _ _ U (lv_sub hl [1] rfl) hw
    · have hw := hw.2 c_1
      refine lv_aload_n hx hb dX6_best_13 rfl (lv_at hl 0 rfl) ?_
      refine u_get (C := RX6) (T := TX6) (N := 31) (v := .ref (g.2.1 35)) hx hb hts hX6_best_X6 hown K U 5 5 (by decide) rfl rfl 8 (by decide) (hts (.fieldLink RX6 38 "TrialSearchModel" "state" "[I") (by decide +kernel)) rfl rfl dX6_best_14 ?_
      refine lv_iload_n hx hb dX6_best_17 rfl (lv_at hl 2 rfl) ?_
      obtain ⟨hi_2, hw⟩ := hw
      refine u_iald (k := 35) (v := (A 35 v2.toNatClampNeg)) hx hb K U rfl (by decide) rfl hi_2 rfl dX6_best_18 ?_
      refine lv_iconst (v := 1) hx hb dX6_best_19 (by decide) ?_
      refine lv_icmp_ne (tgt := 46) hx hb dX6_best_20 (by decide) (fun c_3 => ?_) (fun c_3 => ?_)
      · have hw := hw.1 c_3
        refine lv_iload_n hx hb dX6_best_46 rfl (lv_at hl 1 rfl) ?_
        refine lv_istore_n (lv' := [(1, .int v1), (0, .ref (g.2.1 5)), (2, .int v2)]) hx hb dX6_best_47 rfl hl (by decide) rfl (fun ls hl => ?_)
        obtain ⟨v2_4, ev2_4⟩ : ∃ y : Int32, y = v2 + 1 := ⟨_, rfl⟩
        have hw := hw v2_4 ev2_4
        refine lv_iinc (v := v2_4) (lv' := [(2, .int v2_4), (1, .int v1), (0, .ref (g.2.1 5))]) hx hb dX6_best_48 hl (k := 2) rfl (by rw [ev2_4]; rfl) (by decide) rfl (fun ls hl => ?_)
        refine lv_goto (tgt := 5) hx hb dX6_best_51 (by decide) ?_
        exact ih hw U (lv_sub hl [2, 1, 0] rfl) h54
      · have hw := hw.2 c_3
        refine lv_iload_n hx hb dX6_best_23 rfl (lv_at hl 1 rfl) ?_
        refine lv_if_lt (tgt := 42) hx hb dX6_best_24 (by decide) (fun c_5 => ?_) (fun c_5 => ?_)
        · have hw := hw.1 c_5
          refine lv_iload_n hx hb dX6_best_42 rfl (lv_at hl 2 rfl) ?_
          refine lv_goto (tgt := 47) hx hb dX6_best_43 (by decide) ?_
          refine lv_istore_n (lv' := [(1, .int v2), (0, .ref (g.2.1 5)), (2, .int v2)]) hx hb dX6_best_47 rfl hl (by decide) rfl (fun ls hl => ?_)
          obtain ⟨v2_6, ev2_6⟩ : ∃ y : Int32, y = v2 + 1 := ⟨_, rfl⟩
          have hw := hw v2_6 ev2_6
          refine lv_iinc (v := v2_6) (lv' := [(2, .int v2_6), (1, .int v2), (0, .ref (g.2.1 5))]) hx hb dX6_best_48 hl (k := 2) rfl (by rw [ev2_6]; rfl) (by decide) rfl (fun ls hl => ?_)
          refine lv_goto (tgt := 5) hx hb dX6_best_51 (by decide) ?_
          exact ih hw U (lv_sub hl [2, 1, 0] rfl) h54
        · have hw := hw.2 c_5
          refine lv_aload_n hx hb dX6_best_27 rfl (lv_at hl 0 rfl) ?_
          refine u_get (C := RX6) (T := TX6) (N := 31) (v := .ref (g.2.1 36)) hx hb hts hX6_best_X6 hown K U 5 5 (by decide) rfl rfl 9 (by decide) (hts (.fieldLink RX6 41 "TrialSearchModel" "score" "[I") (by decide +kernel)) rfl rfl dX6_best_28 ?_
          refine lv_iload_n hx hb dX6_best_31 rfl (lv_at hl 2 rfl) ?_
          obtain ⟨hi_7, hw⟩ := hw
          refine u_iald (k := 36) (v := (A 36 v2.toNatClampNeg)) hx hb K U rfl (by decide) rfl hi_7 rfl dX6_best_32 ?_
          refine lv_aload_n hx hb dX6_best_33 rfl (lv_at hl 0 rfl) ?_
          refine u_get (C := RX6) (T := TX6) (N := 31) (v := .ref (g.2.1 36)) hx hb hts hX6_best_X6 hown K U 5 5 (by decide) rfl rfl 9 (by decide) (hts (.fieldLink RX6 41 "TrialSearchModel" "score" "[I") (by decide +kernel)) rfl rfl dX6_best_34 ?_
          refine lv_iload_n hx hb dX6_best_37 rfl (lv_at hl 1 rfl) ?_
          obtain ⟨hi_8, hw⟩ := hw
          refine u_iald (k := 36) (v := (A 36 v1.toNatClampNeg)) hx hb K U rfl (by decide) rfl hi_8 rfl dX6_best_38 ?_
          refine lv_icmp_le (tgt := 46) hx hb dX6_best_39 (by decide) (fun c_9 => ?_) (fun c_9 => ?_)
          · have hw := hw.1 c_9
            refine lv_iload_n hx hb dX6_best_46 rfl (lv_at hl 1 rfl) ?_
            refine lv_istore_n (lv' := [(1, .int v1), (0, .ref (g.2.1 5)), (2, .int v2)]) hx hb dX6_best_47 rfl hl (by decide) rfl (fun ls hl => ?_)
            obtain ⟨v2_10, ev2_10⟩ : ∃ y : Int32, y = v2 + 1 := ⟨_, rfl⟩
            have hw := hw v2_10 ev2_10
            refine lv_iinc (v := v2_10) (lv' := [(2, .int v2_10), (1, .int v1), (0, .ref (g.2.1 5))]) hx hb dX6_best_48 hl (k := 2) rfl (by rw [ev2_10]; rfl) (by decide) rfl (fun ls hl => ?_)
            refine lv_goto (tgt := 5) hx hb dX6_best_51 (by decide) ?_
            exact ih hw U (lv_sub hl [2, 1, 0] rfl) h54
          · have hw := hw.2 c_9
            refine lv_iload_n hx hb dX6_best_42 rfl (lv_at hl 2 rfl) ?_
            refine lv_goto (tgt := 47) hx hb dX6_best_43 (by decide) ?_
            refine lv_istore_n (lv' := [(1, .int v2), (0, .ref (g.2.1 5)), (2, .int v2)]) hx hb dX6_best_47 rfl hl (by decide) rfl (fun ls hl => ?_)
            obtain ⟨v2_11, ev2_11⟩ : ∃ y : Int32, y = v2 + 1 := ⟨_, rfl⟩
            have hw := hw v2_11 ev2_11
            refine lv_iinc (v := v2_11) (lv' := [(2, .int v2_11), (1, .int v2), (0, .ref (g.2.1 5))]) hx hb dX6_best_48 hl (k := 2) rfl (by rw [ev2_11]; rfl) (by decide) rfl (fun ls hl => ?_)
            refine lv_goto (tgt := 5) hx hb dX6_best_51 (by decide) ?_
            exact ih hw U (lv_sub hl [2, 1, 0] rfl) h54
set_option maxHeartbeats 4000000 in
set_option maxRecDepth 100000 in
theorem c_X6_best {l : Launch} {g : uG}  {A : SA} {B : SB} {Q : Int32 → Prop} (hw : wp_X6_best  A B Q) : MI l yX6_best wsX6_best rmX6_best g A B [.ref (g.2.1 5)] (fun r A1 B1 => A1 = A ∧ B1 = B ∧ Q r ) := by
  refine u_of (cc := cX6_best) (maxL := 3) (ret := (some .int)) (by decide) rfl (Nat.le_of_ble_eq_true rfl) ?_
  intro p e s m below meth c ls C K U hl
  obtain ⟨hx, hb, hml, hown, hts, hr, hlocks⟩ := id C
  have S : CallFix p m c cX6_best 3 s ([.ref (g.2.1 5)] : List Value).toArray wsX6_best RX6 := ⟨hx, hb, hml, hown, hts⟩
  have hl : lv_has ls 3 [(0, .ref (g.2.1 5))] := hl
  refine lv_bipush (v := -2) hx hb dX6_best_0 (by decide) ?_
  refine lv_istore_n (lv' := [(1, .int (-2 : Int32)), (0, .ref (g.2.1 5))]) hx hb dX6_best_2 rfl hl (by decide) rfl (fun ls hl => ?_)
  refine lv_iconst (v := 0) hx hb dX6_best_3 (by decide) ?_
  refine lv_istore_n (lv' := [(2, .int (0 : Int32)), (1, .int (-2 : Int32)), (0, .ref (g.2.1 5))]) hx hb dX6_best_4 rfl hl (by decide) rfl (fun ls hl => ?_)
  obtain ⟨n_12, hw⟩ := hw
  refine t_X6_best_5 C K hw U (lv_sub hl [2, 1, 0] rfl) (fun v1_13 H locs ls U hl hw => ?_)
  refine lv_iload_n hx hb dX6_best_54 rfl (lv_at hl 0 rfl) ?_
  exact u_iret hx hb hr hlocks U ⟨rfl, rfl, hw⟩ dX6_best_55
