set_option maxHeartbeats 4000000 in
set_option maxRecDepth 100000 in
theorem t_X0_sortIn_9 {p : Program} {l : Launch} {e : Env} {s : State} {m : MethodId} {args : Array Value} {below : List Frame} {meth : Method} {c : Code} {g : uG} {E63 : Int32 → Prop} {Q : SB → Prop} {v1 : Int64} {v3 : Int32} {A : SA} {B : SB} (C : uC p s m args meth c cX0_sortIn 8 RX0 wsX0_sortIn none) (K : UK g s) :
    ∀ {n : Nat} {v4 : Int32} {v5 : Int32} {v6 : Int32} {H : Heap} {locs : List Loc} {ls : Array Slot}, wp_X0_sortIn_9 E63 Q v1 v3 A B n v4 v5 v6 → UU g A B s.heap H locs → lv_has ls 8 [(0, .ref (g.2.1 4)), (1, .long v1), (3, .int v3), (4, .int v4), (5, .int v5), (6, .int v6)] → (∀ (v4 : Int32) (H : Heap) (locs : List Loc) (ls : Array Slot), UU g A B s.heap H locs → lv_has ls 8 [(0, .ref (g.2.1 4)), (1, .long v1), (3, .int v3), (4, .int v4)] → E63 v4 → W p l e rmX0_sortIn s m args below meth c H locs 0 0 (MQ below (uQv g (fun A1 B1 => A1 = A ∧ Q B1)) args s 0 0 (FA g)) (F0 m 63 ls [])) → W p l e rmX0_sortIn s m args below meth c H locs 0 0 (MQ below (uQv g (fun A1 B1 => A1 = A ∧ Q B1)) args s 0 0 (FA g)) (F0 m 9 ls []) := by
  obtain ⟨hx, hb, hml, hown, hts, hr, hlocks⟩ := id C
  have S : CallFix p m c cX0_sortIn 8 s args wsX0_sortIn RX0 := ⟨hx, hb, hml, hown, hts⟩
  intro n
  induction n with
  | zero => intro _ _ _ _ _ _ hw; exact False.elim hw
  | succ n ih =>
    intro v4 v5 v6 H locs ls hw U hl h63
    refine lv_iload hx hb dX0_sortIn_9 (lv_at hl 5 rfl) ?_
    refine lv_bipush (v := 8) hx hb dX0_sortIn_11 (by decide) ?_
    refine lv_icmp_ge (tgt := 63) hx hb dX0_sortIn_13 (by decide) (fun c_1 => ?_) (fun c_1 => ?_)
    · have hw := hw.1 c_1
      exact h63 _ _ _ _ U (lv_sub hl [0, 1, 2, 3] rfl) hw
    · have hw := hw.2 c_1
      refine lv_iload hx hb dX0_sortIn_16 (lv_at hl 3 rfl) ?_
      refine lv_iload hx hb dX0_sortIn_18 (lv_at hl 4 rfl) ?_
      refine lv_icmp_ge (tgt := 63) hx hb dX0_sortIn_20 (by decide) (fun c_2 => ?_) (fun c_2 => ?_)
      · have hw := hw.1 c_2
        exact h63 _ _ _ _ U (lv_sub hl [0, 1, 2, 3] rfl) hw
      · have hw := hw.2 c_2
        refine lv_iload hx hb dX0_sortIn_23 (lv_at hl 3 rfl) ?_
        refine lv_iload hx hb dX0_sortIn_25 (lv_at hl 4 rfl) ?_
        refine lv_iadd hx hb dX0_sortIn_27 ?_
        refine lv_iconst (v := 2) hx hb dX0_sortIn_28 (by decide) ?_
        refine lv_idiv hx hb dX0_sortIn_29 (by decide) ?_
        refine lv_topi (fun x_3 ex_3 => ?_)
        have hw := hw x_3 ex_3
        refine lv_istore (lv' := [(7, .int x_3), (0, .ref (g.2.1 4)), (1, .long v1), (3, .int v3), (4, .int v4), (5, .int v5), (6, .int v6)]) hx hb dX0_sortIn_30 hl (by decide) rfl (fun ls hl => ?_)
        refine lv_aload_n hx hb dX0_sortIn_32 rfl (lv_at hl 1 rfl) ?_
        refine u_get (C := RX0) (T := TX0) (N := 8) (v := .ref (g.2.1 28)) hx hb hts hX0_sortIn_X0 hown K U 4 0 (by decide) rfl rfl 7 (by decide) (hts (.fieldLink RX0 36 "TrialSearch$Folds" "order" "[J") (by decide +kernel)) rfl rfl dX0_sortIn_33 ?_
        refine lv_iload hx hb dX0_sortIn_36 (lv_at hl 0 rfl) ?_
        obtain ⟨hi_4, hw⟩ := hw
        refine u_lald (k := 28) (v := (B 28 x_3.toNatClampNeg)) hx hb K U rfl (by decide) rfl hi_4 rfl dX0_sortIn_38 ?_
        refine lv_lload_n hx hb dX0_sortIn_39 rfl (lv_at hl 2 rfl) ?_
        refine u_lc_ge (tgt := 53) hx hb dX0_sortIn_40 dX0_sortIn_41 (by decide) (fun c_5 => ?_) (fun c_5 => ?_)
        · have hw := hw.1 c_5
          refine lv_iload hx hb dX0_sortIn_53 (lv_at hl 0 rfl) ?_
          refine lv_istore (lv' := [(5, .int x_3), (7, .int x_3), (0, .ref (g.2.1 4)), (1, .long v1), (3, .int v3), (4, .int v4), (6, .int v6)]) hx hb dX0_sortIn_55 hl (by decide) rfl (fun ls hl => ?_)
          obtain ⟨v6_6, ev6_6⟩ : ∃ y : Int32, y = v6 + 1 := ⟨_, rfl⟩
          have hw := hw v6_6 ev6_6
          refine lv_iinc (v := v6_6) (lv' := [(6, .int v6_6), (5, .int x_3), (7, .int x_3), (0, .ref (g.2.1 4)), (1, .long v1), (3, .int v3), (4, .int v4)]) hx hb dX0_sortIn_57 hl (k := 6) rfl (by rw [ev6_6]; rfl) (by decide) rfl (fun ls hl => ?_)
          refine lv_goto (tgt := 9) hx hb dX0_sortIn_60 (by decide) ?_
          exact ih hw U (lv_sub hl [3, 4, 5, 6, 1, 0] rfl) h63
        · have hw := hw.2 c_5
          refine lv_iload hx hb dX0_sortIn_44 (lv_at hl 0 rfl) ?_
          refine lv_iconst (v := 1) hx hb dX0_sortIn_46 (by decide) ?_
          refine lv_iadd hx hb dX0_sortIn_47 ?_
          refine lv_topi (fun x_7 ex_7 => ?_)
          have hw := hw x_7 ex_7
          refine lv_istore (lv' := [(4, .int x_7), (7, .int x_3), (0, .ref (g.2.1 4)), (1, .long v1), (3, .int v3), (5, .int v5), (6, .int v6)]) hx hb dX0_sortIn_48 hl (by decide) rfl (fun ls hl => ?_)
          refine lv_goto (tgt := 57) hx hb dX0_sortIn_50 (by decide) ?_
          obtain ⟨v6_8, ev6_8⟩ : ∃ y : Int32, y = v6 + 1 := ⟨_, rfl⟩
          have hw := hw v6_8 ev6_8
          refine lv_iinc (v := v6_8) (lv' := [(6, .int v6_8), (4, .int x_7), (7, .int x_3), (0, .ref (g.2.1 4)), (1, .long v1), (3, .int v3), (5, .int v5)]) hx hb dX0_sortIn_57 hl (k := 6) rfl (by rw [ev6_8]; rfl) (by decide) rfl (fun ls hl => ?_)
          refine lv_goto (tgt := 9) hx hb dX0_sortIn_60 (by decide) ?_
          exact ih hw U (lv_sub hl [3, 4, 5, 1, 6, 0] rfl) h63
set_option maxHeartbeats 4000000 in
set_option maxRecDepth 100000 in
theorem c_X0_sortIn {l : Launch} {g : uG} {a0 : Int64} {a1 : Int32} {A : SA} {B : SB} {Q : SB → Prop} (hw : wp_X0_sortIn a0 a1 A B Q) : MV l yX0_sortIn wsX0_sortIn rmX0_sortIn g A B [.ref (g.2.1 4), .long a0, .int a1] (fun A1 B1 => A1 = A ∧ Q B1) := by
  refine u_of (cc := cX0_sortIn) (maxL := 8) (ret := none) (by decide) rfl (Nat.le_of_ble_eq_true rfl) ?_
  intro p e s m below meth c ls C K U hl
  obtain ⟨hx, hb, hml, hown, hts, hr, hlocks⟩ := id C
  have S : CallFix p m c cX0_sortIn 8 s ([.ref (g.2.1 4), .long a0, .int a1] : List Value).toArray wsX0_sortIn RX0 := ⟨hx, hb, hml, hown, hts⟩
  have hl : lv_has ls 8 [(0, .ref (g.2.1 4)), (1, .long a0), (3, .int a1)] := hl
  refine lv_iconst (v := 0) hx hb dX0_sortIn_0 (by decide) ?_
  refine lv_istore (lv' := [(4, .int (0 : Int32)), (0, .ref (g.2.1 4)), (1, .long a0), (3, .int a1)]) hx hb dX0_sortIn_1 hl (by decide) rfl (fun ls hl => ?_)
  refine lv_iload_n hx hb dX0_sortIn_3 rfl (lv_at hl 3 rfl) ?_
  refine lv_istore (lv' := [(5, .int a1), (4, .int (0 : Int32)), (0, .ref (g.2.1 4)), (1, .long a0), (3, .int a1)]) hx hb dX0_sortIn_4 hl (by decide) rfl (fun ls hl => ?_)
  refine lv_iconst (v := 0) hx hb dX0_sortIn_6 (by decide) ?_
  refine lv_istore (lv' := [(6, .int (0 : Int32)), (5, .int a1), (4, .int (0 : Int32)), (0, .ref (g.2.1 4)), (1, .long a0), (3, .int a1)]) hx hb dX0_sortIn_7 hl (by decide) rfl (fun ls hl => ?_)
  obtain ⟨n_9, hw⟩ := hw
  refine t_X0_sortIn_9 C K hw U (lv_sub hl [3, 4, 5, 2, 1, 0] rfl) (fun v4_10 H locs ls U hl hw => ?_)
  refine lv_aload_n hx hb dX0_sortIn_63 rfl (lv_at hl 0 rfl) ?_
  refine u_get (C := RX0) (T := TX0) (N := 8) (v := .ref (g.2.1 28)) hx hb hts hX0_sortIn_X0 hown K U 4 0 (by decide) rfl rfl 7 (by decide) (hts (.fieldLink RX0 36 "TrialSearch$Folds" "order" "[J") (by decide +kernel)) rfl rfl dX0_sortIn_64 ?_
  refine lv_iload hx hb dX0_sortIn_67 (lv_at hl 3 rfl) ?_
  refine lv_aload_n hx hb dX0_sortIn_69 rfl (lv_at hl 0 rfl) ?_
  refine u_get (C := RX0) (T := TX0) (N := 8) (v := .ref (g.2.1 28)) hx hb hts hX0_sortIn_X0 hown K U 4 0 (by decide) rfl rfl 7 (by decide) (hts (.fieldLink RX0 36 "TrialSearch$Folds" "order" "[J") (by decide +kernel)) rfl rfl dX0_sortIn_70 ?_
  refine lv_iload hx hb dX0_sortIn_73 (lv_at hl 3 rfl) ?_
  refine lv_iconst (v := 1) hx hb dX0_sortIn_75 (by decide) ?_
  refine lv_iadd hx hb dX0_sortIn_76 ?_
  refine lv_iload_n hx hb dX0_sortIn_77 rfl (lv_at hl 2 rfl) ?_
  refine lv_iload hx hb dX0_sortIn_78 (lv_at hl 3 rfl) ?_
  refine lv_isub hx hb dX0_sortIn_80 ?_
  obtain ⟨hc_11, hw⟩ := hw
  refine u_copyl (k := 28) (rest := []) hx hb (hml.trans hl.1.symm) hown (hts (.methodLink RX0 63 arraycopyName) (by decide +kernel)) (hts (.native arraycopyName) (by decide +kernel)) (hts (.static arraycopyName) (by decide +kernel)) (hts (.initialized "java/lang/System") (by decide +kernel)) K U rfl (by decide) rfl hc_11.1 hc_11.2.1 hc_11.2.2.1 hc_11.2.2.2.1 hc_11.2.2.2.2 (by decide) (by decide +kernel) dX0_sortIn_81 (fun H locs U => ?_)
  refine lv_aload_n hx hb dX0_sortIn_84 rfl (lv_at hl 0 rfl) ?_
  refine u_get (C := RX0) (T := TX0) (N := 8) (v := .ref (g.2.1 28)) hx hb hts hX0_sortIn_X0 hown K U 4 0 (by decide) rfl rfl 7 (by decide) (hts (.fieldLink RX0 36 "TrialSearch$Folds" "order" "[J") (by decide +kernel)) rfl rfl dX0_sortIn_85 ?_
  refine lv_iload hx hb dX0_sortIn_88 (lv_at hl 3 rfl) ?_
  refine lv_lload_n hx hb dX0_sortIn_90 rfl (lv_at hl 1 rfl) ?_
  obtain ⟨hi_12, hw⟩ := hw
  refine u_last (k := 28) hx hb K U rfl (by decide) rfl hi_12 dX0_sortIn_91 (fun H locs U => ?_)
  exact u_vret hx hb hr hlocks U ⟨rfl, hw⟩ dX0_sortIn_92
set_option maxHeartbeats 4000000 in
set_option maxRecDepth 100000 in
theorem t_X0_make_26 {p : Program} {l : Launch} {e : Env} {s : State} {m : MethodId} {args : Array Value} {below : List Frame} {meth : Method} {c : Code} {g : uG} {E50 : SA → Prop} {Q : SA → SB → Prop} {v4 : Int32} {B : SB} (C : uC p s m args meth c cX0_make 7 RX0 wsX0_make none) (K : UK g s) :
    ∀ {n : Nat} {v5 : Int32} {A : SA} {H : Heap} {locs : List Loc} {ls : Array Slot}, wp_X0_make_26 E50 Q v4 B n v5 A → UU g A B s.heap H locs → lv_has ls 7 [(0, .ref (g.2.1 4)), (4, .int v4), (5, .int v5)] → (∀ (A : SA) (H : Heap) (locs : List Loc) (ls : Array Slot), UU g A B s.heap H locs → lv_has ls 7 [(0, .ref (g.2.1 4)), (4, .int v4)] → E50 A → W p l e rmX0_make s m args below meth c H locs 0 0 (MQ below (uQv g Q) args s 0 0 (FA g)) (F0 m 50 ls [])) → W p l e rmX0_make s m args below meth c H locs 0 0 (MQ below (uQv g Q) args s 0 0 (FA g)) (F0 m 26 ls []) := by
  obtain ⟨hx, hb, hml, hown, hts, hr, hlocks⟩ := id C
  have S : CallFix p m c cX0_make 7 s args wsX0_make RX0 := ⟨hx, hb, hml, hown, hts⟩
  intro n
  induction n with
  | zero => intro _ _ _ _ _ hw; exact False.elim hw
  | succ n ih =>
    intro v5 A H locs ls hw U hl h50
    refine lv_iload hx hb dX0_make_26 (lv_at hl 2 rfl) ?_
    refine lv_bipush (v := 10) hx hb dX0_make_28 (by decide) ?_
    refine lv_icmp_ge (tgt := 50) hx hb dX0_make_30 (by decide) (fun c_4 => ?_) (fun c_4 => ?_)
    · have hw := hw.1 c_4
      exact h50 _ _ _ _ U (lv_sub hl [0, 1] rfl) hw
    · have hw := hw.2 c_4
      refine lv_aload_n hx hb dX0_make_33 rfl (lv_at hl 0 rfl) ?_
      refine u_get (C := RX0) (T := TX0) (N := 8) (v := .ref (g.2.1 27)) hx hb hts hX0_make_X0 hown K U 4 0 (by decide) rfl rfl 6 (by decide) (hts (.fieldLink RX0 33 "TrialSearch$Folds" "chosen" "[[I") (by decide +kernel)) rfl rfl dX0_make_34 ?_
      refine lv_iload hx hb dX0_make_37 (lv_at hl 2 rfl) ?_
      obtain ⟨hi_5, hw⟩ := hw
      refine u_aald (b := 176) hx hb K U (k := 27) (by decide) (by decide) rfl rfl hi_5 dX0_make_39 ?_
      refine lv_iconst (v := 0) hx hb dX0_make_40 (by decide) ?_
      refine u_cv (u_rS (As := [.ref (g.2.1 (176 + v5.toNatClampNeg)), .int (0 : Int32)]) (rest := []) S K U (c_J7_fill_53178 hw) (va_cwS 2 hts gX0_make_J7_fill_53178 rfl rfl rfl (by decide +kernel) ⟨Nat.le_of_ble_eq_true rfl, Nat.le_of_ble_eq_true rfl⟩) rfl hl.1 rfl (Nat.le_of_ble_eq_true rfl) dX0_make_41 ⟨Nat.zero_le _, Nat.zero_le _⟩) U (fun A_7 B_8 H locs U9 hw => ?_)
      obtain ⟨eB, hw⟩ := hw
      rw [eB] at U9
      have U := U9
      obtain ⟨v5_9, ev5_9⟩ : ∃ y : Int32, y = v5 + 1 := ⟨_, rfl⟩
      have hw := hw v5_9 ev5_9
      refine lv_iinc (v := v5_9) (lv' := [(5, .int v5_9), (0, .ref (g.2.1 4)), (4, .int v4)]) hx hb dX0_make_44 hl (k := 2) rfl (by rw [ev5_9]; rfl) (by decide) rfl (fun ls hl => ?_)
      refine lv_goto (tgt := 26) hx hb dX0_make_47 (by decide) ?_
      exact ih hw U (lv_sub hl [1, 2, 0] rfl) h50
set_option maxHeartbeats 4000000 in
set_option maxRecDepth 100000 in
theorem t_X0_make_53 {p : Program} {l : Launch} {e : Env} {s : State} {m : MethodId} {args : Array Value} {below : List Frame} {meth : Method} {c : Code} {g : uG} {E89 : SB → Prop} {Q : SA → SB → Prop} {v4 : Int32} {A : SA} (C : uC p s m args meth c cX0_make 7 RX0 wsX0_make none) (K : UK g s) :
    ∀ {n : Nat} {v5 : Int32} {B : SB} {H : Heap} {locs : List Loc} {ls : Array Slot}, wp_X0_make_53 E89 Q v4 A n v5 B → UU g A B s.heap H locs → lv_has ls 7 [(0, .ref (g.2.1 4)), (4, .int v4), (5, .int v5)] → (∀ (B : SB) (H : Heap) (locs : List Loc) (ls : Array Slot), UU g A B s.heap H locs → lv_has ls 7 [(0, .ref (g.2.1 4))] → E89 B → W p l e rmX0_make s m args below meth c H locs 0 0 (MQ below (uQv g Q) args s 0 0 (FA g)) (F0 m 89 ls [])) → W p l e rmX0_make s m args below meth c H locs 0 0 (MQ below (uQv g Q) args s 0 0 (FA g)) (F0 m 53 ls []) := by
  obtain ⟨hx, hb, hml, hown, hts, hr, hlocks⟩ := id C
  have S : CallFix p m c cX0_make 7 s args wsX0_make RX0 := ⟨hx, hb, hml, hown, hts⟩
  intro n
  induction n with
  | zero => intro _ _ _ _ _ hw; exact False.elim hw
  | succ n ih =>
    intro v5 B H locs ls hw U hl h89
    refine lv_iload hx hb dX0_make_53 (lv_at hl 2 rfl) ?_
    refine lv_aload_n hx hb dX0_make_55 rfl (lv_at hl 0 rfl) ?_
    refine u_get (C := RX0) (T := TX0) (N := 8) (v := .int (A 4 0)) hx hb hts hX0_make_X0 hown K U 4 0 (by decide) rfl rfl 0 (by decide) (hts (.fieldLink RX0 9 "TrialSearch$Folds" "rows" "I") (by decide +kernel)) rfl rfl dX0_make_56 ?_
    refine lv_icmp_ge (tgt := 89) hx hb dX0_make_59 (by decide) (fun c_12 => ?_) (fun c_12 => ?_)
    · have hw := hw.1 c_12
      exact h89 _ _ _ _ U (lv_sub hl [0] rfl) hw
    · have hw := hw.2 c_12
      refine lv_aload_n hx hb dX0_make_62 rfl (lv_at hl 0 rfl) ?_
      refine lv_iload hx hb dX0_make_63 (lv_at hl 1 rfl) ?_
      refine lv_iload hx hb dX0_make_65 (lv_at hl 2 rfl) ?_
      refine u_ci (u_rS (As := [.int v4, .int v5]) (rest := [.ref (g.2.1 4)]) S K U (c_X2_hash hw) (va_cwS 2 hts gX0_make_X2_hash rfl rfl rfl (by decide +kernel) ⟨Nat.le_of_ble_eq_true rfl, Nat.le_of_ble_eq_true rfl⟩) rfl hl.1 rfl (Nat.le_of_ble_eq_true rfl) dX0_make_67 ⟨Nat.zero_le _, Nat.zero_le _⟩) U (fun r_13 A_14 B_15 H locs U9 hw => ?_)
      obtain ⟨eA, eB, hw⟩ := hw
      rw [eA, eB] at U9
      have U := U9
      refine lv_i2l hx hb dX0_make_70 rfl ?_
      refine lv_bipush (v := 8) hx hb dX0_make_71 (by decide) ?_
      refine lv_lshl hx hb dX0_make_73 rfl ?_
      refine lv_iload hx hb dX0_make_74 (lv_at hl 2 rfl) ?_
      refine lv_i2l hx hb dX0_make_76 rfl ?_
      refine lv_lor hx hb dX0_make_77 ?_
      refine lv_iload hx hb dX0_make_78 (lv_at hl 2 rfl) ?_
      refine u_cv (u_rV (As := [.long ((r_13.toInt64 <<< ((8 : Int32).toInt64 &&& 63)) ||| v5.toInt64), .int v5]) (rest := []) (C := RX0) S K U 4 0 (by decide) rfl rfl (c_X0_sortIn hw) (cwV 2 hts gX0_make_X0_sortIn rfl rfl rfl (by decide +kernel) ⟨Nat.le_of_ble_eq_true rfl, Nat.le_of_ble_eq_true rfl⟩) rfl hl.1 rfl (Nat.le_of_ble_eq_true rfl) dX0_make_80 ⟨Nat.zero_le _, Nat.zero_le _⟩) U (fun A_17 B_18 H locs U9 hw => ?_)
      obtain ⟨eA, hw⟩ := hw
      rw [eA] at U9
      have U := U9
      obtain ⟨v5_19, ev5_19⟩ : ∃ y : Int32, y = v5 + 1 := ⟨_, rfl⟩
      have hw := hw v5_19 ev5_19
      refine lv_iinc (v := v5_19) (lv' := [(5, .int v5_19), (0, .ref (g.2.1 4)), (4, .int v4)]) hx hb dX0_make_83 hl (k := 2) rfl (by rw [ev5_19]; rfl) (by decide) rfl (fun ls hl => ?_)
      refine lv_goto (tgt := 53) hx hb dX0_make_86 (by decide) ?_
      exact ih hw U (lv_sub hl [1, 2, 0] rfl) h89
set_option maxHeartbeats 4000000 in
set_option maxRecDepth 100000 in
theorem t_X0_make_92 {p : Program} {l : Launch} {e : Env} {s : State} {m : MethodId} {args : Array Value} {below : List Frame} {meth : Method} {c : Code} {g : uG} {E167 : SA → Prop} {Q : SA → SB → Prop} {B : SB} (C : uC p s m args meth c cX0_make 7 RX0 wsX0_make none) (K : UK g s) :
    ∀ {n : Nat} {v5 : Int32} {A : SA} {H : Heap} {locs : List Loc} {ls : Array Slot}, wp_X0_make_92 E167 Q B n v5 A → UU g A B s.heap H locs → lv_has ls 7 [(0, .ref (g.2.1 4)), (5, .int v5)] → (∀ (A : SA) (H : Heap) (locs : List Loc) (ls : Array Slot), UU g A B s.heap H locs → lv_has ls 7 [] → E167 A → W p l e rmX0_make s m args below meth c H locs 0 0 (MQ below (uQv g Q) args s 0 0 (FA g)) (F0 m 167 ls [])) → W p l e rmX0_make s m args below meth c H locs 0 0 (MQ below (uQv g Q) args s 0 0 (FA g)) (F0 m 92 ls []) := by
  obtain ⟨hx, hb, hml, hown, hts, hr, hlocks⟩ := id C
  have S : CallFix p m c cX0_make 7 s args wsX0_make RX0 := ⟨hx, hb, hml, hown, hts⟩
  intro n
  induction n with
  | zero => intro _ _ _ _ _ hw; exact False.elim hw
  | succ n ih =>
    intro v5 A H locs ls hw U hl h167
    refine lv_iload hx hb dX0_make_92 (lv_at hl 1 rfl) ?_
    refine lv_aload_n hx hb dX0_make_94 rfl (lv_at hl 0 rfl) ?_
    refine u_get (C := RX0) (T := TX0) (N := 8) (v := .int (A 4 0)) hx hb hts hX0_make_X0 hown K U 4 0 (by decide) rfl rfl 0 (by decide) (hts (.fieldLink RX0 9 "TrialSearch$Folds" "rows" "I") (by decide +kernel)) rfl rfl dX0_make_95 ?_
    refine lv_icmp_ge (tgt := 167) hx hb dX0_make_98 (by decide) (fun c_22 => ?_) (fun c_22 => ?_)
    · have hw := hw.1 c_22
      exact h167 _ _ _ _ U (lv_sub hl [] rfl) hw
    · have hw := hw.2 c_22
      refine lv_aload_n hx hb dX0_make_101 rfl (lv_at hl 0 rfl) ?_
      refine u_get (C := RX0) (T := TX0) (N := 8) (v := .ref (g.2.1 28)) hx hb hts hX0_make_X0 hown K U 4 0 (by decide) rfl rfl 7 (by decide) (hts (.fieldLink RX0 36 "TrialSearch$Folds" "order" "[J") (by decide +kernel)) rfl rfl dX0_make_102 ?_
      refine lv_iload hx hb dX0_make_105 (lv_at hl 1 rfl) ?_
      obtain ⟨hi_23, hw⟩ := hw
      refine u_lald (k := 28) (v := (B 28 v5.toNatClampNeg)) hx hb K U rfl (by decide) rfl hi_23 rfl dX0_make_107 ?_
      refine lv_l2i hx hb dX0_make_108 rfl ?_
      refine lv_sipush (v := 255) hx hb dX0_make_109 (by decide) ?_
      refine lv_iand hx hb dX0_make_112 ?_
      refine lv_topi (fun x_24 ex_24 => ?_)
      have hw := hw x_24 ex_24
      refine lv_istore (lv' := [(6, .int x_24), (0, .ref (g.2.1 4)), (5, .int v5)]) hx hb dX0_make_113 hl (by decide) rfl (fun ls hl => ?_)
      refine lv_aload_n hx hb dX0_make_115 rfl (lv_at hl 1 rfl) ?_
      refine u_get (C := RX0) (T := TX0) (N := 8) (v := .ref (g.2.1 24)) hx hb hts hX0_make_X0 hown K U 4 0 (by decide) rfl rfl 3 (by decide) (hts (.fieldLink RX0 21 "TrialSearch$Folds" "outerOf" "[I") (by decide +kernel)) rfl rfl dX0_make_116 ?_
      refine lv_iload hx hb dX0_make_119 (lv_at hl 0 rfl) ?_
      refine lv_iload hx hb dX0_make_121 (lv_at hl 2 rfl) ?_
      refine lv_i2l hx hb dX0_make_123 rfl ?_
      refine lv_aload_n hx hb dX0_make_124 rfl (lv_at hl 1 rfl) ?_
      refine u_get (C := RX0) (T := TX0) (N := 8) (v := .int (A 4 1)) hx hb hts hX0_make_X0 hown K U 4 0 (by decide) rfl rfl 1 (by decide) (hts (.fieldLink RX0 15 "TrialSearch$Folds" "outer" "I") (by decide +kernel)) rfl rfl dX0_make_125 ?_
      refine lv_i2l hx hb dX0_make_128 rfl ?_
      refine u_cl (u_rSN (As := [.long v5.toInt64, .long (A 4 1).toInt64]) (rest := [.int x_24, .ref (g.2.1 24)]) S K U (c_X5_rest hw) ⟨va_cnB (host := "TrialSearch") 2 hts gX0_make_X5_rest_n56 rfl rfl rfl (K.2.2 _ (by decide +kernel)) (hts (.initialized RX5) (by decide +kernel)) (by decide +kernel) ⟨Nat.le_of_ble_eq_true rfl, Nat.le_of_ble_eq_true rfl⟩, hts (.static yX5_rest) (by decide +kernel), trivial⟩ rfl hl.1 rfl (Nat.le_of_ble_eq_true rfl) dX0_make_129 ⟨Nat.zero_le _, Nat.zero_le _⟩) U (fun r_25 A_26 B_27 H locs U9 hw => ?_)
      obtain ⟨eA, eB, hw⟩ := hw
      rw [eA, eB] at U9
      have U := U9
      refine lv_l2i hx hb dX0_make_132 rfl ?_
      refine lv_topi (fun x_28 ex_28 => ?_)
      have hw := hw x_28 ex_28
      obtain ⟨hi_29, hw⟩ := hw
      refine u_iast (k := 24) hx hb K U rfl (by decide) rfl hi_29 dX0_make_133 (fun H locs U => ?_)
      refine lv_aload_n hx hb dX0_make_134 rfl (lv_at hl 1 rfl) ?_
      refine u_get (C := RX0) (T := TX0) (N := 8) (v := .ref (g.2.1 25)) hx hb hts hX0_make_X0 hown K U 4 0 (by decide) rfl rfl 4 (by decide) (hts (.fieldLink RX0 25 "TrialSearch$Folds" "innerOf" "[I") (by decide +kernel)) rfl rfl dX0_make_135 ?_
      refine lv_iload hx hb dX0_make_138 (lv_at hl 0 rfl) ?_
      refine lv_iload hx hb dX0_make_140 (lv_at hl 2 rfl) ?_
      refine lv_i2l hx hb dX0_make_142 rfl ?_
      refine lv_aload_n hx hb dX0_make_143 rfl (lv_at hl 1 rfl) ?_
      refine u_get (C := RX0) (T := TX0) (N := 8) (v := .int (A 4 1)) hx hb hts hX0_make_X0 hown K U 4 0 (by decide) rfl rfl 1 (by decide) (hts (.fieldLink RX0 15 "TrialSearch$Folds" "outer" "I") (by decide +kernel)) rfl rfl dX0_make_144 ?_
      refine lv_i2l hx hb dX0_make_147 rfl ?_
      refine u_cl (u_rSN (As := [.long v5.toInt64, .long (A 4 1).toInt64]) (rest := [.int x_24, .ref (g.2.1 25)]) S K U (c_X5_cut hw) ⟨va_cnB (host := "TrialSearch") 2 hts gX0_make_X5_cut_n60 rfl rfl rfl (K.2.2 _ (by decide +kernel)) (hts (.initialized RX5) (by decide +kernel)) (by decide +kernel) ⟨Nat.le_of_ble_eq_true rfl, Nat.le_of_ble_eq_true rfl⟩, hts (.static yX5_cut) (by decide +kernel), trivial⟩ rfl hl.1 rfl (Nat.le_of_ble_eq_true rfl) dX0_make_148 ⟨Nat.zero_le _, Nat.zero_le _⟩) U (fun r_30 A_31 B_32 H locs U9 hw => ?_)
      obtain ⟨eA, eB, hw⟩ := hw
      rw [eA, eB] at U9
      have U := U9
      refine lv_aload_n hx hb dX0_make_151 rfl (lv_at hl 1 rfl) ?_
      refine u_get (C := RX0) (T := TX0) (N := 8) (v := .int (A 4 2)) hx hb hts hX0_make_X0 hown K U 4 0 (by decide) rfl rfl 2 (by decide) (hts (.fieldLink RX0 18 "TrialSearch$Folds" "inner" "I") (by decide +kernel)) rfl rfl dX0_make_152 ?_
      refine lv_i2l hx hb dX0_make_155 rfl ?_
      refine u_cl (u_rSN (As := [.long r_30, .long (A 4 2).toInt64]) (rest := [.int x_24, .ref (g.2.1 25)]) S K U (c_X5_rest hw) ⟨va_cnB (host := "TrialSearch") 2 hts gX0_make_X5_rest_n56 rfl rfl rfl (K.2.2 _ (by decide +kernel)) (hts (.initialized RX5) (by decide +kernel)) (by decide +kernel) ⟨Nat.le_of_ble_eq_true rfl, Nat.le_of_ble_eq_true rfl⟩, hts (.static yX5_rest) (by decide +kernel), trivial⟩ rfl hl.1 rfl (Nat.le_of_ble_eq_true rfl) dX0_make_156 ⟨Nat.zero_le _, Nat.zero_le _⟩) U (fun r_33 A_34 B_35 H locs U9 hw => ?_)
      obtain ⟨eA, eB, hw⟩ := hw
      rw [eA, eB] at U9
      have U := U9
      refine lv_l2i hx hb dX0_make_159 rfl ?_
      refine lv_topi (fun x_36 ex_36 => ?_)
      have hw := hw x_36 ex_36
      obtain ⟨hi_37, hw⟩ := hw
      refine u_iast (k := 25) hx hb K U rfl (by decide) rfl hi_37 dX0_make_160 (fun H locs U => ?_)
      obtain ⟨v5_38, ev5_38⟩ : ∃ y : Int32, y = v5 + 1 := ⟨_, rfl⟩
      have hw := hw v5_38 ev5_38
      refine lv_iinc (v := v5_38) (lv' := [(5, .int v5_38), (6, .int x_24), (0, .ref (g.2.1 4))]) hx hb dX0_make_161 hl (k := 2) rfl (by rw [ev5_38]; rfl) (by decide) rfl (fun ls hl => ?_)
      refine lv_goto (tgt := 92) hx hb dX0_make_164 (by decide) ?_
      exact ih hw U (lv_sub hl [2, 0] rfl) h167
set_option maxHeartbeats 4000000 in
set_option maxRecDepth 100000 in
theorem c_X0_make {l : Launch} {g : uG} {a0 : Int32} {a1 : Int32} {a2 : Int32} {a3 : Int32} {A : SA} {B : SB} {Q : SA → SB → Prop} (hw : wp_X0_make a0 a1 a2 a3 A B Q) : MV l yX0_make wsX0_make rmX0_make g A B [.ref (g.2.1 4), .int a0, .int a1, .int a2, .int a3] Q := by
  refine u_of (cc := cX0_make) (maxL := 7) (ret := none) (by decide) rfl (Nat.le_of_ble_eq_true rfl) ?_
  intro p e s m below meth c ls C K U hl
  obtain ⟨hx, hb, hml, hown, hts, hr, hlocks⟩ := id C
  have S : CallFix p m c cX0_make 7 s ([.ref (g.2.1 4), .int a0, .int a1, .int a2, .int a3] : List Value).toArray wsX0_make RX0 := ⟨hx, hb, hml, hown, hts⟩
  have hl : lv_has ls 7 [(0, .ref (g.2.1 4)), (1, .int a0), (2, .int a1), (3, .int a2), (4, .int a3)] := hl
  refine lv_aload_n hx hb dX0_make_0 rfl (lv_at hl 0 rfl) ?_
  refine lv_iload_n hx hb dX0_make_1 rfl (lv_at hl 1 rfl) ?_
  refine u_puti (ty := .int) (C := RX0) (T := TX0) (N := 8) hx hb hts hX0_make_X0 tyX0 tyX0_ok nmX0 hown K U 4 0 (by decide) rfl rfl 0 (by decide) (hts (.fieldLink RX0 9 "TrialSearch$Folds" "rows" "I") (by decide +kernel)) rfl rfl (by decide +kernel) rfl rfl (Nat.le_of_ble_eq_true rfl) rfl dX0_make_2 (fun H locs U => ?_)
  refine lv_aload_n hx hb dX0_make_5 rfl (lv_at hl 0 rfl) ?_
  refine lv_iload_n hx hb dX0_make_6 rfl (lv_at hl 2 rfl) ?_
  refine u_puti (ty := .int) (C := RX0) (T := TX0) (N := 8) hx hb hts hX0_make_X0 tyX0 tyX0_ok nmX0 hown K U 4 0 (by decide) rfl rfl 1 (by decide) (hts (.fieldLink RX0 15 "TrialSearch$Folds" "outer" "I") (by decide +kernel)) rfl rfl (by decide +kernel) rfl rfl (Nat.le_of_ble_eq_true rfl) rfl dX0_make_7 (fun H locs U => ?_)
  refine lv_aload_n hx hb dX0_make_10 rfl (lv_at hl 0 rfl) ?_
  refine lv_iload_n hx hb dX0_make_11 rfl (lv_at hl 3 rfl) ?_
  refine u_puti (ty := .int) (C := RX0) (T := TX0) (N := 8) hx hb hts hX0_make_X0 tyX0 tyX0_ok nmX0 hown K U 4 0 (by decide) rfl rfl 2 (by decide) (hts (.fieldLink RX0 18 "TrialSearch$Folds" "inner" "I") (by decide +kernel)) rfl rfl (by decide +kernel) rfl rfl (Nat.le_of_ble_eq_true rfl) rfl dX0_make_12 (fun H locs U => ?_)
  refine lv_aload_n hx hb dX0_make_15 rfl (lv_at hl 0 rfl) ?_
  refine u_get (C := RX0) (T := TX0) (N := 8) (v := .ref (g.2.1 26)) hx hb hts hX0_make_X0 hown K U 4 0 (by decide) rfl rfl 5 (by decide) (hts (.fieldLink RX0 28 "TrialSearch$Folds" "tested" "[I") (by decide +kernel)) rfl rfl dX0_make_16 ?_
  refine lv_iconst (v := 0) hx hb dX0_make_19 (by decide) ?_
  refine u_cv (u_rS (As := [.ref (g.2.1 26), .int (0 : Int32)]) (rest := []) S K U (c_J7_fill_53178 hw) (va_cwS 2 hts gX0_make_J7_fill_53178 rfl rfl rfl (by decide +kernel) ⟨Nat.le_of_ble_eq_true rfl, Nat.le_of_ble_eq_true rfl⟩) rfl hl.1 rfl (Nat.le_of_ble_eq_true rfl) dX0_make_20 ⟨Nat.zero_le _, Nat.zero_le _⟩) U (fun A_2 B_3 H locs U9 hw => ?_)
  obtain ⟨eB, hw⟩ := hw
  rw [eB] at U9
  have U := U9
  refine lv_iconst (v := 0) hx hb dX0_make_23 (by decide) ?_
  refine lv_istore (lv' := [(5, .int (0 : Int32)), (0, .ref (g.2.1 4)), (1, .int a0), (2, .int a1), (3, .int a2), (4, .int a3)]) hx hb dX0_make_24 hl (by decide) rfl (fun ls hl => ?_)
  obtain ⟨n_10, hw⟩ := hw
  refine t_X0_make_26 C K hw U (lv_sub hl [1, 5, 0] rfl) (fun A_11 H locs ls U hl hw => ?_)
  refine lv_iconst (v := 0) hx hb dX0_make_50 (by decide) ?_
  refine lv_istore (lv' := [(5, .int (0 : Int32)), (0, .ref (g.2.1 4)), (4, .int a3)]) hx hb dX0_make_51 hl (by decide) rfl (fun ls hl => ?_)
  obtain ⟨n_20, hw⟩ := hw
  refine t_X0_make_53 C K hw U (lv_sub hl [1, 2, 0] rfl) (fun B_21 H locs ls U hl hw => ?_)
  refine lv_iconst (v := 0) hx hb dX0_make_89 (by decide) ?_
  refine lv_istore (lv' := [(5, .int (0 : Int32)), (0, .ref (g.2.1 4))]) hx hb dX0_make_90 hl (by decide) rfl (fun ls hl => ?_)
  obtain ⟨n_39, hw⟩ := hw
  refine t_X0_make_92 C K hw U (lv_sub hl [1, 0] rfl) (fun A_40 H locs ls U hl hw => ?_)
  exact u_vret hx hb hr hlocks U hw dX0_make_167
set_option maxHeartbeats 4000000 in
set_option maxRecDepth 100000 in
theorem t_X0_test_14 {p : Program} {l : Launch} {e : Env} {s : State} {m : MethodId} {args : Array Value} {below : List Frame} {meth : Method} {c : Code} {g : uG} {E41 : Int32 → Prop} {Q : Int32 → SA → Prop} {v1 : Int32} {A : SA} {B : SB} (C : uC p s m args meth c cX0_test 4 RX0 wsX0_test (some .int)) (K : UK g s) :
    ∀ {n : Nat} {v2 : Int32} {v3 : Int32} {H : Heap} {locs : List Loc} {ls : Array Slot}, wp_X0_test_14 E41 Q v1 A B n v2 v3 → UU g A B s.heap H locs → lv_has ls 4 [(0, .ref (g.2.1 4)), (1, .int v1), (2, .int v2), (3, .int v3)] → (∀ (v2 : Int32) (H : Heap) (locs : List Loc) (ls : Array Slot), UU g A B s.heap H locs → lv_has ls 4 [(2, .int v2)] → E41 v2 → W p l e rmX0_test s m args below meth c H locs 0 0 (MQ below (uQi g (fun r A1 B1 => B1 = B ∧ Q r A1 )) args s 0 0 (FA g)) (F0 m 41 ls [])) → W p l e rmX0_test s m args below meth c H locs 0 0 (MQ below (uQi g (fun r A1 B1 => B1 = B ∧ Q r A1 )) args s 0 0 (FA g)) (F0 m 14 ls []) := by
  obtain ⟨hx, hb, hml, hown, hts, hr, hlocks⟩ := id C
  have S : CallFix p m c cX0_test 4 s args wsX0_test RX0 := ⟨hx, hb, hml, hown, hts⟩
  intro n
  induction n with
  | zero => intro _ _ _ _ _ hw; exact False.elim hw
  | succ n ih =>
    intro v2 v3 H locs ls hw U hl h41
    refine lv_iload_n hx hb dX0_test_14 rfl (lv_at hl 3 rfl) ?_
    refine lv_aload_n hx hb dX0_test_15 rfl (lv_at hl 0 rfl) ?_
    refine u_get (C := RX0) (T := TX0) (N := 8) (v := .int (A 4 0)) hx hb hts hX0_test_X0 hown K U 4 0 (by decide) rfl rfl 0 (by decide) (hts (.fieldLink RX0 9 "TrialSearch$Folds" "rows" "I") (by decide +kernel)) rfl rfl dX0_test_16 ?_
    refine lv_icmp_ge (tgt := 41) hx hb dX0_test_19 (by decide) (fun c_4 => ?_) (fun c_4 => ?_)
    · have hw := hw.1 c_4
      exact h41 _ _ _ _ U (lv_sub hl [2] rfl) hw
    · have hw := hw.2 c_4
      refine lv_aload_n hx hb dX0_test_22 rfl (lv_at hl 0 rfl) ?_
      refine u_get (C := RX0) (T := TX0) (N := 8) (v := .ref (g.2.1 24)) hx hb hts hX0_test_X0 hown K U 4 0 (by decide) rfl rfl 3 (by decide) (hts (.fieldLink RX0 21 "TrialSearch$Folds" "outerOf" "[I") (by decide +kernel)) rfl rfl dX0_test_23 ?_
      refine lv_iload_n hx hb dX0_test_26 rfl (lv_at hl 3 rfl) ?_
      obtain ⟨hi_5, hw⟩ := hw
      refine u_iald (k := 24) (v := (A 24 v3.toNatClampNeg)) hx hb K U rfl (by decide) rfl hi_5 rfl dX0_test_27 ?_
      refine lv_iload_n hx hb dX0_test_28 rfl (lv_at hl 1 rfl) ?_
      refine lv_icmp_ne (tgt := 35) hx hb dX0_test_29 (by decide) (fun c_6 => ?_) (fun c_6 => ?_)
      · have hw := hw.1 c_6
        obtain ⟨v3_7, ev3_7⟩ : ∃ y : Int32, y = v3 + 1 := ⟨_, rfl⟩
        have hw := hw v3_7 ev3_7
        refine lv_iinc (v := v3_7) (lv' := [(3, .int v3_7), (0, .ref (g.2.1 4)), (1, .int v1), (2, .int v2)]) hx hb dX0_test_35 hl (k := 3) rfl (by rw [ev3_7]; rfl) (by decide) rfl (fun ls hl => ?_)
        refine lv_goto (tgt := 14) hx hb dX0_test_38 (by decide) ?_
        exact ih hw U (lv_sub hl [1, 2, 3, 0] rfl) h41
      · have hw := hw.2 c_6
        obtain ⟨v2_8, ev2_8⟩ : ∃ y : Int32, y = v2 + 1 := ⟨_, rfl⟩
        have hw := hw v2_8 ev2_8
        refine lv_iinc (v := v2_8) (lv' := [(2, .int v2_8), (0, .ref (g.2.1 4)), (1, .int v1), (3, .int v3)]) hx hb dX0_test_32 hl (k := 2) rfl (by rw [ev2_8]; rfl) (by decide) rfl (fun ls hl => ?_)
        obtain ⟨v3_9, ev3_9⟩ : ∃ y : Int32, y = v3 + 1 := ⟨_, rfl⟩
        have hw := hw v3_9 ev3_9
        refine lv_iinc (v := v3_9) (lv' := [(3, .int v3_9), (2, .int v2_8), (0, .ref (g.2.1 4)), (1, .int v1)]) hx hb dX0_test_35 hl (k := 3) rfl (by rw [ev3_9]; rfl) (by decide) rfl (fun ls hl => ?_)
        refine lv_goto (tgt := 14) hx hb dX0_test_38 (by decide) ?_
        exact ih hw U (lv_sub hl [2, 3, 1, 0] rfl) h41
set_option maxHeartbeats 4000000 in
set_option maxRecDepth 100000 in
theorem c_X0_test {l : Launch} {g : uG} {a0 : Int32} {A : SA} {B : SB} {Q : Int32 → SA → Prop} (hw : wp_X0_test a0 A B Q) : MI l yX0_test wsX0_test rmX0_test g A B [.ref (g.2.1 4), .int a0] (fun r A1 B1 => B1 = B ∧ Q r A1 ) := by
  refine u_of (cc := cX0_test) (maxL := 4) (ret := (some .int)) (by decide) rfl (Nat.le_of_ble_eq_true rfl) ?_
  intro p e s m below meth c ls C K U hl
  obtain ⟨hx, hb, hml, hown, hts, hr, hlocks⟩ := id C
  have S : CallFix p m c cX0_test 4 s ([.ref (g.2.1 4), .int a0] : List Value).toArray wsX0_test RX0 := ⟨hx, hb, hml, hown, hts⟩
  have hl : lv_has ls 4 [(0, .ref (g.2.1 4)), (1, .int a0)] := hl
  refine lv_aload_n hx hb dX0_test_0 rfl (lv_at hl 0 rfl) ?_
  refine u_get (C := RX0) (T := TX0) (N := 8) (v := .ref (g.2.1 26)) hx hb hts hX0_test_X0 hown K U 4 0 (by decide) rfl rfl 5 (by decide) (hts (.fieldLink RX0 28 "TrialSearch$Folds" "tested" "[I") (by decide +kernel)) rfl rfl dX0_test_1 ?_
  refine lv_iload_n hx hb dX0_test_4 rfl (lv_at hl 1 rfl) ?_
  refine lv_dup2_11 hx hb dX0_test_5 rfl rfl ?_
  obtain ⟨hi_1, hw⟩ := hw
  refine u_iald (k := 26) (v := (A 26 a0.toNatClampNeg)) hx hb K U rfl (by decide) rfl hi_1 rfl dX0_test_6 ?_
  refine lv_iconst (v := 1) hx hb dX0_test_7 (by decide) ?_
  refine lv_iadd hx hb dX0_test_8 ?_
  refine lv_topi (fun x_2 ex_2 => ?_)
  have hw := hw x_2 ex_2
  obtain ⟨hi_3, hw⟩ := hw
  refine u_iast (k := 26) hx hb K U rfl (by decide) rfl hi_3 dX0_test_9 (fun H locs U => ?_)
  refine lv_iconst (v := 0) hx hb dX0_test_10 (by decide) ?_
  refine lv_istore_n (lv' := [(2, .int (0 : Int32)), (0, .ref (g.2.1 4)), (1, .int a0)]) hx hb dX0_test_11 rfl hl (by decide) rfl (fun ls hl => ?_)
  refine lv_iconst (v := 0) hx hb dX0_test_12 (by decide) ?_
  refine lv_istore_n (lv' := [(3, .int (0 : Int32)), (2, .int (0 : Int32)), (0, .ref (g.2.1 4)), (1, .int a0)]) hx hb dX0_test_13 rfl hl (by decide) rfl (fun ls hl => ?_)
  obtain ⟨n_10, hw⟩ := hw
  refine t_X0_test_14 C K hw U (lv_sub hl [2, 3, 1, 0] rfl) (fun v2_11 H locs ls U hl hw => ?_)
  refine lv_iload_n hx hb dX0_test_41 rfl (lv_at hl 0 rfl) ?_
  exact u_iret hx hb hr hlocks U ⟨rfl, hw⟩ dX0_test_42
set_option maxHeartbeats 4000000 in
set_option maxRecDepth 100000 in
theorem t_X0_choose_17 {p : Program} {l : Launch} {e : Env} {s : State} {m : MethodId} {args : Array Value} {below : List Frame} {meth : Method} {c : Code} {g : uG} {E57 : Int32 → Prop} {Q : Int32 → SA → Prop} {v1 : Int32} {v2 : Int32} {A : SA} {B : SB} (C : uC p s m args meth c cX0_choose 5 RX0 wsX0_choose (some .int)) (K : UK g s) :
    ∀ {n : Nat} {v3 : Int32} {v4 : Int32} {H : Heap} {locs : List Loc} {ls : Array Slot}, wp_X0_choose_17 E57 Q v1 v2 A B n v3 v4 → UU g A B s.heap H locs → lv_has ls 5 [(0, .ref (g.2.1 4)), (1, .int v1), (2, .int v2), (3, .int v3), (4, .int v4)] → (∀ (v3 : Int32) (H : Heap) (locs : List Loc) (ls : Array Slot), UU g A B s.heap H locs → lv_has ls 5 [(3, .int v3)] → E57 v3 → W p l e rmX0_choose s m args below meth c H locs 0 0 (MQ below (uQi g (fun r A1 B1 => B1 = B ∧ Q r A1 )) args s 0 0 (FA g)) (F0 m 57 ls [])) → W p l e rmX0_choose s m args below meth c H locs 0 0 (MQ below (uQi g (fun r A1 B1 => B1 = B ∧ Q r A1 )) args s 0 0 (FA g)) (F0 m 17 ls []) := by
  obtain ⟨hx, hb, hml, hown, hts, hr, hlocks⟩ := id C
  have S : CallFix p m c cX0_choose 5 s args wsX0_choose RX0 := ⟨hx, hb, hml, hown, hts⟩
  intro n
  induction n with
  | zero => intro _ _ _ _ _ hw; exact False.elim hw
  | succ n ih =>
    intro v3 v4 H locs ls hw U hl h57
    refine lv_iload hx hb dX0_choose_17 (lv_at hl 4 rfl) ?_
    refine lv_aload_n hx hb dX0_choose_19 rfl (lv_at hl 0 rfl) ?_
    refine u_get (C := RX0) (T := TX0) (N := 8) (v := .int (A 4 0)) hx hb hts hX0_choose_X0 hown K U 4 0 (by decide) rfl rfl 0 (by decide) (hts (.fieldLink RX0 9 "TrialSearch$Folds" "rows" "I") (by decide +kernel)) rfl rfl dX0_choose_20 ?_
    refine lv_icmp_ge (tgt := 57) hx hb dX0_choose_23 (by decide) (fun c_5 => ?_) (fun c_5 => ?_)
    · have hw := hw.1 c_5
      exact h57 _ _ _ _ U (lv_sub hl [3] rfl) hw
    · have hw := hw.2 c_5
      refine lv_aload_n hx hb dX0_choose_26 rfl (lv_at hl 0 rfl) ?_
      refine u_get (C := RX0) (T := TX0) (N := 8) (v := .ref (g.2.1 24)) hx hb hts hX0_choose_X0 hown K U 4 0 (by decide) rfl rfl 3 (by decide) (hts (.fieldLink RX0 21 "TrialSearch$Folds" "outerOf" "[I") (by decide +kernel)) rfl rfl dX0_choose_27 ?_
      refine lv_iload hx hb dX0_choose_30 (lv_at hl 4 rfl) ?_
      obtain ⟨hi_6, hw⟩ := hw
      refine u_iald (k := 24) (v := (A 24 v4.toNatClampNeg)) hx hb K U rfl (by decide) rfl hi_6 rfl dX0_choose_32 ?_
      refine lv_iload_n hx hb dX0_choose_33 rfl (lv_at hl 1 rfl) ?_
      refine lv_icmp_eq (tgt := 51) hx hb dX0_choose_34 (by decide) (fun c_7 => ?_) (fun c_7 => ?_)
      · have hw := hw.1 c_7
        obtain ⟨v4_8, ev4_8⟩ : ∃ y : Int32, y = v4 + 1 := ⟨_, rfl⟩
        have hw := hw v4_8 ev4_8
        refine lv_iinc (v := v4_8) (lv' := [(4, .int v4_8), (0, .ref (g.2.1 4)), (1, .int v1), (2, .int v2), (3, .int v3)]) hx hb dX0_choose_51 hl (k := 4) rfl (by rw [ev4_8]; rfl) (by decide) rfl (fun ls hl => ?_)
        refine lv_goto (tgt := 17) hx hb dX0_choose_54 (by decide) ?_
        exact ih hw U (lv_sub hl [1, 2, 3, 4, 0] rfl) h57
      · have hw := hw.2 c_7
        refine lv_aload_n hx hb dX0_choose_37 rfl (lv_at hl 0 rfl) ?_
        refine u_get (C := RX0) (T := TX0) (N := 8) (v := .ref (g.2.1 25)) hx hb hts hX0_choose_X0 hown K U 4 0 (by decide) rfl rfl 4 (by decide) (hts (.fieldLink RX0 25 "TrialSearch$Folds" "innerOf" "[I") (by decide +kernel)) rfl rfl dX0_choose_38 ?_
        refine lv_iload hx hb dX0_choose_41 (lv_at hl 4 rfl) ?_
        obtain ⟨hi_9, hw⟩ := hw
        refine u_iald (k := 25) (v := (A 25 v4.toNatClampNeg)) hx hb K U rfl (by decide) rfl hi_9 rfl dX0_choose_43 ?_
        refine lv_iload_n hx hb dX0_choose_44 rfl (lv_at hl 2 rfl) ?_
        refine lv_icmp_ne (tgt := 51) hx hb dX0_choose_45 (by decide) (fun c_10 => ?_) (fun c_10 => ?_)
        · have hw := hw.1 c_10
          obtain ⟨v4_11, ev4_11⟩ : ∃ y : Int32, y = v4 + 1 := ⟨_, rfl⟩
          have hw := hw v4_11 ev4_11
          refine lv_iinc (v := v4_11) (lv' := [(4, .int v4_11), (0, .ref (g.2.1 4)), (1, .int v1), (2, .int v2), (3, .int v3)]) hx hb dX0_choose_51 hl (k := 4) rfl (by rw [ev4_11]; rfl) (by decide) rfl (fun ls hl => ?_)
          refine lv_goto (tgt := 17) hx hb dX0_choose_54 (by decide) ?_
          exact ih hw U (lv_sub hl [1, 2, 3, 4, 0] rfl) h57
        · have hw := hw.2 c_10
          obtain ⟨v3_12, ev3_12⟩ : ∃ y : Int32, y = v3 + 1 := ⟨_, rfl⟩
          have hw := hw v3_12 ev3_12
          refine lv_iinc (v := v3_12) (lv' := [(3, .int v3_12), (0, .ref (g.2.1 4)), (1, .int v1), (2, .int v2), (4, .int v4)]) hx hb dX0_choose_48 hl (k := 3) rfl (by rw [ev3_12]; rfl) (by decide) rfl (fun ls hl => ?_)
          obtain ⟨v4_13, ev4_13⟩ : ∃ y : Int32, y = v4 + 1 := ⟨_, rfl⟩
          have hw := hw v4_13 ev4_13
          refine lv_iinc (v := v4_13) (lv' := [(4, .int v4_13), (3, .int v3_12), (0, .ref (g.2.1 4)), (1, .int v1), (2, .int v2)]) hx hb dX0_choose_51 hl (k := 4) rfl (by rw [ev4_13]; rfl) (by decide) rfl (fun ls hl => ?_)
          refine lv_goto (tgt := 17) hx hb dX0_choose_54 (by decide) ?_
          exact ih hw U (lv_sub hl [2, 3, 4, 1, 0] rfl) h57
set_option maxHeartbeats 4000000 in
set_option maxRecDepth 100000 in
theorem c_X0_choose {l : Launch} {g : uG} {a0 : Int32} {a1 : Int32} {A : SA} {B : SB} {Q : Int32 → SA → Prop} (hw : wp_X0_choose a0 a1 A B Q) : MI l yX0_choose wsX0_choose rmX0_choose g A B [.ref (g.2.1 4), .int a0, .int a1] (fun r A1 B1 => B1 = B ∧ Q r A1 ) := by
  refine u_of (cc := cX0_choose) (maxL := 5) (ret := (some .int)) (by decide) rfl (Nat.le_of_ble_eq_true rfl) ?_
  intro p e s m below meth c ls C K U hl
  obtain ⟨hx, hb, hml, hown, hts, hr, hlocks⟩ := id C
  have S : CallFix p m c cX0_choose 5 s ([.ref (g.2.1 4), .int a0, .int a1] : List Value).toArray wsX0_choose RX0 := ⟨hx, hb, hml, hown, hts⟩
  have hl : lv_has ls 5 [(0, .ref (g.2.1 4)), (1, .int a0), (2, .int a1)] := hl
  refine lv_aload_n hx hb dX0_choose_0 rfl (lv_at hl 0 rfl) ?_
  refine u_get (C := RX0) (T := TX0) (N := 8) (v := .ref (g.2.1 27)) hx hb hts hX0_choose_X0 hown K U 4 0 (by decide) rfl rfl 6 (by decide) (hts (.fieldLink RX0 33 "TrialSearch$Folds" "chosen" "[[I") (by decide +kernel)) rfl rfl dX0_choose_1 ?_
  refine lv_iload_n hx hb dX0_choose_4 rfl (lv_at hl 1 rfl) ?_
  obtain ⟨hi_1, hw⟩ := hw
  refine u_aald (b := 176) hx hb K U (k := 27) (by decide) (by decide) rfl rfl hi_1 dX0_choose_5 ?_
  refine lv_iload_n hx hb dX0_choose_6 rfl (lv_at hl 2 rfl) ?_
  refine lv_dup2_11 hx hb dX0_choose_7 rfl rfl ?_
  obtain ⟨hi_2, hw⟩ := hw
  refine u_iald (k := (176 + a0.toNatClampNeg)) (v := (A (176 + a0.toNatClampNeg) a1.toNatClampNeg)) hx hb K U (urow_176 hi_1).1 (urow_176 hi_1).2.1 (urow_176 hi_1).2.2 hi_2 rfl dX0_choose_8 ?_
  refine lv_iconst (v := 1) hx hb dX0_choose_9 (by decide) ?_
  refine lv_iadd hx hb dX0_choose_10 ?_
  refine lv_topi (fun x_3 ex_3 => ?_)
  have hw := hw x_3 ex_3
  obtain ⟨hi_4, hw⟩ := hw
  refine u_iast (k := (176 + a0.toNatClampNeg)) hx hb K U (urow_176 hi_1).1 (urow_176 hi_1).2.1 (urow_176 hi_1).2.2 hi_4 dX0_choose_11 (fun H locs U => ?_)
  refine lv_iconst (v := 0) hx hb dX0_choose_12 (by decide) ?_
  refine lv_istore_n (lv' := [(3, .int (0 : Int32)), (0, .ref (g.2.1 4)), (1, .int a0), (2, .int a1)]) hx hb dX0_choose_13 rfl hl (by decide) rfl (fun ls hl => ?_)
  refine lv_iconst (v := 0) hx hb dX0_choose_14 (by decide) ?_
  refine lv_istore (lv' := [(4, .int (0 : Int32)), (3, .int (0 : Int32)), (0, .ref (g.2.1 4)), (1, .int a0), (2, .int a1)]) hx hb dX0_choose_15 hl (by decide) rfl (fun ls hl => ?_)
  obtain ⟨n_14, hw⟩ := hw
  refine t_X0_choose_17 C K hw U (lv_sub hl [2, 3, 4, 1, 0] rfl) (fun v3_15 H locs ls U hl hw => ?_)
  refine lv_iload_n hx hb dX0_choose_57 rfl (lv_at hl 0 rfl) ?_
  exact u_iret hx hb hr hlocks U ⟨rfl, hw⟩ dX0_choose_58
set_option maxHeartbeats 4000000 in
set_option maxRecDepth 100000 in
theorem t_X0_trained_22 {p : Program} {l : Launch} {e : Env} {s : State} {m : MethodId} {args : Array Value} {below : List Frame} {meth : Method} {c : Code} {g : uG} {E60 : Int32 → Prop} {Q : Int32 → Prop} {v1 : Int32} {v2 : Int32} {A : SA} {B : SB} (C : uC p s m args meth c cX0_trained 5 RX0 wsX0_trained (some .int)) (K : UK g s) :
    ∀ {n : Nat} {v3 : Int32} {v4 : Int32} {H : Heap} {locs : List Loc} {ls : Array Slot}, wp_X0_trained_22 E60 Q v1 v2 A B n v3 v4 → UU g A B s.heap H locs → lv_has ls 5 [(0, .ref (g.2.1 4)), (1, .int v1), (2, .int v2), (3, .int v3), (4, .int v4)] → (∀ (v3 : Int32) (H : Heap) (locs : List Loc) (ls : Array Slot), UU g A B s.heap H locs → lv_has ls 5 [(3, .int v3)] → E60 v3 → W p l e rmX0_trained s m args below meth c H locs 0 0 (MQ below (uQi g (fun r A1 B1 => A1 = A ∧ B1 = B ∧ Q r )) args s 0 0 (FA g)) (F0 m 60 ls [])) → W p l e rmX0_trained s m args below meth c H locs 0 0 (MQ below (uQi g (fun r A1 B1 => A1 = A ∧ B1 = B ∧ Q r )) args s 0 0 (FA g)) (F0 m 22 ls []) := by
  obtain ⟨hx, hb, hml, hown, hts, hr, hlocks⟩ := id C
  have S : CallFix p m c cX0_trained 5 s args wsX0_trained RX0 := ⟨hx, hb, hml, hown, hts⟩
  intro n
  induction n with
  | zero => intro _ _ _ _ _ hw; exact False.elim hw
  | succ n ih =>
    intro v3 v4 H locs ls hw U hl h60
    refine lv_iload hx hb dX0_trained_22 (lv_at hl 4 rfl) ?_
    refine lv_aload_n hx hb dX0_trained_24 rfl (lv_at hl 0 rfl) ?_
    refine u_get (C := RX0) (T := TX0) (N := 8) (v := .int (A 4 2)) hx hb hts hX0_trained_X0 hown K U 4 0 (by decide) rfl rfl 2 (by decide) (hts (.fieldLink RX0 18 "TrialSearch$Folds" "inner" "I") (by decide +kernel)) rfl rfl dX0_trained_25 ?_
    refine lv_icmp_ge (tgt := 60) hx hb dX0_trained_28 (by decide) (fun c_5 => ?_) (fun c_5 => ?_)
    · have hw := hw.1 c_5
      exact h60 _ _ _ _ U (lv_sub hl [3] rfl) hw
    · have hw := hw.2 c_5
      refine lv_iload hx hb dX0_trained_31 (lv_at hl 4 rfl) ?_
      refine lv_aload_n hx hb dX0_trained_33 rfl (lv_at hl 0 rfl) ?_
      refine u_get (C := RX0) (T := TX0) (N := 8) (v := .ref (g.2.1 25)) hx hb hts hX0_trained_X0 hown K U 4 0 (by decide) rfl rfl 4 (by decide) (hts (.fieldLink RX0 25 "TrialSearch$Folds" "innerOf" "[I") (by decide +kernel)) rfl rfl dX0_trained_34 ?_
      refine lv_iload_n hx hb dX0_trained_37 rfl (lv_at hl 1 rfl) ?_
      obtain ⟨hi_6, hw⟩ := hw
      refine u_iald (k := 25) (v := (A 25 v1.toNatClampNeg)) hx hb K U rfl (by decide) rfl hi_6 rfl dX0_trained_38 ?_
      refine lv_icmp_eq (tgt := 54) hx hb dX0_trained_39 (by decide) (fun c_7 => ?_) (fun c_7 => ?_)
      · have hw := hw.1 c_7
        obtain ⟨v4_8, ev4_8⟩ : ∃ y : Int32, y = v4 + 1 := ⟨_, rfl⟩
        have hw := hw v4_8 ev4_8
        refine lv_iinc (v := v4_8) (lv' := [(4, .int v4_8), (0, .ref (g.2.1 4)), (1, .int v1), (2, .int v2), (3, .int v3)]) hx hb dX0_trained_54 hl (k := 4) rfl (by rw [ev4_8]; rfl) (by decide) rfl (fun ls hl => ?_)
        refine lv_goto (tgt := 22) hx hb dX0_trained_57 (by decide) ?_
        exact ih hw U (lv_sub hl [1, 2, 3, 4, 0] rfl) h60
      · have hw := hw.2 c_7
        refine lv_iload_n hx hb dX0_trained_42 rfl (lv_at hl 3 rfl) ?_
        refine lv_aload_n hx hb dX0_trained_43 rfl (lv_at hl 0 rfl) ?_
        refine u_get (C := RX0) (T := TX0) (N := 8) (v := .ref (g.2.1 27)) hx hb hts hX0_trained_X0 hown K U 4 0 (by decide) rfl rfl 6 (by decide) (hts (.fieldLink RX0 33 "TrialSearch$Folds" "chosen" "[[I") (by decide +kernel)) rfl rfl dX0_trained_44 ?_
        refine lv_iload_n hx hb dX0_trained_47 rfl (lv_at hl 2 rfl) ?_
        obtain ⟨hi_9, hw⟩ := hw
        refine u_aald (b := 176) hx hb K U (k := 27) (by decide) (by decide) rfl rfl hi_9 dX0_trained_48 ?_
        refine lv_iload hx hb dX0_trained_49 (lv_at hl 4 rfl) ?_
        obtain ⟨hi_10, hw⟩ := hw
        refine u_iald (k := (176 + v2.toNatClampNeg)) (v := (A (176 + v2.toNatClampNeg) v4.toNatClampNeg)) hx hb K U (urow_176 hi_9).1 (urow_176 hi_9).2.1 (urow_176 hi_9).2.2 hi_10 rfl dX0_trained_51 ?_
        refine lv_iadd hx hb dX0_trained_52 ?_
        refine lv_topi (fun x_11 ex_11 => ?_)
        have hw := hw x_11 ex_11
        refine lv_istore_n (lv' := [(3, .int x_11), (0, .ref (g.2.1 4)), (1, .int v1), (2, .int v2), (4, .int v4)]) hx hb dX0_trained_53 rfl hl (by decide) rfl (fun ls hl => ?_)
        obtain ⟨v4_12, ev4_12⟩ : ∃ y : Int32, y = v4 + 1 := ⟨_, rfl⟩
        have hw := hw v4_12 ev4_12
        refine lv_iinc (v := v4_12) (lv' := [(4, .int v4_12), (3, .int x_11), (0, .ref (g.2.1 4)), (1, .int v1), (2, .int v2)]) hx hb dX0_trained_54 hl (k := 4) rfl (by rw [ev4_12]; rfl) (by decide) rfl (fun ls hl => ?_)
        refine lv_goto (tgt := 22) hx hb dX0_trained_57 (by decide) ?_
        exact ih hw U (lv_sub hl [2, 3, 4, 1, 0] rfl) h60
set_option maxHeartbeats 4000000 in
set_option maxRecDepth 100000 in
theorem c_X0_trained {l : Launch} {g : uG} {a0 : Int32} {a1 : Int32} {A : SA} {B : SB} {Q : Int32 → Prop} (hw : wp_X0_trained a0 a1 A B Q) : MI l yX0_trained wsX0_trained rmX0_trained g A B [.ref (g.2.1 4), .int a0, .int a1] (fun r A1 B1 => A1 = A ∧ B1 = B ∧ Q r ) := by
  refine u_of (cc := cX0_trained) (maxL := 5) (ret := (some .int)) (by decide) rfl (Nat.le_of_ble_eq_true rfl) ?_
  intro p e s m below meth c ls C K U hl
  obtain ⟨hx, hb, hml, hown, hts, hr, hlocks⟩ := id C
  have S : CallFix p m c cX0_trained 5 s ([.ref (g.2.1 4), .int a0, .int a1] : List Value).toArray wsX0_trained RX0 := ⟨hx, hb, hml, hown, hts⟩
  have hl : lv_has ls 5 [(0, .ref (g.2.1 4)), (1, .int a0), (2, .int a1)] := hl
  refine lv_aload_n hx hb dX0_trained_0 rfl (lv_at hl 0 rfl) ?_
  refine u_get (C := RX0) (T := TX0) (N := 8) (v := .ref (g.2.1 24)) hx hb hts hX0_trained_X0 hown K U 4 0 (by decide) rfl rfl 3 (by decide) (hts (.fieldLink RX0 21 "TrialSearch$Folds" "outerOf" "[I") (by decide +kernel)) rfl rfl dX0_trained_1 ?_
  refine lv_iload_n hx hb dX0_trained_4 rfl (lv_at hl 1 rfl) ?_
  obtain ⟨hi_1, hw⟩ := hw
  refine u_iald (k := 24) (v := (A 24 a0.toNatClampNeg)) hx hb K U rfl (by decide) rfl hi_1 rfl dX0_trained_5 ?_
  refine lv_iload_n hx hb dX0_trained_6 rfl (lv_at hl 2 rfl) ?_
  refine lv_icmp_ne (tgt := 12) hx hb dX0_trained_7 (by decide) (fun c_2 => ?_) (fun c_2 => ?_)
  · have hw := hw.1 c_2
    refine lv_aload_n hx hb dX0_trained_12 rfl (lv_at hl 0 rfl) ?_
    refine u_get (C := RX0) (T := TX0) (N := 8) (v := .ref (g.2.1 26)) hx hb hts hX0_trained_X0 hown K U 4 0 (by decide) rfl rfl 5 (by decide) (hts (.fieldLink RX0 28 "TrialSearch$Folds" "tested" "[I") (by decide +kernel)) rfl rfl dX0_trained_13 ?_
    refine lv_iload_n hx hb dX0_trained_16 rfl (lv_at hl 2 rfl) ?_
    obtain ⟨hi_3, hw⟩ := hw
    refine u_iald (k := 26) (v := (A 26 a1.toNatClampNeg)) hx hb K U rfl (by decide) rfl hi_3 rfl dX0_trained_17 ?_
    refine lv_topi (fun x_4 ex_4 => ?_)
    have hw := hw x_4 ex_4
    refine lv_istore_n (lv' := [(3, .int x_4), (0, .ref (g.2.1 4)), (1, .int a0), (2, .int a1)]) hx hb dX0_trained_18 rfl hl (by decide) rfl (fun ls hl => ?_)
    refine lv_iconst (v := 0) hx hb dX0_trained_19 (by decide) ?_
    refine lv_istore (lv' := [(4, .int (0 : Int32)), (3, .int x_4), (0, .ref (g.2.1 4)), (1, .int a0), (2, .int a1)]) hx hb dX0_trained_20 hl (by decide) rfl (fun ls hl => ?_)
    obtain ⟨n_13, hw⟩ := hw
    refine t_X0_trained_22 C K hw U (lv_sub hl [2, 3, 4, 1, 0] rfl) (fun v3_14 H locs ls U hl hw => ?_)
    refine lv_iload_n hx hb dX0_trained_60 rfl (lv_at hl 0 rfl) ?_
    exact u_iret hx hb hr hlocks U ⟨rfl, rfl, hw⟩ dX0_trained_61
  · have hw := hw.2 c_2
    refine lv_iconst (v := 0) hx hb dX0_trained_10 (by decide) ?_
    exact u_iret hx hb hr hlocks U ⟨rfl, rfl, hw⟩ dX0_trained_11
set_option maxHeartbeats 4000000 in
set_option maxRecDepth 100000 in
theorem c_X0_validated {l : Launch} {g : uG} {a0 : Int32} {a1 : Int32} {A : SA} {B : SB} {Q : Int32 → Prop} (hw : wp_X0_validated a0 a1 A B Q) : MI l yX0_validated wsX0_validated rmX0_validated g A B [.ref (g.2.1 4), .int a0, .int a1] (fun r A1 B1 => A1 = A ∧ B1 = B ∧ Q r ) := by
  refine u_of (cc := cX0_validated) (maxL := 3) (ret := (some .int)) (by decide) rfl (Nat.le_of_ble_eq_true rfl) ?_
  intro p e s m below meth c ls C K U hl
  obtain ⟨hx, hb, hml, hown, hts, hr, hlocks⟩ := id C
  have S : CallFix p m c cX0_validated 3 s ([.ref (g.2.1 4), .int a0, .int a1] : List Value).toArray wsX0_validated RX0 := ⟨hx, hb, hml, hown, hts⟩
  have hl : lv_has ls 3 [(0, .ref (g.2.1 4)), (1, .int a0), (2, .int a1)] := hl
  refine lv_aload_n hx hb dX0_validated_0 rfl (lv_at hl 0 rfl) ?_
  refine u_get (C := RX0) (T := TX0) (N := 8) (v := .ref (g.2.1 24)) hx hb hts hX0_validated_X0 hown K U 4 0 (by decide) rfl rfl 3 (by decide) (hts (.fieldLink RX0 21 "TrialSearch$Folds" "outerOf" "[I") (by decide +kernel)) rfl rfl dX0_validated_1 ?_
  refine lv_iload_n hx hb dX0_validated_4 rfl (lv_at hl 1 rfl) ?_
  obtain ⟨hi_1, hw⟩ := hw
  refine u_iald (k := 24) (v := (A 24 a0.toNatClampNeg)) hx hb K U rfl (by decide) rfl hi_1 rfl dX0_validated_5 ?_
  refine lv_iload_n hx hb dX0_validated_6 rfl (lv_at hl 2 rfl) ?_
  refine lv_icmp_ne (tgt := 14) hx hb dX0_validated_7 (by decide) (fun c_2 => ?_) (fun c_2 => ?_)
  · have hw := hw.1 c_2
    refine lv_aload_n hx hb dX0_validated_14 rfl (lv_at hl 0 rfl) ?_
    refine u_get (C := RX0) (T := TX0) (N := 8) (v := .ref (g.2.1 27)) hx hb hts hX0_validated_X0 hown K U 4 0 (by decide) rfl rfl 6 (by decide) (hts (.fieldLink RX0 33 "TrialSearch$Folds" "chosen" "[[I") (by decide +kernel)) rfl rfl dX0_validated_15 ?_
    refine lv_iload_n hx hb dX0_validated_18 rfl (lv_at hl 2 rfl) ?_
    obtain ⟨hi_3, hw⟩ := hw
    refine u_aald (b := 176) hx hb K U (k := 27) (by decide) (by decide) rfl rfl hi_3 dX0_validated_19 ?_
    refine lv_aload_n hx hb dX0_validated_20 rfl (lv_at hl 0 rfl) ?_
    refine u_get (C := RX0) (T := TX0) (N := 8) (v := .ref (g.2.1 25)) hx hb hts hX0_validated_X0 hown K U 4 0 (by decide) rfl rfl 4 (by decide) (hts (.fieldLink RX0 25 "TrialSearch$Folds" "innerOf" "[I") (by decide +kernel)) rfl rfl dX0_validated_21 ?_
    refine lv_iload_n hx hb dX0_validated_24 rfl (lv_at hl 1 rfl) ?_
    obtain ⟨hi_4, hw⟩ := hw
    refine u_iald (k := 25) (v := (A 25 a0.toNatClampNeg)) hx hb K U rfl (by decide) rfl hi_4 rfl dX0_validated_25 ?_
    refine lv_topi (fun x_5 ex_5 => ?_)
    have hw := hw x_5 ex_5
    obtain ⟨hi_6, hw⟩ := hw
    refine u_iald (k := (176 + a1.toNatClampNeg)) (v := (A (176 + a1.toNatClampNeg) x_5.toNatClampNeg)) hx hb K U (urow_176 hi_3).1 (urow_176 hi_3).2.1 (urow_176 hi_3).2.2 hi_6 rfl dX0_validated_26 ?_
    exact u_iret hx hb hr hlocks U ⟨rfl, rfl, hw⟩ dX0_validated_27
  · have hw := hw.2 c_2
    refine lv_iconst (v := 0) hx hb dX0_validated_10 (by decide) ?_
    refine lv_goto (tgt := 27) hx hb dX0_validated_11 (by decide) ?_
    exact u_iret hx hb hr hlocks U ⟨rfl, rfl, hw⟩ dX0_validated_27
set_option maxHeartbeats 4000000 in
set_option maxRecDepth 100000 in
theorem c_X0_testing {l : Launch} {g : uG} {a0 : Int32} {a1 : Int32} {A : SA} {B : SB} {Q : Int32 → Prop} (hw : wp_X0_testing a0 a1 A B Q) : MI l yX0_testing wsX0_testing rmX0_testing g A B [.ref (g.2.1 4), .int a0, .int a1] (fun r A1 B1 => A1 = A ∧ B1 = B ∧ Q r ) := by
  refine u_of (cc := cX0_testing) (maxL := 3) (ret := (some .int)) (by decide) rfl (Nat.le_of_ble_eq_true rfl) ?_
  intro p e s m below meth c ls C K U hl
  obtain ⟨hx, hb, hml, hown, hts, hr, hlocks⟩ := id C
  have S : CallFix p m c cX0_testing 3 s ([.ref (g.2.1 4), .int a0, .int a1] : List Value).toArray wsX0_testing RX0 := ⟨hx, hb, hml, hown, hts⟩
  have hl : lv_has ls 3 [(0, .ref (g.2.1 4)), (1, .int a0), (2, .int a1)] := hl
  refine lv_aload_n hx hb dX0_testing_0 rfl (lv_at hl 0 rfl) ?_
  refine u_get (C := RX0) (T := TX0) (N := 8) (v := .ref (g.2.1 24)) hx hb hts hX0_testing_X0 hown K U 4 0 (by decide) rfl rfl 3 (by decide) (hts (.fieldLink RX0 21 "TrialSearch$Folds" "outerOf" "[I") (by decide +kernel)) rfl rfl dX0_testing_1 ?_
  refine lv_iload_n hx hb dX0_testing_4 rfl (lv_at hl 1 rfl) ?_
  obtain ⟨hi_1, hw⟩ := hw
  refine u_iald (k := 24) (v := (A 24 a0.toNatClampNeg)) hx hb K U rfl (by decide) rfl hi_1 rfl dX0_testing_5 ?_
  refine lv_iload_n hx hb dX0_testing_6 rfl (lv_at hl 2 rfl) ?_
  refine lv_icmp_ne (tgt := 19) hx hb dX0_testing_7 (by decide) (fun c_2 => ?_) (fun c_2 => ?_)
  · have hw := hw.1 c_2
    refine lv_iconst (v := 0) hx hb dX0_testing_19 (by decide) ?_
    exact u_iret hx hb hr hlocks U ⟨rfl, rfl, hw⟩ dX0_testing_20
  · have hw := hw.2 c_2
    refine lv_aload_n hx hb dX0_testing_10 rfl (lv_at hl 0 rfl) ?_
    refine u_get (C := RX0) (T := TX0) (N := 8) (v := .ref (g.2.1 26)) hx hb hts hX0_testing_X0 hown K U 4 0 (by decide) rfl rfl 5 (by decide) (hts (.fieldLink RX0 28 "TrialSearch$Folds" "tested" "[I") (by decide +kernel)) rfl rfl dX0_testing_11 ?_
    refine lv_iload_n hx hb dX0_testing_14 rfl (lv_at hl 2 rfl) ?_
    obtain ⟨hi_3, hw⟩ := hw
    refine u_iald (k := 26) (v := (A 26 a1.toNatClampNeg)) hx hb K U rfl (by decide) rfl hi_3 rfl dX0_testing_15 ?_
    refine lv_goto (tgt := 20) hx hb dX0_testing_16 (by decide) ?_
    exact u_iret hx hb hr hlocks U ⟨rfl, rfl, hw⟩ dX0_testing_20
set_option maxHeartbeats 4000000 in
set_option maxRecDepth 100000 in
theorem t_X1_start_34 {p : Program} {l : Launch} {e : Env} {s : State} {m : MethodId} {args : Array Value} {below : List Frame} {meth : Method} {c : Code} {g : uG} {E81 : SA → Prop} {Q : SA → SB → Prop} {v1 : Int32} {v2 : Int32} {B : SB} (C : uC p s m args meth c cX1_start 6 RX1 wsX1_start none) (K : UK g s) :
    ∀ {n : Nat} {v5 : Int32} {A : SA} {H : Heap} {locs : List Loc} {ls : Array Slot}, wp_X1_start_34 E81 Q v1 v2 B n v5 A → UU g A B s.heap H locs → lv_has ls 6 [(0, .ref (g.2.1 3)), (1, .int v1), (2, .int v2), (5, .int v5)] → (∀ (A : SA) (H : Heap) (locs : List Loc) (ls : Array Slot), UU g A B s.heap H locs → lv_has ls 6 [(0, .ref (g.2.1 3)), (2, .int v2)] → E81 A → W p l e rmX1_start s m args below meth c H locs 0 0 (MQ below (uQv g Q) args s 0 0 (FA g)) (F0 m 81 ls [])) → W p l e rmX1_start s m args below meth c H locs 0 0 (MQ below (uQv g Q) args s 0 0 (FA g)) (F0 m 34 ls []) := by
  obtain ⟨hx, hb, hml, hown, hts, hr, hlocks⟩ := id C
  have S : CallFix p m c cX1_start 6 s args wsX1_start RX1 := ⟨hx, hb, hml, hown, hts⟩
  intro n
  induction n with
  | zero => intro _ _ _ _ _ hw; exact False.elim hw
  | succ n ih =>
    intro v5 A H locs ls hw U hl h81
    refine lv_iload hx hb dX1_start_34 (lv_at hl 3 rfl) ?_
    refine lv_bipush (v := 60) hx hb dX1_start_36 (by decide) ?_
    refine lv_icmp_ge (tgt := 81) hx hb dX1_start_38 (by decide) (fun c_1 => ?_) (fun c_1 => ?_)
    · have hw := hw.1 c_1
      exact h81 _ _ _ _ U (lv_sub hl [0, 2] rfl) hw
    · have hw := hw.2 c_1
      refine lv_aload_n hx hb dX1_start_41 rfl (lv_at hl 0 rfl) ?_
      refine u_get (C := RX1) (T := TX1) (N := 10) (v := .ref (g.2.1 22)) hx hb hts hX1_start_X1 hown K U 3 1 (by decide) rfl rfl 2 (by decide) (hts (.fieldLink RX1 19 "TrialSearch$Rounds" "marks" "[I") (by decide +kernel)) rfl rfl dX1_start_42 ?_
      refine lv_iload hx hb dX1_start_45 (lv_at hl 3 rfl) ?_
      refine lv_iconst (v := 0) hx hb dX1_start_47 (by decide) ?_
      obtain ⟨hi_2, hw⟩ := hw
      refine u_iast (k := 22) hx hb K U rfl (by decide) rfl hi_2 dX1_start_48 (fun H locs U => ?_)
      refine lv_aload_n hx hb dX1_start_49 rfl (lv_at hl 0 rfl) ?_
      refine u_get (C := RX1) (T := TX1) (N := 10) (v := .ref (g.2.1 23)) hx hb hts hX1_start_X1 hown K U 3 1 (by decide) rfl rfl 3 (by decide) (hts (.fieldLink RX1 23 "TrialSearch$Rounds" "stands" "[I") (by decide +kernel)) rfl rfl dX1_start_50 ?_
      refine lv_iload hx hb dX1_start_53 (lv_at hl 3 rfl) ?_
      refine lv_iload_n hx hb dX1_start_55 rfl (lv_at hl 1 rfl) ?_
      refine lv_iload hx hb dX1_start_56 (lv_at hl 3 rfl) ?_
      refine lv_icmp_gt (tgt := 73) hx hb dX1_start_58 (by decide) (fun c_3 => ?_) (fun c_3 => ?_)
      · have hw := hw.1 c_3
        refine lv_iconst (v := 0) hx hb dX1_start_73 (by decide) ?_
        obtain ⟨hi_4, hw⟩ := hw
        refine u_iast (k := 23) hx hb K U rfl (by decide) rfl hi_4 dX1_start_74 (fun H locs U => ?_)
        obtain ⟨v5_5, ev5_5⟩ : ∃ y : Int32, y = v5 + 1 := ⟨_, rfl⟩
        have hw := hw v5_5 ev5_5
        refine lv_iinc (v := v5_5) (lv' := [(5, .int v5_5), (0, .ref (g.2.1 3)), (1, .int v1), (2, .int v2)]) hx hb dX1_start_75 hl (k := 3) rfl (by rw [ev5_5]; rfl) (by decide) rfl (fun ls hl => ?_)
        refine lv_goto (tgt := 34) hx hb dX1_start_78 (by decide) ?_
        exact ih hw U (lv_sub hl [1, 2, 3, 0] rfl) h81
      · have hw := hw.2 c_3
        refine lv_iload hx hb dX1_start_61 (lv_at hl 3 rfl) ?_
        refine lv_iload_n hx hb dX1_start_63 rfl (lv_at hl 1 rfl) ?_
        refine lv_isub hx hb dX1_start_64 ?_
        refine lv_iload_n hx hb dX1_start_65 rfl (lv_at hl 2 rfl) ?_
        refine lv_icmp_ge (tgt := 73) hx hb dX1_start_66 (by decide) (fun c_6 => ?_) (fun c_6 => ?_)
        · have hw := hw.1 c_6
          refine lv_iconst (v := 0) hx hb dX1_start_73 (by decide) ?_
          obtain ⟨hi_7, hw⟩ := hw
          refine u_iast (k := 23) hx hb K U rfl (by decide) rfl hi_7 dX1_start_74 (fun H locs U => ?_)
          obtain ⟨v5_8, ev5_8⟩ : ∃ y : Int32, y = v5 + 1 := ⟨_, rfl⟩
          have hw := hw v5_8 ev5_8
          refine lv_iinc (v := v5_8) (lv' := [(5, .int v5_8), (0, .ref (g.2.1 3)), (1, .int v1), (2, .int v2)]) hx hb dX1_start_75 hl (k := 3) rfl (by rw [ev5_8]; rfl) (by decide) rfl (fun ls hl => ?_)
          refine lv_goto (tgt := 34) hx hb dX1_start_78 (by decide) ?_
          exact ih hw U (lv_sub hl [1, 2, 3, 0] rfl) h81
        · have hw := hw.2 c_6
          refine lv_iconst (v := 1) hx hb dX1_start_69 (by decide) ?_
          refine lv_goto (tgt := 74) hx hb dX1_start_70 (by decide) ?_
          obtain ⟨hi_9, hw⟩ := hw
          refine u_iast (k := 23) hx hb K U rfl (by decide) rfl hi_9 dX1_start_74 (fun H locs U => ?_)
          obtain ⟨v5_10, ev5_10⟩ : ∃ y : Int32, y = v5 + 1 := ⟨_, rfl⟩
          have hw := hw v5_10 ev5_10
          refine lv_iinc (v := v5_10) (lv' := [(5, .int v5_10), (0, .ref (g.2.1 3)), (1, .int v1), (2, .int v2)]) hx hb dX1_start_75 hl (k := 3) rfl (by rw [ev5_10]; rfl) (by decide) rfl (fun ls hl => ?_)
          refine lv_goto (tgt := 34) hx hb dX1_start_78 (by decide) ?_
          exact ih hw U (lv_sub hl [1, 2, 3, 0] rfl) h81
set_option maxHeartbeats 4000000 in
set_option maxRecDepth 100000 in
theorem c_X1_start {l : Launch} {g : uG} {a0 : Int32} {a1 : Int32} {a2 : Int32} {a3 : Int32} {A : SA} {B : SB} {Q : SA → SB → Prop} (hw : wp_X1_start a0 a1 a2 a3 A B Q) : MV l yX1_start wsX1_start rmX1_start g A B [.ref (g.2.1 3), .int a0, .int a1, .int a2, .int a3] Q := by
  refine u_of (cc := cX1_start) (maxL := 6) (ret := none) (by decide) rfl (Nat.le_of_ble_eq_true rfl) ?_
  intro p e s m below meth c ls C K U hl
  obtain ⟨hx, hb, hml, hown, hts, hr, hlocks⟩ := id C
  have S : CallFix p m c cX1_start 6 s ([.ref (g.2.1 3), .int a0, .int a1, .int a2, .int a3] : List Value).toArray wsX1_start RX1 := ⟨hx, hb, hml, hown, hts⟩
  have hl : lv_has ls 6 [(0, .ref (g.2.1 3)), (1, .int a0), (2, .int a1), (3, .int a2), (4, .int a3)] := hl
  refine lv_aload_n hx hb dX1_start_0 rfl (lv_at hl 0 rfl) ?_
  refine lv_iconst (v := 1) hx hb dX1_start_1 (by decide) ?_
  refine u_puti (ty := .boolean) (C := RX1) (T := TX1) (N := 10) hx hb hts hX1_start_X1 tyX1 tyX1_ok nmX1 hown K U 3 1 (by decide) rfl rfl 0 (by decide) (hts (.fieldLink RX1 9 "TrialSearch$Rounds" "started" "Z") (by decide +kernel)) rfl rfl (by decide +kernel) (by decide +kernel) (by decide +kernel) (Nat.le_of_ble_eq_true rfl) rfl dX1_start_2 (fun H locs U => ?_)
  refine lv_aload_n hx hb dX1_start_5 rfl (lv_at hl 0 rfl) ?_
  refine lv_iconst (v := 0) hx hb dX1_start_6 (by decide) ?_
  refine u_puti (ty := .boolean) (C := RX1) (T := TX1) (N := 10) hx hb hts hX1_start_X1 tyX1 tyX1_ok nmX1 hown K U 3 1 (by decide) rfl rfl 4 (by decide) (hts (.fieldLink RX1 26 "TrialSearch$Rounds" "over" "Z") (by decide +kernel)) rfl rfl (by decide +kernel) (by decide +kernel) (by decide +kernel) (Nat.le_of_ble_eq_true rfl) rfl dX1_start_7 (fun H locs U => ?_)
  refine lv_aload_n hx hb dX1_start_10 rfl (lv_at hl 0 rfl) ?_
  refine lv_lconst (v := 0) hx hb dX1_start_11 (by decide) ?_
  refine u_putl (ty := .long) (C := RX1) (T := TX1) (N := 10) hx hb hts hX1_start_X1 tyX1 tyX1_ok nmX1 hown K U 3 1 (by decide) rfl rfl 1 (by decide) (hts (.fieldLink RX1 15 "TrialSearch$Rounds" "spent" "J") (by decide +kernel)) rfl rfl (by decide +kernel) rfl rfl (Nat.le_of_ble_eq_true rfl) rfl dX1_start_12 (fun H locs U => ?_)
  refine lv_aload_n hx hb dX1_start_15 rfl (lv_at hl 0 rfl) ?_
  refine lv_iconst (v := 0) hx hb dX1_start_16 (by decide) ?_
  refine u_puti (ty := .int) (C := RX1) (T := TX1) (N := 10) hx hb hts hX1_start_X1 tyX1 tyX1_ok nmX1 hown K U 3 1 (by decide) rfl rfl 7 (by decide) (hts (.fieldLink RX1 29 "TrialSearch$Rounds" "halved" "I") (by decide +kernel)) rfl rfl (by decide +kernel) rfl rfl (Nat.le_of_ble_eq_true rfl) rfl dX1_start_17 (fun H locs U => ?_)
  refine lv_aload_n hx hb dX1_start_20 rfl (lv_at hl 0 rfl) ?_
  refine lv_iload_n hx hb dX1_start_21 rfl (lv_at hl 3 rfl) ?_
  refine u_puti (ty := .int) (C := RX1) (T := TX1) (N := 10) hx hb hts hX1_start_X1 tyX1 tyX1_ok nmX1 hown K U 3 1 (by decide) rfl rfl 8 (by decide) (hts (.fieldLink RX1 33 "TrialSearch$Rounds" "budget" "I") (by decide +kernel)) rfl rfl (by decide +kernel) rfl rfl (Nat.le_of_ble_eq_true rfl) rfl dX1_start_22 (fun H locs U => ?_)
  refine lv_aload_n hx hb dX1_start_25 rfl (lv_at hl 0 rfl) ?_
  refine lv_iload hx hb dX1_start_26 (lv_at hl 4 rfl) ?_
  refine u_puti (ty := .int) (C := RX1) (T := TX1) (N := 10) hx hb hts hX1_start_X1 tyX1 tyX1_ok nmX1 hown K U 3 1 (by decide) rfl rfl 9 (by decide) (hts (.fieldLink RX1 36 "TrialSearch$Rounds" "factor" "I") (by decide +kernel)) rfl rfl (by decide +kernel) rfl rfl (Nat.le_of_ble_eq_true rfl) rfl dX1_start_28 (fun H locs U => ?_)
  refine lv_iconst (v := 0) hx hb dX1_start_31 (by decide) ?_
  refine lv_istore (lv' := [(5, .int (0 : Int32)), (0, .ref (g.2.1 3)), (1, .int a0), (2, .int a1), (3, .int a2), (4, .int a3)]) hx hb dX1_start_32 hl (by decide) rfl (fun ls hl => ?_)
  obtain ⟨n_11, hw⟩ := hw
  refine t_X1_start_34 C K hw U (lv_sub hl [1, 2, 3, 0] rfl) (fun A_12 H locs ls U hl hw => ?_)
  refine lv_aload_n hx hb dX1_start_81 rfl (lv_at hl 0 rfl) ?_
  refine lv_iload_n hx hb dX1_start_82 rfl (lv_at hl 1 rfl) ?_
  refine u_puti (ty := .int) (C := RX1) (T := TX1) (N := 10) hx hb hts hX1_start_X1 tyX1 tyX1_ok nmX1 hown K U 3 1 (by decide) rfl rfl 5 (by decide) (hts (.fieldLink RX1 39 "TrialSearch$Rounds" "in" "I") (by decide +kernel)) rfl rfl (by decide +kernel) rfl rfl (Nat.le_of_ble_eq_true rfl) rfl dX1_start_83 (fun H locs U => ?_)
  refine lv_aload_n hx hb dX1_start_86 rfl (lv_at hl 0 rfl) ?_
  refine lv_iload_n hx hb dX1_start_87 rfl (lv_at hl 1 rfl) ?_
  refine u_puti (ty := .int) (C := RX1) (T := TX1) (N := 10) hx hb hts hX1_start_X1 tyX1 tyX1_ok nmX1 hown K U 3 1 (by decide) rfl rfl 6 (by decide) (hts (.fieldLink RX1 42 "TrialSearch$Rounds" "waiting" "I") (by decide +kernel)) rfl rfl (by decide +kernel) rfl rfl (Nat.le_of_ble_eq_true rfl) rfl dX1_start_88 (fun H locs U => ?_)
  exact u_vret hx hb hr hlocks U hw dX1_start_91
set_option maxHeartbeats 4000000 in
set_option maxRecDepth 100000 in
theorem c_X1_isIn {l : Launch} {g : uG} {a0 : Int32} {A : SA} {B : SB} {Q : Int32 → Prop} (hw : wp_X1_isIn a0 A B Q) : MI l yX1_isIn wsX1_isIn rmX1_isIn g A B [.ref (g.2.1 3), .int a0] (fun r A1 B1 => A1 = A ∧ B1 = B ∧ Q r ) := by
  refine u_of (cc := cX1_isIn) (maxL := 2) (ret := (some .boolean)) (by decide) rfl (Nat.le_of_ble_eq_true rfl) ?_
  intro p e s m below meth c ls C K U hl
  obtain ⟨hx, hb, hml, hown, hts, hr, hlocks⟩ := id C
  have S : CallFix p m c cX1_isIn 2 s ([.ref (g.2.1 3), .int a0] : List Value).toArray wsX1_isIn RX1 := ⟨hx, hb, hml, hown, hts⟩
  have hl : lv_has ls 2 [(0, .ref (g.2.1 3)), (1, .int a0)] := hl
  refine lv_aload_n hx hb dX1_isIn_0 rfl (lv_at hl 0 rfl) ?_
  refine u_get (C := RX1) (T := TX1) (N := 10) (v := .ref (g.2.1 23)) hx hb hts hX1_isIn_X1 hown K U 3 1 (by decide) rfl rfl 3 (by decide) (hts (.fieldLink RX1 23 "TrialSearch$Rounds" "stands" "[I") (by decide +kernel)) rfl rfl dX1_isIn_1 ?_
  refine lv_iload_n hx hb dX1_isIn_4 rfl (lv_at hl 1 rfl) ?_
  obtain ⟨hi_1, hw⟩ := hw
  refine u_iald (k := 23) (v := (A 23 a0.toNatClampNeg)) hx hb K U rfl (by decide) rfl hi_1 rfl dX1_isIn_5 ?_
  refine lv_if_eq (tgt := 13) hx hb dX1_isIn_6 (by decide) (fun c_2 => ?_) (fun c_2 => ?_)
  · have hw := hw.1 c_2
    refine lv_iconst (v := 0) hx hb dX1_isIn_13 (by decide) ?_
    exact u_zret hx hb hr hlocks U (by decide +kernel) ⟨rfl, rfl, hw⟩ dX1_isIn_14
  · have hw := hw.2 c_2
    refine lv_iconst (v := 1) hx hb dX1_isIn_9 (by decide) ?_
    refine lv_goto (tgt := 14) hx hb dX1_isIn_10 (by decide) ?_
    exact u_zret hx hb hr hlocks U (by decide +kernel) ⟨rfl, rfl, hw⟩ dX1_isIn_14
set_option maxHeartbeats 4000000 in
set_option maxRecDepth 100000 in
theorem c_X1_isWaiting {l : Launch} {g : uG} {a0 : Int32} {A : SA} {B : SB} {Q : Int32 → Prop} (hw : wp_X1_isWaiting a0 A B Q) : MI l yX1_isWaiting wsX1_isWaiting rmX1_isWaiting g A B [.ref (g.2.1 3), .int a0] (fun r A1 B1 => A1 = A ∧ B1 = B ∧ Q r ) := by
  refine u_of (cc := cX1_isWaiting) (maxL := 2) (ret := (some .boolean)) (by decide) rfl (Nat.le_of_ble_eq_true rfl) ?_
  intro p e s m below meth c ls C K U hl
  obtain ⟨hx, hb, hml, hown, hts, hr, hlocks⟩ := id C
  have S : CallFix p m c cX1_isWaiting 2 s ([.ref (g.2.1 3), .int a0] : List Value).toArray wsX1_isWaiting RX1 := ⟨hx, hb, hml, hown, hts⟩
  have hl : lv_has ls 2 [(0, .ref (g.2.1 3)), (1, .int a0)] := hl
  refine lv_aload_n hx hb dX1_isWaiting_0 rfl (lv_at hl 0 rfl) ?_
  refine u_get (C := RX1) (T := TX1) (N := 10) (v := .ref (g.2.1 23)) hx hb hts hX1_isWaiting_X1 hown K U 3 1 (by decide) rfl rfl 3 (by decide) (hts (.fieldLink RX1 23 "TrialSearch$Rounds" "stands" "[I") (by decide +kernel)) rfl rfl dX1_isWaiting_1 ?_
  refine lv_iload_n hx hb dX1_isWaiting_4 rfl (lv_at hl 1 rfl) ?_
  obtain ⟨hi_1, hw⟩ := hw
  refine u_iald (k := 23) (v := (A 23 a0.toNatClampNeg)) hx hb K U rfl (by decide) rfl hi_1 rfl dX1_isWaiting_5 ?_
  refine lv_iconst (v := 1) hx hb dX1_isWaiting_6 (by decide) ?_
  refine lv_icmp_ne (tgt := 14) hx hb dX1_isWaiting_7 (by decide) (fun c_2 => ?_) (fun c_2 => ?_)
  · have hw := hw.1 c_2
    refine lv_iconst (v := 0) hx hb dX1_isWaiting_14 (by decide) ?_
    exact u_zret hx hb hr hlocks U (by decide +kernel) ⟨rfl, rfl, hw⟩ dX1_isWaiting_15
  · have hw := hw.2 c_2
    refine lv_iconst (v := 1) hx hb dX1_isWaiting_10 (by decide) ?_
    refine lv_goto (tgt := 15) hx hb dX1_isWaiting_11 (by decide) ?_
    exact u_zret hx hb hr hlocks U (by decide +kernel) ⟨rfl, rfl, hw⟩ dX1_isWaiting_15
set_option maxHeartbeats 4000000 in
set_option maxRecDepth 100000 in
theorem c_X1_mark {l : Launch} {g : uG} {a0 : Int32} {a1 : Int32} {a2 : Int32} {A : SA} {B : SB} {Q : Int32 → SA → SB → Prop} (hw : wp_X1_mark a0 a1 a2 A B Q) : MI l yX1_mark wsX1_mark rmX1_mark g A B [.ref (g.2.1 3), .int a0, .int a1, .int a2] Q := by
  refine u_of (cc := cX1_mark) (maxL := 4) (ret := (some .int)) (by decide) rfl (Nat.le_of_ble_eq_true rfl) ?_
  intro p e s m below meth c ls C K U hl
  obtain ⟨hx, hb, hml, hown, hts, hr, hlocks⟩ := id C
  have S : CallFix p m c cX1_mark 4 s ([.ref (g.2.1 3), .int a0, .int a1, .int a2] : List Value).toArray wsX1_mark RX1 := ⟨hx, hb, hml, hown, hts⟩
  have hl : lv_has ls 4 [(0, .ref (g.2.1 3)), (1, .int a0), (2, .int a1), (3, .int a2)] := hl
  refine lv_aload_n hx hb dX1_mark_0 rfl (lv_at hl 0 rfl) ?_
  refine u_get (C := RX1) (T := TX1) (N := 10) (v := .ref (g.2.1 23)) hx hb hts hX1_mark_X1 hown K U 3 1 (by decide) rfl rfl 3 (by decide) (hts (.fieldLink RX1 23 "TrialSearch$Rounds" "stands" "[I") (by decide +kernel)) rfl rfl dX1_mark_1 ?_
  refine lv_iload_n hx hb dX1_mark_4 rfl (lv_at hl 1 rfl) ?_
  refine lv_iload_n hx hb dX1_mark_5 rfl (lv_at hl 3 rfl) ?_
  refine lv_if_eq (tgt := 13) hx hb dX1_mark_6 (by decide) (fun c_1 => ?_) (fun c_1 => ?_)
  · have hw := hw.1 c_1
    refine lv_iconst (v := 3) hx hb dX1_mark_13 (by decide) ?_
    obtain ⟨hi_2, hw⟩ := hw
    refine u_iast (k := 23) hx hb K U rfl (by decide) rfl hi_2 dX1_mark_14 (fun H locs U => ?_)
    refine lv_aload_n hx hb dX1_mark_15 rfl (lv_at hl 0 rfl) ?_
    refine u_get (C := RX1) (T := TX1) (N := 10) (v := .ref (g.2.1 22)) hx hb hts hX1_mark_X1 hown K U 3 1 (by decide) rfl rfl 2 (by decide) (hts (.fieldLink RX1 19 "TrialSearch$Rounds" "marks" "[I") (by decide +kernel)) rfl rfl dX1_mark_16 ?_
    refine lv_iload_n hx hb dX1_mark_19 rfl (lv_at hl 1 rfl) ?_
    refine lv_iload_n hx hb dX1_mark_20 rfl (lv_at hl 3 rfl) ?_
    refine lv_if_eq (tgt := 28) hx hb dX1_mark_21 (by decide) (fun c_3 => ?_) (fun c_3 => ?_)
    · have hw := hw.1 c_3
      refine lv_iconst (v := 0) hx hb dX1_mark_28 (by decide) ?_
      obtain ⟨hi_4, hw⟩ := hw
      refine u_iast (k := 22) hx hb K U rfl (by decide) rfl hi_4 dX1_mark_29 (fun H locs U => ?_)
      refine lv_aload_n hx hb dX1_mark_30 rfl (lv_at hl 0 rfl) ?_
      refine lv_dup hx hb dX1_mark_31 rfl ?_
      refine u_get (C := RX1) (T := TX1) (N := 10) (v := .long (B 3 1)) hx hb hts hX1_mark_X1 hown K U 3 1 (by decide) rfl rfl 1 (by decide) (hts (.fieldLink RX1 15 "TrialSearch$Rounds" "spent" "J") (by decide +kernel)) rfl rfl dX1_mark_32 ?_
      refine lv_aload_n hx hb dX1_mark_35 rfl (lv_at hl 0 rfl) ?_
      refine u_get (C := RX1) (T := TX1) (N := 10) (v := .int (A 3 8)) hx hb hts hX1_mark_X1 hown K U 3 1 (by decide) rfl rfl 8 (by decide) (hts (.fieldLink RX1 33 "TrialSearch$Rounds" "budget" "I") (by decide +kernel)) rfl rfl dX1_mark_36 ?_
      refine lv_i2l hx hb dX1_mark_39 rfl ?_
      refine lv_ladd hx hb dX1_mark_40 ?_
      refine lv_topl (fun x_5 ex_5 => ?_)
      have hw := hw x_5 ex_5
      refine u_putl (ty := .long) (C := RX1) (T := TX1) (N := 10) hx hb hts hX1_mark_X1 tyX1 tyX1_ok nmX1 hown K U 3 1 (by decide) rfl rfl 1 (by decide) (hts (.fieldLink RX1 15 "TrialSearch$Rounds" "spent" "J") (by decide +kernel)) rfl rfl (by decide +kernel) rfl rfl (Nat.le_of_ble_eq_true rfl) rfl dX1_mark_41 (fun H locs U => ?_)
      refine lv_aload_n hx hb dX1_mark_44 rfl (lv_at hl 0 rfl) ?_
      refine lv_dup hx hb dX1_mark_45 rfl ?_
      refine u_get (C := RX1) (T := TX1) (N := 10) (v := .int (A 3 6)) hx hb hts hX1_mark_X1 hown K U 3 1 (by decide) rfl rfl 6 (by decide) (hts (.fieldLink RX1 42 "TrialSearch$Rounds" "waiting" "I") (by decide +kernel)) rfl rfl dX1_mark_46 ?_
      refine lv_iconst (v := 1) hx hb dX1_mark_49 (by decide) ?_
      refine lv_isub hx hb dX1_mark_50 ?_
      refine lv_topi (fun x_6 ex_6 => ?_)
      have hw := hw x_6 ex_6
      refine u_puti (ty := .int) (C := RX1) (T := TX1) (N := 10) hx hb hts hX1_mark_X1 tyX1 tyX1_ok nmX1 hown K U 3 1 (by decide) rfl rfl 6 (by decide) (hts (.fieldLink RX1 42 "TrialSearch$Rounds" "waiting" "I") (by decide +kernel)) rfl rfl (by decide +kernel) rfl rfl (Nat.le_of_ble_eq_true rfl) rfl dX1_mark_51 (fun H locs U => ?_)
      refine lv_aload_n hx hb dX1_mark_54 rfl (lv_at hl 0 rfl) ?_
      refine u_get (C := RX1) (T := TX1) (N := 10) (v := .int x_6) hx hb hts hX1_mark_X1 hown K U 3 1 (by decide) rfl rfl 6 (by decide) (hts (.fieldLink RX1 42 "TrialSearch$Rounds" "waiting" "I") (by decide +kernel)) rfl rfl dX1_mark_55 ?_
      exact u_iret hx hb hr hlocks U hw dX1_mark_58
    · have hw := hw.2 c_3
      refine lv_iload_n hx hb dX1_mark_24 rfl (lv_at hl 2 rfl) ?_
      refine lv_goto (tgt := 29) hx hb dX1_mark_25 (by decide) ?_
      obtain ⟨hi_7, hw⟩ := hw
      refine u_iast (k := 22) hx hb K U rfl (by decide) rfl hi_7 dX1_mark_29 (fun H locs U => ?_)
      refine lv_aload_n hx hb dX1_mark_30 rfl (lv_at hl 0 rfl) ?_
      refine lv_dup hx hb dX1_mark_31 rfl ?_
      refine u_get (C := RX1) (T := TX1) (N := 10) (v := .long (B 3 1)) hx hb hts hX1_mark_X1 hown K U 3 1 (by decide) rfl rfl 1 (by decide) (hts (.fieldLink RX1 15 "TrialSearch$Rounds" "spent" "J") (by decide +kernel)) rfl rfl dX1_mark_32 ?_
      refine lv_aload_n hx hb dX1_mark_35 rfl (lv_at hl 0 rfl) ?_
      refine u_get (C := RX1) (T := TX1) (N := 10) (v := .int (A 3 8)) hx hb hts hX1_mark_X1 hown K U 3 1 (by decide) rfl rfl 8 (by decide) (hts (.fieldLink RX1 33 "TrialSearch$Rounds" "budget" "I") (by decide +kernel)) rfl rfl dX1_mark_36 ?_
      refine lv_i2l hx hb dX1_mark_39 rfl ?_
      refine lv_ladd hx hb dX1_mark_40 ?_
      refine lv_topl (fun x_8 ex_8 => ?_)
      have hw := hw x_8 ex_8
      refine u_putl (ty := .long) (C := RX1) (T := TX1) (N := 10) hx hb hts hX1_mark_X1 tyX1 tyX1_ok nmX1 hown K U 3 1 (by decide) rfl rfl 1 (by decide) (hts (.fieldLink RX1 15 "TrialSearch$Rounds" "spent" "J") (by decide +kernel)) rfl rfl (by decide +kernel) rfl rfl (Nat.le_of_ble_eq_true rfl) rfl dX1_mark_41 (fun H locs U => ?_)
      refine lv_aload_n hx hb dX1_mark_44 rfl (lv_at hl 0 rfl) ?_
      refine lv_dup hx hb dX1_mark_45 rfl ?_
      refine u_get (C := RX1) (T := TX1) (N := 10) (v := .int (A 3 6)) hx hb hts hX1_mark_X1 hown K U 3 1 (by decide) rfl rfl 6 (by decide) (hts (.fieldLink RX1 42 "TrialSearch$Rounds" "waiting" "I") (by decide +kernel)) rfl rfl dX1_mark_46 ?_
      refine lv_iconst (v := 1) hx hb dX1_mark_49 (by decide) ?_
      refine lv_isub hx hb dX1_mark_50 ?_
      refine lv_topi (fun x_9 ex_9 => ?_)
      have hw := hw x_9 ex_9
      refine u_puti (ty := .int) (C := RX1) (T := TX1) (N := 10) hx hb hts hX1_mark_X1 tyX1 tyX1_ok nmX1 hown K U 3 1 (by decide) rfl rfl 6 (by decide) (hts (.fieldLink RX1 42 "TrialSearch$Rounds" "waiting" "I") (by decide +kernel)) rfl rfl (by decide +kernel) rfl rfl (Nat.le_of_ble_eq_true rfl) rfl dX1_mark_51 (fun H locs U => ?_)
      refine lv_aload_n hx hb dX1_mark_54 rfl (lv_at hl 0 rfl) ?_
      refine u_get (C := RX1) (T := TX1) (N := 10) (v := .int x_9) hx hb hts hX1_mark_X1 hown K U 3 1 (by decide) rfl rfl 6 (by decide) (hts (.fieldLink RX1 42 "TrialSearch$Rounds" "waiting" "I") (by decide +kernel)) rfl rfl dX1_mark_55 ?_
      exact u_iret hx hb hr hlocks U hw dX1_mark_58
  · have hw := hw.2 c_1
    refine lv_iconst (v := 2) hx hb dX1_mark_9 (by decide) ?_
    refine lv_goto (tgt := 14) hx hb dX1_mark_10 (by decide) ?_
    obtain ⟨hi_10, hw⟩ := hw
    refine u_iast (k := 23) hx hb K U rfl (by decide) rfl hi_10 dX1_mark_14 (fun H locs U => ?_)
    refine lv_aload_n hx hb dX1_mark_15 rfl (lv_at hl 0 rfl) ?_
    refine u_get (C := RX1) (T := TX1) (N := 10) (v := .ref (g.2.1 22)) hx hb hts hX1_mark_X1 hown K U 3 1 (by decide) rfl rfl 2 (by decide) (hts (.fieldLink RX1 19 "TrialSearch$Rounds" "marks" "[I") (by decide +kernel)) rfl rfl dX1_mark_16 ?_
    refine lv_iload_n hx hb dX1_mark_19 rfl (lv_at hl 1 rfl) ?_
    refine lv_iload_n hx hb dX1_mark_20 rfl (lv_at hl 3 rfl) ?_
    refine lv_if_eq (tgt := 28) hx hb dX1_mark_21 (by decide) (fun c_11 => ?_) (fun c_11 => ?_)
    · have hw := hw.1 c_11
      refine lv_iconst (v := 0) hx hb dX1_mark_28 (by decide) ?_
      obtain ⟨hi_12, hw⟩ := hw
      refine u_iast (k := 22) hx hb K U rfl (by decide) rfl hi_12 dX1_mark_29 (fun H locs U => ?_)
      refine lv_aload_n hx hb dX1_mark_30 rfl (lv_at hl 0 rfl) ?_
      refine lv_dup hx hb dX1_mark_31 rfl ?_
      refine u_get (C := RX1) (T := TX1) (N := 10) (v := .long (B 3 1)) hx hb hts hX1_mark_X1 hown K U 3 1 (by decide) rfl rfl 1 (by decide) (hts (.fieldLink RX1 15 "TrialSearch$Rounds" "spent" "J") (by decide +kernel)) rfl rfl dX1_mark_32 ?_
      refine lv_aload_n hx hb dX1_mark_35 rfl (lv_at hl 0 rfl) ?_
      refine u_get (C := RX1) (T := TX1) (N := 10) (v := .int (A 3 8)) hx hb hts hX1_mark_X1 hown K U 3 1 (by decide) rfl rfl 8 (by decide) (hts (.fieldLink RX1 33 "TrialSearch$Rounds" "budget" "I") (by decide +kernel)) rfl rfl dX1_mark_36 ?_
      refine lv_i2l hx hb dX1_mark_39 rfl ?_
      refine lv_ladd hx hb dX1_mark_40 ?_
      refine lv_topl (fun x_13 ex_13 => ?_)
      have hw := hw x_13 ex_13
      refine u_putl (ty := .long) (C := RX1) (T := TX1) (N := 10) hx hb hts hX1_mark_X1 tyX1 tyX1_ok nmX1 hown K U 3 1 (by decide) rfl rfl 1 (by decide) (hts (.fieldLink RX1 15 "TrialSearch$Rounds" "spent" "J") (by decide +kernel)) rfl rfl (by decide +kernel) rfl rfl (Nat.le_of_ble_eq_true rfl) rfl dX1_mark_41 (fun H locs U => ?_)
      refine lv_aload_n hx hb dX1_mark_44 rfl (lv_at hl 0 rfl) ?_
      refine lv_dup hx hb dX1_mark_45 rfl ?_
      refine u_get (C := RX1) (T := TX1) (N := 10) (v := .int (A 3 6)) hx hb hts hX1_mark_X1 hown K U 3 1 (by decide) rfl rfl 6 (by decide) (hts (.fieldLink RX1 42 "TrialSearch$Rounds" "waiting" "I") (by decide +kernel)) rfl rfl dX1_mark_46 ?_
      refine lv_iconst (v := 1) hx hb dX1_mark_49 (by decide) ?_
      refine lv_isub hx hb dX1_mark_50 ?_
      refine lv_topi (fun x_14 ex_14 => ?_)
      have hw := hw x_14 ex_14
      refine u_puti (ty := .int) (C := RX1) (T := TX1) (N := 10) hx hb hts hX1_mark_X1 tyX1 tyX1_ok nmX1 hown K U 3 1 (by decide) rfl rfl 6 (by decide) (hts (.fieldLink RX1 42 "TrialSearch$Rounds" "waiting" "I") (by decide +kernel)) rfl rfl (by decide +kernel) rfl rfl (Nat.le_of_ble_eq_true rfl) rfl dX1_mark_51 (fun H locs U => ?_)
      refine lv_aload_n hx hb dX1_mark_54 rfl (lv_at hl 0 rfl) ?_
      refine u_get (C := RX1) (T := TX1) (N := 10) (v := .int x_14) hx hb hts hX1_mark_X1 hown K U 3 1 (by decide) rfl rfl 6 (by decide) (hts (.fieldLink RX1 42 "TrialSearch$Rounds" "waiting" "I") (by decide +kernel)) rfl rfl dX1_mark_55 ?_
      exact u_iret hx hb hr hlocks U hw dX1_mark_58
    · have hw := hw.2 c_11
      refine lv_iload_n hx hb dX1_mark_24 rfl (lv_at hl 2 rfl) ?_
      refine lv_goto (tgt := 29) hx hb dX1_mark_25 (by decide) ?_
      obtain ⟨hi_15, hw⟩ := hw
      refine u_iast (k := 22) hx hb K U rfl (by decide) rfl hi_15 dX1_mark_29 (fun H locs U => ?_)
      refine lv_aload_n hx hb dX1_mark_30 rfl (lv_at hl 0 rfl) ?_
      refine lv_dup hx hb dX1_mark_31 rfl ?_
      refine u_get (C := RX1) (T := TX1) (N := 10) (v := .long (B 3 1)) hx hb hts hX1_mark_X1 hown K U 3 1 (by decide) rfl rfl 1 (by decide) (hts (.fieldLink RX1 15 "TrialSearch$Rounds" "spent" "J") (by decide +kernel)) rfl rfl dX1_mark_32 ?_
      refine lv_aload_n hx hb dX1_mark_35 rfl (lv_at hl 0 rfl) ?_
      refine u_get (C := RX1) (T := TX1) (N := 10) (v := .int (A 3 8)) hx hb hts hX1_mark_X1 hown K U 3 1 (by decide) rfl rfl 8 (by decide) (hts (.fieldLink RX1 33 "TrialSearch$Rounds" "budget" "I") (by decide +kernel)) rfl rfl dX1_mark_36 ?_
      refine lv_i2l hx hb dX1_mark_39 rfl ?_
      refine lv_ladd hx hb dX1_mark_40 ?_
      refine lv_topl (fun x_16 ex_16 => ?_)
      have hw := hw x_16 ex_16
      refine u_putl (ty := .long) (C := RX1) (T := TX1) (N := 10) hx hb hts hX1_mark_X1 tyX1 tyX1_ok nmX1 hown K U 3 1 (by decide) rfl rfl 1 (by decide) (hts (.fieldLink RX1 15 "TrialSearch$Rounds" "spent" "J") (by decide +kernel)) rfl rfl (by decide +kernel) rfl rfl (Nat.le_of_ble_eq_true rfl) rfl dX1_mark_41 (fun H locs U => ?_)
      refine lv_aload_n hx hb dX1_mark_44 rfl (lv_at hl 0 rfl) ?_
      refine lv_dup hx hb dX1_mark_45 rfl ?_
      refine u_get (C := RX1) (T := TX1) (N := 10) (v := .int (A 3 6)) hx hb hts hX1_mark_X1 hown K U 3 1 (by decide) rfl rfl 6 (by decide) (hts (.fieldLink RX1 42 "TrialSearch$Rounds" "waiting" "I") (by decide +kernel)) rfl rfl dX1_mark_46 ?_
      refine lv_iconst (v := 1) hx hb dX1_mark_49 (by decide) ?_
      refine lv_isub hx hb dX1_mark_50 ?_
      refine lv_topi (fun x_17 ex_17 => ?_)
      have hw := hw x_17 ex_17
      refine u_puti (ty := .int) (C := RX1) (T := TX1) (N := 10) hx hb hts hX1_mark_X1 tyX1 tyX1_ok nmX1 hown K U 3 1 (by decide) rfl rfl 6 (by decide) (hts (.fieldLink RX1 42 "TrialSearch$Rounds" "waiting" "I") (by decide +kernel)) rfl rfl (by decide +kernel) rfl rfl (Nat.le_of_ble_eq_true rfl) rfl dX1_mark_51 (fun H locs U => ?_)
      refine lv_aload_n hx hb dX1_mark_54 rfl (lv_at hl 0 rfl) ?_
      refine u_get (C := RX1) (T := TX1) (N := 10) (v := .int x_17) hx hb hts hX1_mark_X1 hown K U 3 1 (by decide) rfl rfl 6 (by decide) (hts (.fieldLink RX1 42 "TrialSearch$Rounds" "waiting" "I") (by decide +kernel)) rfl rfl dX1_mark_55 ?_
      exact u_iret hx hb hr hlocks U hw dX1_mark_58
set_option maxHeartbeats 4000000 in
set_option maxRecDepth 100000 in
theorem c_X1_canEnd {l : Launch} {g : uG}  {A : SA} {B : SB} {Q : Int32 → Prop} (hw : wp_X1_canEnd  A B Q) : MI l yX1_canEnd wsX1_canEnd rmX1_canEnd g A B [.ref (g.2.1 3)] (fun r A1 B1 => A1 = A ∧ B1 = B ∧ Q r ) := by
  refine u_of (cc := cX1_canEnd) (maxL := 1) (ret := (some .boolean)) (by decide) rfl (Nat.le_of_ble_eq_true rfl) ?_
  intro p e s m below meth c ls C K U hl
  obtain ⟨hx, hb, hml, hown, hts, hr, hlocks⟩ := id C
  have S : CallFix p m c cX1_canEnd 1 s ([.ref (g.2.1 3)] : List Value).toArray wsX1_canEnd RX1 := ⟨hx, hb, hml, hown, hts⟩
  have hl : lv_has ls 1 [(0, .ref (g.2.1 3))] := hl
  refine lv_aload_n hx hb dX1_canEnd_0 rfl (lv_at hl 0 rfl) ?_
  refine u_get (C := RX1) (T := TX1) (N := 10) (v := .int (A 3 0)) hx hb hts hX1_canEnd_X1 hown K U 3 1 (by decide) rfl rfl 0 (by decide) (hts (.fieldLink RX1 9 "TrialSearch$Rounds" "started" "Z") (by decide +kernel)) rfl rfl dX1_canEnd_1 ?_
  refine lv_if_eq (tgt := 25) hx hb dX1_canEnd_4 (by decide) (fun c_1 => ?_) (fun c_1 => ?_)
  · have hw := hw.1 c_1
    refine lv_iconst (v := 0) hx hb dX1_canEnd_25 (by decide) ?_
    exact u_zret hx hb hr hlocks U (by decide +kernel) ⟨rfl, rfl, hw⟩ dX1_canEnd_26
  · have hw := hw.2 c_1
    refine lv_aload_n hx hb dX1_canEnd_7 rfl (lv_at hl 0 rfl) ?_
    refine u_get (C := RX1) (T := TX1) (N := 10) (v := .int (A 3 4)) hx hb hts hX1_canEnd_X1 hown K U 3 1 (by decide) rfl rfl 4 (by decide) (hts (.fieldLink RX1 26 "TrialSearch$Rounds" "over" "Z") (by decide +kernel)) rfl rfl dX1_canEnd_8 ?_
    refine lv_if_ne (tgt := 25) hx hb dX1_canEnd_11 (by decide) (fun c_2 => ?_) (fun c_2 => ?_)
    · have hw := hw.1 c_2
      refine lv_iconst (v := 0) hx hb dX1_canEnd_25 (by decide) ?_
      exact u_zret hx hb hr hlocks U (by decide +kernel) ⟨rfl, rfl, hw⟩ dX1_canEnd_26
    · have hw := hw.2 c_2
      refine lv_aload_n hx hb dX1_canEnd_14 rfl (lv_at hl 0 rfl) ?_
      refine u_get (C := RX1) (T := TX1) (N := 10) (v := .int (A 3 6)) hx hb hts hX1_canEnd_X1 hown K U 3 1 (by decide) rfl rfl 6 (by decide) (hts (.fieldLink RX1 42 "TrialSearch$Rounds" "waiting" "I") (by decide +kernel)) rfl rfl dX1_canEnd_15 ?_
      refine lv_if_ne (tgt := 25) hx hb dX1_canEnd_18 (by decide) (fun c_3 => ?_) (fun c_3 => ?_)
      · have hw := hw.1 c_3
        refine lv_iconst (v := 0) hx hb dX1_canEnd_25 (by decide) ?_
        exact u_zret hx hb hr hlocks U (by decide +kernel) ⟨rfl, rfl, hw⟩ dX1_canEnd_26
      · have hw := hw.2 c_3
        refine lv_iconst (v := 1) hx hb dX1_canEnd_21 (by decide) ?_
        refine lv_goto (tgt := 26) hx hb dX1_canEnd_22 (by decide) ?_
        exact u_zret hx hb hr hlocks U (by decide +kernel) ⟨rfl, rfl, hw⟩ dX1_canEnd_26
set_option maxHeartbeats 4000000 in
set_option maxRecDepth 100000 in
theorem t_X1_keepGreatest_5 {p : Program} {l : Launch} {e : Env} {s : State} {m : MethodId} {args : Array Value} {below : List Frame} {meth : Method} {c : Code} {g : uG} {E48 : Int32 → Prop} {Q : Int32 → SA → Prop} {A : SA} {B : SB} (C : uC p s m args meth c cX1_keepGreatest 3 RX1 wsX1_keepGreatest (some .boolean)) (K : UK g s) :
    ∀ {n : Nat} {v1 : Int32} {v2 : Int32} {H : Heap} {locs : List Loc} {ls : Array Slot}, wp_X1_keepGreatest_5 E48 Q A B n v1 v2 → UU g A B s.heap H locs → lv_has ls 3 [(0, .ref (g.2.1 3)), (1, .int v1), (2, .int v2)] → (∀ (v1 : Int32) (H : Heap) (locs : List Loc) (ls : Array Slot), UU g A B s.heap H locs → lv_has ls 3 [(0, .ref (g.2.1 3)), (1, .int v1)] → E48 v1 → W p l e rmX1_keepGreatest s m args below meth c H locs 0 0 (MQ below (uQi g (fun r A1 B1 => B1 = B ∧ Q r A1 )) args s 0 0 (FA g)) (F0 m 48 ls [])) → W p l e rmX1_keepGreatest s m args below meth c H locs 0 0 (MQ below (uQi g (fun r A1 B1 => B1 = B ∧ Q r A1 )) args s 0 0 (FA g)) (F0 m 5 ls []) := by
  obtain ⟨hx, hb, hml, hown, hts, hr, hlocks⟩ := id C
  have S : CallFix p m c cX1_keepGreatest 3 s args wsX1_keepGreatest RX1 := ⟨hx, hb, hml, hown, hts⟩
  intro n
  induction n with
  | zero => intro _ _ _ _ _ hw; exact False.elim hw
  | succ n ih =>
    intro v1 v2 H locs ls hw U hl h48
    refine lv_iload_n hx hb dX1_keepGreatest_5 rfl (lv_at hl 2 rfl) ?_
    refine lv_bipush (v := 60) hx hb dX1_keepGreatest_6 (by decide) ?_
    refine lv_icmp_ge (tgt := 48) hx hb dX1_keepGreatest_8 (by decide) (fun c_1 => ?_) (fun c_1 => ?_)
    · have hw := hw.1 c_1
      exact h48 _ _ _ _ U (lv_sub hl [0, 1] rfl) hw
    · have hw := hw.2 c_1
      refine lv_aload_n hx hb dX1_keepGreatest_11 rfl (lv_at hl 0 rfl) ?_
      refine u_get (C := RX1) (T := TX1) (N := 10) (v := .ref (g.2.1 23)) hx hb hts hX1_keepGreatest_X1 hown K U 3 1 (by decide) rfl rfl 3 (by decide) (hts (.fieldLink RX1 23 "TrialSearch$Rounds" "stands" "[I") (by decide +kernel)) rfl rfl dX1_keepGreatest_12 ?_
      refine lv_iload_n hx hb dX1_keepGreatest_15 rfl (lv_at hl 2 rfl) ?_
      obtain ⟨hi_2, hw⟩ := hw
      refine u_iald (k := 23) (v := (A 23 v2.toNatClampNeg)) hx hb K U rfl (by decide) rfl hi_2 rfl dX1_keepGreatest_16 ?_
      refine lv_iconst (v := 2) hx hb dX1_keepGreatest_17 (by decide) ?_
      refine lv_icmp_ne (tgt := 42) hx hb dX1_keepGreatest_18 (by decide) (fun c_3 => ?_) (fun c_3 => ?_)
      · have hw := hw.1 c_3
        obtain ⟨v2_4, ev2_4⟩ : ∃ y : Int32, y = v2 + 1 := ⟨_, rfl⟩
        have hw := hw v2_4 ev2_4
        refine lv_iinc (v := v2_4) (lv' := [(2, .int v2_4), (0, .ref (g.2.1 3)), (1, .int v1)]) hx hb dX1_keepGreatest_42 hl (k := 2) rfl (by rw [ev2_4]; rfl) (by decide) rfl (fun ls hl => ?_)
        refine lv_goto (tgt := 5) hx hb dX1_keepGreatest_45 (by decide) ?_
        exact ih hw U (lv_sub hl [1, 2, 0] rfl) h48
      · have hw := hw.2 c_3
        refine lv_iload_n hx hb dX1_keepGreatest_21 rfl (lv_at hl 1 rfl) ?_
        refine lv_if_lt (tgt := 40) hx hb dX1_keepGreatest_22 (by decide) (fun c_5 => ?_) (fun c_5 => ?_)
        · have hw := hw.1 c_5
          refine lv_iload_n hx hb dX1_keepGreatest_40 rfl (lv_at hl 2 rfl) ?_
          refine lv_istore_n (lv' := [(1, .int v2), (0, .ref (g.2.1 3)), (2, .int v2)]) hx hb dX1_keepGreatest_41 rfl hl (by decide) rfl (fun ls hl => ?_)
          obtain ⟨v2_6, ev2_6⟩ : ∃ y : Int32, y = v2 + 1 := ⟨_, rfl⟩
          have hw := hw v2_6 ev2_6
          refine lv_iinc (v := v2_6) (lv' := [(2, .int v2_6), (1, .int v2), (0, .ref (g.2.1 3))]) hx hb dX1_keepGreatest_42 hl (k := 2) rfl (by rw [ev2_6]; rfl) (by decide) rfl (fun ls hl => ?_)
          refine lv_goto (tgt := 5) hx hb dX1_keepGreatest_45 (by decide) ?_
          exact ih hw U (lv_sub hl [2, 1, 0] rfl) h48
        · have hw := hw.2 c_5
          refine lv_aload_n hx hb dX1_keepGreatest_25 rfl (lv_at hl 0 rfl) ?_
          refine u_get (C := RX1) (T := TX1) (N := 10) (v := .ref (g.2.1 22)) hx hb hts hX1_keepGreatest_X1 hown K U 3 1 (by decide) rfl rfl 2 (by decide) (hts (.fieldLink RX1 19 "TrialSearch$Rounds" "marks" "[I") (by decide +kernel)) rfl rfl dX1_keepGreatest_26 ?_
          refine lv_iload_n hx hb dX1_keepGreatest_29 rfl (lv_at hl 2 rfl) ?_
          obtain ⟨hi_7, hw⟩ := hw
          refine u_iald (k := 22) (v := (A 22 v2.toNatClampNeg)) hx hb K U rfl (by decide) rfl hi_7 rfl dX1_keepGreatest_30 ?_
          refine lv_aload_n hx hb dX1_keepGreatest_31 rfl (lv_at hl 0 rfl) ?_
          refine u_get (C := RX1) (T := TX1) (N := 10) (v := .ref (g.2.1 22)) hx hb hts hX1_keepGreatest_X1 hown K U 3 1 (by decide) rfl rfl 2 (by decide) (hts (.fieldLink RX1 19 "TrialSearch$Rounds" "marks" "[I") (by decide +kernel)) rfl rfl dX1_keepGreatest_32 ?_
          refine lv_iload_n hx hb dX1_keepGreatest_35 rfl (lv_at hl 1 rfl) ?_
          obtain ⟨hi_8, hw⟩ := hw
          refine u_iald (k := 22) (v := (A 22 v1.toNatClampNeg)) hx hb K U rfl (by decide) rfl hi_8 rfl dX1_keepGreatest_36 ?_
          refine lv_icmp_le (tgt := 42) hx hb dX1_keepGreatest_37 (by decide) (fun c_9 => ?_) (fun c_9 => ?_)
          · have hw := hw.1 c_9
            obtain ⟨v2_10, ev2_10⟩ : ∃ y : Int32, y = v2 + 1 := ⟨_, rfl⟩
            have hw := hw v2_10 ev2_10
            refine lv_iinc (v := v2_10) (lv' := [(2, .int v2_10), (0, .ref (g.2.1 3)), (1, .int v1)]) hx hb dX1_keepGreatest_42 hl (k := 2) rfl (by rw [ev2_10]; rfl) (by decide) rfl (fun ls hl => ?_)
            refine lv_goto (tgt := 5) hx hb dX1_keepGreatest_45 (by decide) ?_
            exact ih hw U (lv_sub hl [1, 2, 0] rfl) h48
          · have hw := hw.2 c_9
            refine lv_iload_n hx hb dX1_keepGreatest_40 rfl (lv_at hl 2 rfl) ?_
            refine lv_istore_n (lv' := [(1, .int v2), (0, .ref (g.2.1 3)), (2, .int v2)]) hx hb dX1_keepGreatest_41 rfl hl (by decide) rfl (fun ls hl => ?_)
            obtain ⟨v2_11, ev2_11⟩ : ∃ y : Int32, y = v2 + 1 := ⟨_, rfl⟩
            have hw := hw v2_11 ev2_11
            refine lv_iinc (v := v2_11) (lv' := [(2, .int v2_11), (1, .int v2), (0, .ref (g.2.1 3))]) hx hb dX1_keepGreatest_42 hl (k := 2) rfl (by rw [ev2_11]; rfl) (by decide) rfl (fun ls hl => ?_)
            refine lv_goto (tgt := 5) hx hb dX1_keepGreatest_45 (by decide) ?_
            exact ih hw U (lv_sub hl [2, 1, 0] rfl) h48
set_option maxHeartbeats 4000000 in
set_option maxRecDepth 100000 in
theorem c_X1_keepGreatest {l : Launch} {g : uG}  {A : SA} {B : SB} {Q : Int32 → SA → Prop} (hw : wp_X1_keepGreatest  A B Q) : MI l yX1_keepGreatest wsX1_keepGreatest rmX1_keepGreatest g A B [.ref (g.2.1 3)] (fun r A1 B1 => B1 = B ∧ Q r A1 ) := by
  refine u_of (cc := cX1_keepGreatest) (maxL := 3) (ret := (some .boolean)) (by decide) rfl (Nat.le_of_ble_eq_true rfl) ?_
  intro p e s m below meth c ls C K U hl
  obtain ⟨hx, hb, hml, hown, hts, hr, hlocks⟩ := id C
  have S : CallFix p m c cX1_keepGreatest 3 s ([.ref (g.2.1 3)] : List Value).toArray wsX1_keepGreatest RX1 := ⟨hx, hb, hml, hown, hts⟩
  have hl : lv_has ls 3 [(0, .ref (g.2.1 3))] := hl
  refine lv_bipush (v := -2) hx hb dX1_keepGreatest_0 (by decide) ?_
  refine lv_istore_n (lv' := [(1, .int (-2 : Int32)), (0, .ref (g.2.1 3))]) hx hb dX1_keepGreatest_2 rfl hl (by decide) rfl (fun ls hl => ?_)
  refine lv_iconst (v := 0) hx hb dX1_keepGreatest_3 (by decide) ?_
  refine lv_istore_n (lv' := [(2, .int (0 : Int32)), (1, .int (-2 : Int32)), (0, .ref (g.2.1 3))]) hx hb dX1_keepGreatest_4 rfl hl (by decide) rfl (fun ls hl => ?_)
  obtain ⟨n_12, hw⟩ := hw
  refine t_X1_keepGreatest_5 C K hw U (lv_sub hl [2, 1, 0] rfl) (fun v1_13 H locs ls U hl hw => ?_)
  refine lv_iload_n hx hb dX1_keepGreatest_48 rfl (lv_at hl 1 rfl) ?_
  refine lv_if_ge (tgt := 54) hx hb dX1_keepGreatest_49 (by decide) (fun c_14 => ?_) (fun c_14 => ?_)
  · have hw := hw.1 c_14
    refine lv_aload_n hx hb dX1_keepGreatest_54 rfl (lv_at hl 0 rfl) ?_
    refine u_get (C := RX1) (T := TX1) (N := 10) (v := .ref (g.2.1 23)) hx hb hts hX1_keepGreatest_X1 hown K U 3 1 (by decide) rfl rfl 3 (by decide) (hts (.fieldLink RX1 23 "TrialSearch$Rounds" "stands" "[I") (by decide +kernel)) rfl rfl dX1_keepGreatest_55 ?_
    refine lv_iload_n hx hb dX1_keepGreatest_58 rfl (lv_at hl 1 rfl) ?_
    refine lv_iconst (v := 4) hx hb dX1_keepGreatest_59 (by decide) ?_
    obtain ⟨hi_15, hw⟩ := hw
    refine u_iast (k := 23) hx hb K U rfl (by decide) rfl hi_15 dX1_keepGreatest_60 (fun H locs U => ?_)
    refine lv_iconst (v := 1) hx hb dX1_keepGreatest_61 (by decide) ?_
    exact u_zret hx hb hr hlocks U (by decide +kernel) ⟨rfl, hw⟩ dX1_keepGreatest_62
  · have hw := hw.2 c_14
    refine lv_iconst (v := 0) hx hb dX1_keepGreatest_52 (by decide) ?_
    exact u_zret hx hb hr hlocks U (by decide +kernel) ⟨rfl, hw⟩ dX1_keepGreatest_53
set_option maxHeartbeats 4000000 in
set_option maxRecDepth 100000 in
theorem t_X1_openRound_2 {p : Program} {l : Launch} {e : Env} {s : State} {m : MethodId} {args : Array Value} {below : List Frame} {meth : Method} {c : Code} {g : uG} {E42 : SA → Prop} {Q : SA → Prop} {B : SB} (C : uC p s m args meth c cX1_openRound 2 RX1 wsX1_openRound none) (K : UK g s) :
    ∀ {n : Nat} {v1 : Int32} {A : SA} {H : Heap} {locs : List Loc} {ls : Array Slot}, wp_X1_openRound_2 E42 Q B n v1 A → UU g A B s.heap H locs → lv_has ls 2 [(0, .ref (g.2.1 3)), (1, .int v1)] → (∀ (A : SA) (H : Heap) (locs : List Loc) (ls : Array Slot), UU g A B s.heap H locs → lv_has ls 2 [] → E42 A → W p l e rmX1_openRound s m args below meth c H locs 0 0 (MQ below (uQv g (fun A1 B1 => B1 = B ∧ Q A1 )) args s 0 0 (FA g)) (F0 m 42 ls [])) → W p l e rmX1_openRound s m args below meth c H locs 0 0 (MQ below (uQv g (fun A1 B1 => B1 = B ∧ Q A1 )) args s 0 0 (FA g)) (F0 m 2 ls []) := by
  obtain ⟨hx, hb, hml, hown, hts, hr, hlocks⟩ := id C
  have S : CallFix p m c cX1_openRound 2 s args wsX1_openRound RX1 := ⟨hx, hb, hml, hown, hts⟩
  intro n
  induction n with
  | zero => intro _ _ _ _ _ hw; exact False.elim hw
  | succ n ih =>
    intro v1 A H locs ls hw U hl h42
    refine lv_iload_n hx hb dX1_openRound_2 rfl (lv_at hl 1 rfl) ?_
    refine lv_bipush (v := 60) hx hb dX1_openRound_3 (by decide) ?_
    refine lv_icmp_ge (tgt := 42) hx hb dX1_openRound_5 (by decide) (fun c_1 => ?_) (fun c_1 => ?_)
    · have hw := hw.1 c_1
      exact h42 _ _ _ _ U (lv_sub hl [] rfl) hw
    · have hw := hw.2 c_1
      refine lv_aload_n hx hb dX1_openRound_8 rfl (lv_at hl 0 rfl) ?_
      refine u_get (C := RX1) (T := TX1) (N := 10) (v := .ref (g.2.1 23)) hx hb hts hX1_openRound_X1 hown K U 3 1 (by decide) rfl rfl 3 (by decide) (hts (.fieldLink RX1 23 "TrialSearch$Rounds" "stands" "[I") (by decide +kernel)) rfl rfl dX1_openRound_9 ?_
      refine lv_iload_n hx hb dX1_openRound_12 rfl (lv_at hl 1 rfl) ?_
      refine lv_aload_n hx hb dX1_openRound_13 rfl (lv_at hl 0 rfl) ?_
      refine u_get (C := RX1) (T := TX1) (N := 10) (v := .ref (g.2.1 23)) hx hb hts hX1_openRound_X1 hown K U 3 1 (by decide) rfl rfl 3 (by decide) (hts (.fieldLink RX1 23 "TrialSearch$Rounds" "stands" "[I") (by decide +kernel)) rfl rfl dX1_openRound_14 ?_
      refine lv_iload_n hx hb dX1_openRound_17 rfl (lv_at hl 1 rfl) ?_
      obtain ⟨hi_2, hw⟩ := hw
      refine u_iald (k := 23) (v := (A 23 v1.toNatClampNeg)) hx hb K U rfl (by decide) rfl hi_2 rfl dX1_openRound_18 ?_
      refine lv_iconst (v := 4) hx hb dX1_openRound_19 (by decide) ?_
      refine lv_icmp_ne (tgt := 27) hx hb dX1_openRound_20 (by decide) (fun c_3 => ?_) (fun c_3 => ?_)
      · have hw := hw.1 c_3
        refine lv_iconst (v := 0) hx hb dX1_openRound_27 (by decide) ?_
        obtain ⟨hi_4, hw⟩ := hw
        refine u_iast (k := 23) hx hb K U rfl (by decide) rfl hi_4 dX1_openRound_28 (fun H locs U => ?_)
        refine lv_aload_n hx hb dX1_openRound_29 rfl (lv_at hl 0 rfl) ?_
        refine u_get (C := RX1) (T := TX1) (N := 10) (v := .ref (g.2.1 22)) hx hb hts hX1_openRound_X1 hown K U 3 1 (by decide) rfl rfl 2 (by decide) (hts (.fieldLink RX1 19 "TrialSearch$Rounds" "marks" "[I") (by decide +kernel)) rfl rfl dX1_openRound_30 ?_
        refine lv_iload_n hx hb dX1_openRound_33 rfl (lv_at hl 1 rfl) ?_
        refine lv_iconst (v := 0) hx hb dX1_openRound_34 (by decide) ?_
        obtain ⟨hi_5, hw⟩ := hw
        refine u_iast (k := 22) hx hb K U rfl (by decide) rfl hi_5 dX1_openRound_35 (fun H locs U => ?_)
        obtain ⟨v1_6, ev1_6⟩ : ∃ y : Int32, y = v1 + 1 := ⟨_, rfl⟩
        have hw := hw v1_6 ev1_6
        refine lv_iinc (v := v1_6) (lv' := [(1, .int v1_6), (0, .ref (g.2.1 3))]) hx hb dX1_openRound_36 hl (k := 1) rfl (by rw [ev1_6]; rfl) (by decide) rfl (fun ls hl => ?_)
        refine lv_goto (tgt := 2) hx hb dX1_openRound_39 (by decide) ?_
        exact ih hw U (lv_sub hl [1, 0] rfl) h42
      · have hw := hw.2 c_3
        refine lv_iconst (v := 1) hx hb dX1_openRound_23 (by decide) ?_
        refine lv_goto (tgt := 28) hx hb dX1_openRound_24 (by decide) ?_
        obtain ⟨hi_7, hw⟩ := hw
        refine u_iast (k := 23) hx hb K U rfl (by decide) rfl hi_7 dX1_openRound_28 (fun H locs U => ?_)
        refine lv_aload_n hx hb dX1_openRound_29 rfl (lv_at hl 0 rfl) ?_
        refine u_get (C := RX1) (T := TX1) (N := 10) (v := .ref (g.2.1 22)) hx hb hts hX1_openRound_X1 hown K U 3 1 (by decide) rfl rfl 2 (by decide) (hts (.fieldLink RX1 19 "TrialSearch$Rounds" "marks" "[I") (by decide +kernel)) rfl rfl dX1_openRound_30 ?_
        refine lv_iload_n hx hb dX1_openRound_33 rfl (lv_at hl 1 rfl) ?_
        refine lv_iconst (v := 0) hx hb dX1_openRound_34 (by decide) ?_
        obtain ⟨hi_8, hw⟩ := hw
        refine u_iast (k := 22) hx hb K U rfl (by decide) rfl hi_8 dX1_openRound_35 (fun H locs U => ?_)
        obtain ⟨v1_9, ev1_9⟩ : ∃ y : Int32, y = v1 + 1 := ⟨_, rfl⟩
        have hw := hw v1_9 ev1_9
        refine lv_iinc (v := v1_9) (lv' := [(1, .int v1_9), (0, .ref (g.2.1 3))]) hx hb dX1_openRound_36 hl (k := 1) rfl (by rw [ev1_9]; rfl) (by decide) rfl (fun ls hl => ?_)
        refine lv_goto (tgt := 2) hx hb dX1_openRound_39 (by decide) ?_
        exact ih hw U (lv_sub hl [1, 0] rfl) h42
set_option maxHeartbeats 4000000 in
set_option maxRecDepth 100000 in
theorem c_X1_openRound {l : Launch} {g : uG}  {A : SA} {B : SB} {Q : SA → Prop} (hw : wp_X1_openRound  A B Q) : MV l yX1_openRound wsX1_openRound rmX1_openRound g A B [.ref (g.2.1 3)] (fun A1 B1 => B1 = B ∧ Q A1 ) := by
  refine u_of (cc := cX1_openRound) (maxL := 2) (ret := none) (by decide) rfl (Nat.le_of_ble_eq_true rfl) ?_
  intro p e s m below meth c ls C K U hl
  obtain ⟨hx, hb, hml, hown, hts, hr, hlocks⟩ := id C
  have S : CallFix p m c cX1_openRound 2 s ([.ref (g.2.1 3)] : List Value).toArray wsX1_openRound RX1 := ⟨hx, hb, hml, hown, hts⟩
  have hl : lv_has ls 2 [(0, .ref (g.2.1 3))] := hl
  refine lv_iconst (v := 0) hx hb dX1_openRound_0 (by decide) ?_
  refine lv_istore_n (lv' := [(1, .int (0 : Int32)), (0, .ref (g.2.1 3))]) hx hb dX1_openRound_1 rfl hl (by decide) rfl (fun ls hl => ?_)
  obtain ⟨n_10, hw⟩ := hw
  refine t_X1_openRound_2 C K hw U (lv_sub hl [1, 0] rfl) (fun A_11 H locs ls U hl hw => ?_)
  exact u_vret hx hb hr hlocks U ⟨rfl, hw⟩ dX1_openRound_42
set_option maxHeartbeats 4000000 in
set_option maxRecDepth 100000 in
theorem t_X1_end_20 {p : Program} {l : Launch} {e : Env} {s : State} {m : MethodId} {args : Array Value} {below : List Frame} {meth : Method} {c : Code} {g : uG} {E40 : Int32 → SA → Prop} {Q : Int32 → SA → Prop} {v1 : Int64} {B : SB} (C : uC p s m args meth c cX1_end 4 RX1 wsX1_end (some .int)) (K : UK g s) :
    ∀ {n : Nat} {v3 : Int32} {A : SA} {H : Heap} {locs : List Loc} {ls : Array Slot}, wp_X1_end_20 E40 Q v1 B n v3 A → UU g A B s.heap H locs → lv_has ls 4 [(0, .ref (g.2.1 3)), (1, .long v1), (3, .int v3)] → (∀ (v3 : Int32) (A : SA) (H : Heap) (locs : List Loc) (ls : Array Slot), UU g A B s.heap H locs → lv_has ls 4 [(0, .ref (g.2.1 3)), (3, .int v3)] → E40 v3 A → W p l e rmX1_end s m args below meth c H locs 0 0 (MQ below (uQi g (fun r A1 B1 => B1 = B ∧ Q r A1 )) args s 0 0 (FA g)) (F0 m 40 ls [])) → W p l e rmX1_end s m args below meth c H locs 0 0 (MQ below (uQi g (fun r A1 B1 => B1 = B ∧ Q r A1 )) args s 0 0 (FA g)) (F0 m 20 ls []) := by
  obtain ⟨hx, hb, hml, hown, hts, hr, hlocks⟩ := id C
  have S : CallFix p m c cX1_end 4 s args wsX1_end RX1 := ⟨hx, hb, hml, hown, hts⟩
  intro n
  induction n with
  | zero => intro _ _ _ _ _ hw; exact False.elim hw
  | succ n ih =>
    intro v3 A H locs ls hw U hl h40
    refine lv_iload_n hx hb dX1_end_20 rfl (lv_at hl 2 rfl) ?_
    refine lv_i2l hx hb dX1_end_21 rfl ?_
    refine lv_lload_n hx hb dX1_end_22 rfl (lv_at hl 1 rfl) ?_
    refine u_lc_ge (tgt := 40) hx hb dX1_end_23 dX1_end_24 (by decide) (fun c_5 => ?_) (fun c_5 => ?_)
    · have hw := hw.1 c_5
      exact h40 _ _ _ _ _ U (lv_sub hl [0, 2] rfl) hw
    · have hw := hw.2 c_5
      refine lv_aload_n hx hb dX1_end_27 rfl (lv_at hl 0 rfl) ?_
      refine u_ci (u_rV (As := []) (rest := []) (C := RX1) S K U 3 1 (by decide) rfl rfl (c_X1_keepGreatest hw) (cwV 0 hts gX1_end_X1_keepGreatest rfl rfl rfl (by decide +kernel) ⟨Nat.le_of_ble_eq_true rfl, Nat.le_of_ble_eq_true rfl⟩) rfl hl.1 rfl (Nat.le_of_ble_eq_true rfl) dX1_end_28 ⟨Nat.zero_le _, Nat.zero_le _⟩) U (fun r_6 A_7 B_8 H locs U9 hw => ?_)
      obtain ⟨eB, hw⟩ := hw
      rw [eB] at U9
      have U := U9
      refine lv_if_eq (tgt := 40) hx hb dX1_end_31 (by decide) (fun c_9 => ?_) (fun c_9 => ?_)
      · have hw := hw.1 c_9
        exact h40 _ _ _ _ _ U (lv_sub hl [0, 2] rfl) hw
      · have hw := hw.2 c_9
        obtain ⟨v3_10, ev3_10⟩ : ∃ y : Int32, y = v3 + 1 := ⟨_, rfl⟩
        have hw := hw v3_10 ev3_10
        refine lv_iinc (v := v3_10) (lv' := [(3, .int v3_10), (0, .ref (g.2.1 3)), (1, .long v1)]) hx hb dX1_end_34 hl (k := 2) rfl (by rw [ev3_10]; rfl) (by decide) rfl (fun ls hl => ?_)
        refine lv_goto (tgt := 20) hx hb dX1_end_37 (by decide) ?_
        exact ih hw U (lv_sub hl [1, 2, 0] rfl) h40
set_option maxHeartbeats 4000000 in
set_option maxRecDepth 100000 in
theorem c_X1_end {l : Launch} {g : uG}  {A : SA} {B : SB} {Q : Int32 → SA → Prop} (hw : wp_X1_end  A B Q) : MI l yX1_end wsX1_end rmX1_end g A B [.ref (g.2.1 3)] (fun r A1 B1 => B1 = B ∧ Q r A1 ) := by
  refine u_of (cc := cX1_end) (maxL := 4) (ret := (some .int)) (by decide) rfl (Nat.le_of_ble_eq_true rfl) ?_
  intro p e s m below meth c ls C K U hl
  obtain ⟨hx, hb, hml, hown, hts, hr, hlocks⟩ := id C
  have S : CallFix p m c cX1_end 4 s ([.ref (g.2.1 3)] : List Value).toArray wsX1_end RX1 := ⟨hx, hb, hml, hown, hts⟩
  have hl : lv_has ls 4 [(0, .ref (g.2.1 3))] := hl
  refine lv_lconst (v := 1) hx hb dX1_end_0 (by decide) ?_
  refine lv_aload_n hx hb dX1_end_1 rfl (lv_at hl 0 rfl) ?_
  refine u_get (C := RX1) (T := TX1) (N := 10) (v := .int (A 3 5)) hx hb hts hX1_end_X1 hown K U 3 1 (by decide) rfl rfl 5 (by decide) (hts (.fieldLink RX1 39 "TrialSearch$Rounds" "in" "I") (by decide +kernel)) rfl rfl dX1_end_2 ?_
  refine lv_i2l hx hb dX1_end_5 rfl ?_
  refine lv_aload_n hx hb dX1_end_6 rfl (lv_at hl 0 rfl) ?_
  refine u_get (C := RX1) (T := TX1) (N := 10) (v := .int (A 3 9)) hx hb hts hX1_end_X1 hown K U 3 1 (by decide) rfl rfl 9 (by decide) (hts (.fieldLink RX1 36 "TrialSearch$Rounds" "factor" "I") (by decide +kernel)) rfl rfl dX1_end_7 ?_
  refine lv_i2l hx hb dX1_end_10 rfl ?_
  refine u_cl (u_rSN (As := [.long (A 3 5).toInt64, .long (A 3 9).toInt64]) (rest := [.long (1 : Int64)]) S K U (c_X5_cut hw) ⟨va_cnB (host := "TrialSearch") 2 hts gX1_end_X5_cut_n45 rfl rfl rfl (K.2.2 _ (by decide +kernel)) (hts (.initialized RX5) (by decide +kernel)) (by decide +kernel) ⟨Nat.le_of_ble_eq_true rfl, Nat.le_of_ble_eq_true rfl⟩, hts (.static yX5_cut) (by decide +kernel), trivial⟩ rfl hl.1 rfl (Nat.le_of_ble_eq_true rfl) dX1_end_11 ⟨Nat.zero_le _, Nat.zero_le _⟩) U (fun r_1 A_2 B_3 H locs U9 hw => ?_)
  obtain ⟨eA, eB, hw⟩ := hw
  rw [eA, eB] at U9
  have U := U9
  refine va_mmax_long (rest := []) hx hb (hml.trans hl.1.symm) hown (hts (.methodLink RX1 49 Lib.MathLoose.max_long.x) (by decide +kernel)) (hts (.static Lib.MathLoose.max_long.x) (by decide +kernel)) (hts (.initialized "java/lang/Math") (by decide +kernel)) (hts (.code Lib.MathLoose.max_long.x Lib.MathLoose.max_long.code 4 (some .long)) (by decide +kernel)) (Nat.le_of_ble_eq_true rfl) (Nat.le_of_ble_eq_true rfl) (Nat.zero_le _) (Nat.zero_le _) dX1_end_14 ?_
  refine lv_topl (fun x_4 ex_4 => ?_)
  have hw := hw x_4 ex_4
  refine lv_lstore_n (lv' := [(1, .long x_4), (0, .ref (g.2.1 3))]) hx hb dX1_end_17 rfl hl (by decide) rfl (fun ls hl => ?_)
  refine lv_iconst (v := 0) hx hb dX1_end_18 (by decide) ?_
  refine lv_istore_n (lv' := [(3, .int (0 : Int32)), (1, .long x_4), (0, .ref (g.2.1 3))]) hx hb dX1_end_19 rfl hl (by decide) rfl (fun ls hl => ?_)
  obtain ⟨n_11, hw⟩ := hw
  refine t_X1_end_20 C K hw U (lv_sub hl [2, 1, 0] rfl) (fun v3_12 A_13 H locs ls U hl hw => ?_)
  refine lv_aload_n hx hb dX1_end_40 rfl (lv_at hl 0 rfl) ?_
  refine u_cv (u_rV (As := []) (rest := []) (C := RX1) S K U 3 1 (by decide) rfl rfl (c_X1_openRound hw) (cwV 0 hts gX1_end_X1_openRound rfl rfl rfl (by decide +kernel) ⟨Nat.le_of_ble_eq_true rfl, Nat.le_of_ble_eq_true rfl⟩) rfl hl.1 rfl (Nat.le_of_ble_eq_true rfl) dX1_end_41 ⟨Nat.zero_le _, Nat.zero_le _⟩) U (fun A_15 B_16 H locs U9 hw => ?_)
  obtain ⟨eB, hw⟩ := hw
  rw [eB] at U9
  have U := U9
  refine lv_aload_n hx hb dX1_end_44 rfl (lv_at hl 0 rfl) ?_
  refine lv_iload_n hx hb dX1_end_45 rfl (lv_at hl 1 rfl) ?_
  refine u_puti (ty := .int) (C := RX1) (T := TX1) (N := 10) hx hb hts hX1_end_X1 tyX1 tyX1_ok nmX1 hown K U 3 1 (by decide) rfl rfl 5 (by decide) (hts (.fieldLink RX1 39 "TrialSearch$Rounds" "in" "I") (by decide +kernel)) rfl rfl (by decide +kernel) rfl rfl (Nat.le_of_ble_eq_true rfl) rfl dX1_end_46 (fun H locs U => ?_)
  refine lv_aload_n hx hb dX1_end_49 rfl (lv_at hl 0 rfl) ?_
  refine lv_iload_n hx hb dX1_end_50 rfl (lv_at hl 1 rfl) ?_
  refine u_puti (ty := .int) (C := RX1) (T := TX1) (N := 10) hx hb hts hX1_end_X1 tyX1 tyX1_ok nmX1 hown K U 3 1 (by decide) rfl rfl 6 (by decide) (hts (.fieldLink RX1 42 "TrialSearch$Rounds" "waiting" "I") (by decide +kernel)) rfl rfl (by decide +kernel) rfl rfl (Nat.le_of_ble_eq_true rfl) rfl dX1_end_51 (fun H locs U => ?_)
  refine lv_aload_n hx hb dX1_end_54 rfl (lv_at hl 0 rfl) ?_
  refine lv_dup hx hb dX1_end_55 rfl ?_
  refine u_get (C := RX1) (T := TX1) (N := 10) (v := .int (A_15 3 7)) hx hb hts hX1_end_X1 hown K U 3 1 (by decide) rfl rfl 7 (by decide) (hts (.fieldLink RX1 29 "TrialSearch$Rounds" "halved" "I") (by decide +kernel)) rfl rfl dX1_end_56 ?_
  refine lv_iconst (v := 1) hx hb dX1_end_59 (by decide) ?_
  refine lv_iadd hx hb dX1_end_60 ?_
  refine lv_topi (fun x_17 ex_17 => ?_)
  have hw := hw x_17 ex_17
  refine u_puti (ty := .int) (C := RX1) (T := TX1) (N := 10) hx hb hts hX1_end_X1 tyX1 tyX1_ok nmX1 hown K U 3 1 (by decide) rfl rfl 7 (by decide) (hts (.fieldLink RX1 29 "TrialSearch$Rounds" "halved" "I") (by decide +kernel)) rfl rfl (by decide +kernel) rfl rfl (Nat.le_of_ble_eq_true rfl) rfl dX1_end_61 (fun H locs U => ?_)
  refine lv_aload_n hx hb dX1_end_64 rfl (lv_at hl 0 rfl) ?_
  refine lv_aload_n hx hb dX1_end_65 rfl (lv_at hl 0 rfl) ?_
  refine u_get (C := RX1) (T := TX1) (N := 10) (v := .int (A_15 3 8)) hx hb hts hX1_end_X1 hown K U 3 1 (by decide) rfl rfl 8 (by decide) (hts (.fieldLink RX1 33 "TrialSearch$Rounds" "budget" "I") (by decide +kernel)) rfl rfl dX1_end_66 ?_
  refine lv_i2l hx hb dX1_end_69 rfl ?_
  refine lv_aload_n hx hb dX1_end_70 rfl (lv_at hl 0 rfl) ?_
  refine u_get (C := RX1) (T := TX1) (N := 10) (v := .int (A_15 3 9)) hx hb hts hX1_end_X1 hown K U 3 1 (by decide) rfl rfl 9 (by decide) (hts (.fieldLink RX1 36 "TrialSearch$Rounds" "factor" "I") (by decide +kernel)) rfl rfl dX1_end_71 ?_
  refine lv_i2l hx hb dX1_end_74 rfl ?_
  refine lv_lmul hx hb dX1_end_75 ?_
  refine lv_ldc2 (v := 1000000000) hx hb hown (hts (.constantLong RX1 61 (1000000000)) (by decide +kernel)) dX1_end_76 ?_
  refine va_mmin_long (rest := [.ref (g.2.1 3)]) hx hb (hml.trans hl.1.symm) hown (hts (.methodLink RX1 63 Lib.MathLoose.min_long.x) (by decide +kernel)) (hts (.static Lib.MathLoose.min_long.x) (by decide +kernel)) (hts (.initialized "java/lang/Math") (by decide +kernel)) (hts (.code Lib.MathLoose.min_long.x Lib.MathLoose.min_long.code 4 (some .long)) (by decide +kernel)) (Nat.le_of_ble_eq_true rfl) (Nat.le_of_ble_eq_true rfl) (Nat.zero_le _) (Nat.zero_le _) dX1_end_79 ?_
  refine lv_l2i hx hb dX1_end_82 rfl ?_
  refine lv_topi (fun x_18 ex_18 => ?_)
  have hw := hw x_18 ex_18
  refine u_puti (ty := .int) (C := RX1) (T := TX1) (N := 10) hx hb hts hX1_end_X1 tyX1 tyX1_ok nmX1 hown K U 3 1 (by decide) rfl rfl 8 (by decide) (hts (.fieldLink RX1 33 "TrialSearch$Rounds" "budget" "I") (by decide +kernel)) rfl rfl (by decide +kernel) rfl rfl (Nat.le_of_ble_eq_true rfl) rfl dX1_end_83 (fun H locs U => ?_)
  refine lv_aload_n hx hb dX1_end_86 rfl (lv_at hl 0 rfl) ?_
  refine lv_aload_n hx hb dX1_end_87 rfl (lv_at hl 0 rfl) ?_
  refine u_get (C := RX1) (T := TX1) (N := 10) (v := .int v3_12) hx hb hts hX1_end_X1 hown K U 3 1 (by decide) rfl rfl 5 (by decide) (hts (.fieldLink RX1 39 "TrialSearch$Rounds" "in" "I") (by decide +kernel)) rfl rfl dX1_end_88 ?_
  refine lv_iconst (v := 1) hx hb dX1_end_91 (by decide) ?_
  refine lv_icmp_gt (tgt := 99) hx hb dX1_end_92 (by decide) (fun c_19 => ?_) (fun c_19 => ?_)
  · have hw := hw.1 c_19
    refine lv_iconst (v := 0) hx hb dX1_end_99 (by decide) ?_
    refine u_puti (ty := .boolean) (C := RX1) (T := TX1) (N := 10) hx hb hts hX1_end_X1 tyX1 tyX1_ok nmX1 hown K U 3 1 (by decide) rfl rfl 4 (by decide) (hts (.fieldLink RX1 26 "TrialSearch$Rounds" "over" "Z") (by decide +kernel)) rfl rfl (by decide +kernel) (by decide +kernel) (by decide +kernel) (Nat.le_of_ble_eq_true rfl) rfl dX1_end_100 (fun H locs U => ?_)
    refine lv_aload_n hx hb dX1_end_103 rfl (lv_at hl 0 rfl) ?_
    refine u_get (C := RX1) (T := TX1) (N := 10) (v := .int v3_12) hx hb hts hX1_end_X1 hown K U 3 1 (by decide) rfl rfl 5 (by decide) (hts (.fieldLink RX1 39 "TrialSearch$Rounds" "in" "I") (by decide +kernel)) rfl rfl dX1_end_104 ?_
    exact u_iret hx hb hr hlocks U ⟨rfl, hw⟩ dX1_end_107
  · have hw := hw.2 c_19
    refine lv_iconst (v := 1) hx hb dX1_end_95 (by decide) ?_
    refine lv_goto (tgt := 100) hx hb dX1_end_96 (by decide) ?_
    refine u_puti (ty := .boolean) (C := RX1) (T := TX1) (N := 10) hx hb hts hX1_end_X1 tyX1 tyX1_ok nmX1 hown K U 3 1 (by decide) rfl rfl 4 (by decide) (hts (.fieldLink RX1 26 "TrialSearch$Rounds" "over" "Z") (by decide +kernel)) rfl rfl (by decide +kernel) (by decide +kernel) (by decide +kernel) (Nat.le_of_ble_eq_true rfl) rfl dX1_end_100 (fun H locs U => ?_)
    refine lv_aload_n hx hb dX1_end_103 rfl (lv_at hl 0 rfl) ?_
    refine u_get (C := RX1) (T := TX1) (N := 10) (v := .int v3_12) hx hb hts hX1_end_X1 hown K U 3 1 (by decide) rfl rfl 5 (by decide) (hts (.fieldLink RX1 39 "TrialSearch$Rounds" "in" "I") (by decide +kernel)) rfl rfl dX1_end_104 ?_
    exact u_iret hx hb hr hlocks U ⟨rfl, hw⟩ dX1_end_107
set_option maxHeartbeats 4000000 in
set_option maxRecDepth 100000 in
theorem c_X1_tell {l : Launch} {g : uG} {a0 : Int32} {A : SA} {B : SB} {Q : Int32 → Prop} (hw : wp_X1_tell a0 A B Q) : MI l yX1_tell wsX1_tell rmX1_tell g A B [.ref (g.2.1 3), .int a0] (fun r A1 B1 => A1 = A ∧ B1 = B ∧ Q r ) := by
  refine u_of (cc := cX1_tell) (maxL := 2) (ret := (some .int)) (by decide) rfl (Nat.le_of_ble_eq_true rfl) ?_
  intro p e s m below meth c ls C K U hl
  obtain ⟨hx, hb, hml, hown, hts, hr, hlocks⟩ := id C
  have S : CallFix p m c cX1_tell 2 s ([.ref (g.2.1 3), .int a0] : List Value).toArray wsX1_tell RX1 := ⟨hx, hb, hml, hown, hts⟩
  have hl : lv_has ls 2 [(0, .ref (g.2.1 3)), (1, .int a0)] := hl
  refine lv_iload_n hx hb dX1_tell_0 rfl (lv_at hl 1 rfl) ?_
  by_cases h_1 : a0 = 0
  · have hw := hw.1 h_1
    refine lv_tableIn (off := 27) (tgt := 28) hx hb dX1_tell_1 (by rw [h_1]; decide) (by rw [h_1]; decide) (by rw [h_1]; rfl) (by decide) ?_
    refine lv_aload_n hx hb dX1_tell_28 rfl (lv_at hl 0 rfl) ?_
    refine u_get (C := RX1) (T := TX1) (N := 10) (v := .int (A 3 5)) hx hb hts hX1_tell_X1 hown K U 3 1 (by decide) rfl rfl 5 (by decide) (hts (.fieldLink RX1 39 "TrialSearch$Rounds" "in" "I") (by decide +kernel)) rfl rfl dX1_tell_29 ?_
    exact u_iret hx hb hr hlocks U ⟨rfl, rfl, hw⟩ dX1_tell_32
  · have hw := hw.2 h_1
    by_cases h_2 : a0 = 1
    · have hw := hw.1 h_2
      refine lv_tableIn (off := 32) (tgt := 33) hx hb dX1_tell_1 (by rw [h_2]; decide) (by rw [h_2]; decide) (by rw [h_2]; rfl) (by decide) ?_
      refine lv_aload_n hx hb dX1_tell_33 rfl (lv_at hl 0 rfl) ?_
      refine u_get (C := RX1) (T := TX1) (N := 10) (v := .int (A 3 7)) hx hb hts hX1_tell_X1 hown K U 3 1 (by decide) rfl rfl 7 (by decide) (hts (.fieldLink RX1 29 "TrialSearch$Rounds" "halved" "I") (by decide +kernel)) rfl rfl dX1_tell_34 ?_
      exact u_iret hx hb hr hlocks U ⟨rfl, rfl, hw⟩ dX1_tell_37
    · have hw := hw.2 h_2
      by_cases h_3 : a0 = 2
      · have hw := hw.1 h_3
        refine lv_tableIn (off := 37) (tgt := 38) hx hb dX1_tell_1 (by rw [h_3]; decide) (by rw [h_3]; decide) (by rw [h_3]; rfl) (by decide) ?_
        refine lv_aload_n hx hb dX1_tell_38 rfl (lv_at hl 0 rfl) ?_
        refine u_get (C := RX1) (T := TX1) (N := 10) (v := .int (A 3 8)) hx hb hts hX1_tell_X1 hown K U 3 1 (by decide) rfl rfl 8 (by decide) (hts (.fieldLink RX1 33 "TrialSearch$Rounds" "budget" "I") (by decide +kernel)) rfl rfl dX1_tell_39 ?_
        exact u_iret hx hb hr hlocks U ⟨rfl, rfl, hw⟩ dX1_tell_42
      · have hw := hw.2 h_3
        have nh_1 := lv_neT (a := 0) h_1 (by decide)
        have nh_2 := lv_neT (a := 1) h_2 (by decide)
        have nh_3 := lv_neT (a := 2) h_3 (by decide)
        refine lv_tableOut (tgt := 43) hx hb dX1_tell_1 (by omega) (by decide) ?_
        refine lv_aload_n hx hb dX1_tell_43 rfl (lv_at hl 0 rfl) ?_
        refine u_get (C := RX1) (T := TX1) (N := 10) (v := .int (A 3 4)) hx hb hts hX1_tell_X1 hown K U 3 1 (by decide) rfl rfl 4 (by decide) (hts (.fieldLink RX1 26 "TrialSearch$Rounds" "over" "Z") (by decide +kernel)) rfl rfl dX1_tell_44 ?_
        refine lv_if_eq (tgt := 54) hx hb dX1_tell_47 (by decide) (fun c_4 => ?_) (fun c_4 => ?_)
        · have hw := hw.1 c_4
          refine lv_iconst (v := 0) hx hb dX1_tell_54 (by decide) ?_
          exact u_iret hx hb hr hlocks U ⟨rfl, rfl, hw⟩ dX1_tell_55
        · have hw := hw.2 c_4
          refine lv_iconst (v := 1) hx hb dX1_tell_50 (by decide) ?_
          refine lv_goto (tgt := 55) hx hb dX1_tell_51 (by decide) ?_
          exact u_iret hx hb hr hlocks U ⟨rfl, rfl, hw⟩ dX1_tell_55
