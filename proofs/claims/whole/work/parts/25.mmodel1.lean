set_option maxHeartbeats 4000000 in
set_option maxRecDepth 100000 in
theorem c_X6_hash {l : Launch} {g : uG} {a0 : Int32} {a1 : Int32} {A : SA} {B : SB} {Q : Int32 → Prop} (hw : wp_X6_hash a0 a1 A B Q) : MI l yX6_hash wsX6_hash rmX6_hash g A B [.int a0, .int a1] (fun r A1 B1 => A1 = A ∧ B1 = B ∧ Q r ) := by
  refine u_of (cc := cX6_hash) (maxL := 3) (ret := (some .int)) (by decide) rfl (Nat.le_of_ble_eq_true rfl) ?_
  intro p e s m below meth c ls C K U hl
  obtain ⟨hx, hb, hml, hown, hts, hr, hlocks⟩ := id C
  have S : CallFix p m c cX6_hash 3 s ([.int a0, .int a1] : List Value).toArray wsX6_hash RX6 := ⟨hx, hb, hml, hown, hts⟩
  have hl : lv_has ls 3 [(0, .int a0), (1, .int a1)] := hl
  refine lv_iload_n hx hb dX6_hash_0 rfl (lv_at hl 0 rfl) ?_
  refine lv_iload_n hx hb dX6_hash_1 rfl (lv_at hl 1 rfl) ?_
  refine lv_ldc (v := -1640531527) hx hb hown (hts (.constant RX6 1 (-1640531527)) (by decide +kernel)) dX6_hash_2 ?_
  refine lv_imul hx hb dX6_hash_4 ?_
  refine lv_iadd hx hb dX6_hash_5 ?_
  refine lv_topi (fun x_1 ex_1 => ?_)
  have hw := hw x_1 ex_1
  refine lv_istore_n (lv' := [(2, .int x_1), (0, .int a0), (1, .int a1)]) hx hb dX6_hash_6 rfl hl (by decide) rfl (fun ls hl => ?_)
  refine lv_iload_n hx hb dX6_hash_7 rfl (lv_at hl 0 rfl) ?_
  refine lv_iload_n hx hb dX6_hash_8 rfl (lv_at hl 0 rfl) ?_
  refine lv_bipush (v := 16) hx hb dX6_hash_9 (by decide) ?_
  refine lv_iushr hx hb dX6_hash_11 rfl ?_
  refine lv_ixor hx hb dX6_hash_12 ?_
  refine lv_ldc (v := -2048144789) hx hb hown (hts (.constant RX6 2 (-2048144789)) (by decide +kernel)) dX6_hash_13 ?_
  refine lv_imul hx hb dX6_hash_15 ?_
  refine lv_topi (fun x_2 ex_2 => ?_)
  have hw := hw x_2 ex_2
  refine lv_istore_n (lv' := [(2, .int x_2), (0, .int a0), (1, .int a1)]) hx hb dX6_hash_16 rfl hl (by decide) rfl (fun ls hl => ?_)
  refine lv_iload_n hx hb dX6_hash_17 rfl (lv_at hl 0 rfl) ?_
  refine lv_iload_n hx hb dX6_hash_18 rfl (lv_at hl 0 rfl) ?_
  refine lv_bipush (v := 13) hx hb dX6_hash_19 (by decide) ?_
  refine lv_iushr hx hb dX6_hash_21 rfl ?_
  refine lv_ixor hx hb dX6_hash_22 ?_
  refine lv_ldc (v := -1028477387) hx hb hown (hts (.constant RX6 3 (-1028477387)) (by decide +kernel)) dX6_hash_23 ?_
  refine lv_imul hx hb dX6_hash_25 ?_
  refine lv_topi (fun x_3 ex_3 => ?_)
  have hw := hw x_3 ex_3
  refine lv_istore_n (lv' := [(2, .int x_3), (0, .int a0), (1, .int a1)]) hx hb dX6_hash_26 rfl hl (by decide) rfl (fun ls hl => ?_)
  refine lv_iload_n hx hb dX6_hash_27 rfl (lv_at hl 0 rfl) ?_
  refine lv_iload_n hx hb dX6_hash_28 rfl (lv_at hl 0 rfl) ?_
  refine lv_bipush (v := 16) hx hb dX6_hash_29 (by decide) ?_
  refine lv_iushr hx hb dX6_hash_31 rfl ?_
  refine lv_ixor hx hb dX6_hash_32 ?_
  exact u_iret hx hb hr hlocks U ⟨rfl, rfl, hw⟩ dX6_hash_33
set_option maxHeartbeats 4000000 in
set_option maxRecDepth 100000 in
theorem t_X6_pick_2 {p : Program} {l : Launch} {e : Env} {s : State} {m : MethodId} {args : Array Value} {below : List Frame} {meth : Method} {c : Code} {g : uG} {E16 : Int32 → Prop} {Q : Int64 → Prop} {v0 : Int32} {v1 : Int64} {A : SA} {B : SB} (C : uC p s m args meth c cX6_pick 7 RX6 wsX6_pick (some .long)) (K : UK g s) :
    ∀ {n : Nat} {v3 : Int32} {H : Heap} {locs : List Loc} {ls : Array Slot}, wp_X6_pick_2 E16 Q v0 v1 A B n v3 → UU g A B s.heap H locs → lv_has ls 7 [(0, .int v0), (1, .long v1), (3, .int v3)] → (∀ (v3 : Int32) (H : Heap) (locs : List Loc) (ls : Array Slot), UU g A B s.heap H locs → lv_has ls 7 [(0, .int v0), (1, .long v1), (3, .int v3)] → E16 v3 → W p l e rmX6_pick s m args below meth c H locs 0 0 (MQ below (uQl g (fun r A1 B1 => A1 = A ∧ B1 = B ∧ Q r )) args s 0 0 (FA g)) (F0 m 16 ls [])) → W p l e rmX6_pick s m args below meth c H locs 0 0 (MQ below (uQl g (fun r A1 B1 => A1 = A ∧ B1 = B ∧ Q r )) args s 0 0 (FA g)) (F0 m 2 ls []) := by
  obtain ⟨hx, hb, hml, hown, hts, hr, hlocks⟩ := id C
  have S : CallFix p m c cX6_pick 7 s args wsX6_pick RX6 := ⟨hx, hb, hml, hown, hts⟩
  intro n
  induction n with
  | zero => intro _ _ _ _ hw; exact False.elim hw
  | succ n ih =>
    intro v3 H locs ls hw U hl h16
    refine lv_lconst (v := 1) hx hb dX6_pick_2 (by decide) ?_
    refine lv_iload_n hx hb dX6_pick_3 rfl (lv_at hl 2 rfl) ?_
    refine lv_lshl hx hb dX6_pick_4 rfl ?_
    refine lv_lload_n hx hb dX6_pick_5 rfl (lv_at hl 1 rfl) ?_
    refine u_lc_ge (tgt := 16) hx hb dX6_pick_6 dX6_pick_7 (by decide) (fun c_1 => ?_) (fun c_1 => ?_)
    · have hw := hw.1 c_1
      exact h16 _ _ _ _ U (lv_sub hl [0, 1, 2] rfl) hw
    · have hw := hw.2 c_1
      obtain ⟨v3_2, ev3_2⟩ : ∃ y : Int32, y = v3 + 1 := ⟨_, rfl⟩
      have hw := hw v3_2 ev3_2
      refine lv_iinc (v := v3_2) (lv' := [(3, .int v3_2), (0, .int v0), (1, .long v1)]) hx hb dX6_pick_10 hl (k := 2) rfl (by rw [ev3_2]; rfl) (by decide) rfl (fun ls hl => ?_)
      refine lv_goto (tgt := 2) hx hb dX6_pick_13 (by decide) ?_
      exact ih hw U (lv_sub hl [1, 2, 0] rfl) h16
set_option maxHeartbeats 4000000 in
set_option maxRecDepth 100000 in
theorem t_X6_pick_19 {p : Program} {l : Launch} {e : Env} {s : State} {m : MethodId} {args : Array Value} {below : List Frame} {meth : Method} {c : Code} {g : uG}  {Q : Int64 → Prop} {v0 : Int32} {v1 : Int64} {v3 : Int32} {A : SA} {B : SB} (C : uC p s m args meth c cX6_pick 7 RX6 wsX6_pick (some .long)) (K : UK g s) :
    ∀ {n : Nat} {v4 : Int32} {H : Heap} {locs : List Loc} {ls : Array Slot}, wp_X6_pick_19  Q v0 v1 v3 A B n v4 → UU g A B s.heap H locs → lv_has ls 7 [(0, .int v0), (1, .long v1), (3, .int v3), (4, .int v4)] →  W p l e rmX6_pick s m args below meth c H locs 0 0 (MQ below (uQl g (fun r A1 B1 => A1 = A ∧ B1 = B ∧ Q r )) args s 0 0 (FA g)) (F0 m 19 ls []) := by
  obtain ⟨hx, hb, hml, hown, hts, hr, hlocks⟩ := id C
  have S : CallFix p m c cX6_pick 7 s args wsX6_pick RX6 := ⟨hx, hb, hml, hown, hts⟩
  intro n
  induction n with
  | zero => intro _ _ _ _ hw; exact False.elim hw
  | succ n ih =>
    intro v4 H locs ls hw U hl 
    refine lv_iload_n hx hb dX6_pick_19 rfl (lv_at hl 0 rfl) ?_
    refine lv_iconst (v := 2) hx hb dX6_pick_20 (by decide) ?_
    refine lv_iload hx hb dX6_pick_21 (lv_at hl 3 rfl) ?_
    refine lv_imul hx hb dX6_pick_23 ?_
    refine lv_iconst (v := 1) hx hb dX6_pick_24 (by decide) ?_
    refine lv_iadd hx hb dX6_pick_25 ?_
    refine u_ci (u_rS (As := [.int v0, .int (((2 : Int32) * v4) + (1 : Int32))]) (rest := []) S K U (c_X6_hash hw) (va_cwS 2 hts gX6_pick_X6_hash rfl rfl rfl (by decide +kernel) ⟨Nat.le_of_ble_eq_true rfl, Nat.le_of_ble_eq_true rfl⟩) rfl hl.1 rfl (Nat.le_of_ble_eq_true rfl) dX6_pick_26 ⟨Nat.zero_le _, Nat.zero_le _⟩) U (fun r_5 A_6 B_7 H locs U9 hw => ?_)
    obtain ⟨eA, eB, hw⟩ := hw
    rw [eA, eB] at U9
    have U := U9
    refine lv_i2l hx hb dX6_pick_29 rfl ?_
    refine lv_bipush (v := 32) hx hb dX6_pick_30 (by decide) ?_
    refine lv_lshl hx hb dX6_pick_32 rfl ?_
    refine lv_iload_n hx hb dX6_pick_33 rfl (lv_at hl 0 rfl) ?_
    refine lv_iconst (v := 2) hx hb dX6_pick_34 (by decide) ?_
    refine lv_iload hx hb dX6_pick_35 (lv_at hl 3 rfl) ?_
    refine lv_imul hx hb dX6_pick_37 ?_
    refine lv_iconst (v := 2) hx hb dX6_pick_38 (by decide) ?_
    refine lv_iadd hx hb dX6_pick_39 ?_
    refine u_ci (u_rS (As := [.int v0, .int (((2 : Int32) * v4) + (2 : Int32))]) (rest := [.long (r_5.toInt64 <<< ((32 : Int32).toInt64 &&& 63))]) S K U (c_X6_hash hw) (va_cwS 2 hts gX6_pick_X6_hash rfl rfl rfl (by decide +kernel) ⟨Nat.le_of_ble_eq_true rfl, Nat.le_of_ble_eq_true rfl⟩) rfl hl.1 rfl (Nat.le_of_ble_eq_true rfl) dX6_pick_40 ⟨Nat.zero_le _, Nat.zero_le _⟩) U (fun r_8 A_9 B_10 H locs U9 hw => ?_)
    obtain ⟨eA, eB, hw⟩ := hw
    rw [eA, eB] at U9
    have U := U9
    refine lv_i2l hx hb dX6_pick_43 rfl ?_
    refine lv_ldc2 (v := 4294967295) hx hb hown (hts (.constantLong RX6 10 (4294967295)) (by decide +kernel)) dX6_pick_44 ?_
    refine lv_land hx hb dX6_pick_47 ?_
    refine lv_lor hx hb dX6_pick_48 ?_
    refine lv_topl (fun x_11 ex_11 => ?_)
    have hw := hw x_11 ex_11
    refine lv_lstore (lv' := [(5, .long x_11), (0, .int v0), (1, .long v1), (3, .int v3), (4, .int v4)]) hx hb dX6_pick_49 hl (by decide) rfl (fun ls hl => ?_)
    refine lv_iload_n hx hb dX6_pick_51 rfl (lv_at hl 3 rfl) ?_
    refine lv_if_ne (tgt := 59) hx hb dX6_pick_52 (by decide) (fun c_12 => ?_) (fun c_12 => ?_)
    · have hw := hw.1 c_12
      refine lv_lload hx hb dX6_pick_59 (lv_at hl 0 rfl) ?_
      refine lv_bipush (v := 64) hx hb dX6_pick_61 (by decide) ?_
      refine lv_iload_n hx hb dX6_pick_63 rfl (lv_at hl 3 rfl) ?_
      refine lv_isub hx hb dX6_pick_64 ?_
      refine lv_lushr hx hb dX6_pick_65 rfl ?_
      refine lv_topl (fun x_13 ex_13 => ?_)
      have hw := hw x_13 ex_13
      refine lv_lstore (lv' := [(5, .long x_13), (0, .int v0), (1, .long v1), (3, .int v3), (4, .int v4)]) hx hb dX6_pick_66 hl (by decide) rfl (fun ls hl => ?_)
      refine lv_lload hx hb dX6_pick_68 (lv_at hl 0 rfl) ?_
      refine lv_lload_n hx hb dX6_pick_70 rfl (lv_at hl 2 rfl) ?_
      refine u_lc_ge (tgt := 78) hx hb dX6_pick_71 dX6_pick_72 (by decide) (fun c_14 => ?_) (fun c_14 => ?_)
      · have hw := hw.1 c_14
        obtain ⟨v4_15, ev4_15⟩ : ∃ y : Int32, y = v4 + 1 := ⟨_, rfl⟩
        have hw := hw v4_15 ev4_15
        refine lv_iinc (v := v4_15) (lv' := [(4, .int v4_15), (5, .long x_13), (0, .int v0), (1, .long v1), (3, .int v3)]) hx hb dX6_pick_78 hl (k := 4) rfl (by rw [ev4_15]; rfl) (by decide) rfl (fun ls hl => ?_)
        refine lv_goto (tgt := 19) hx hb dX6_pick_81 (by decide) ?_
        exact ih hw U (lv_sub hl [2, 3, 4, 0] rfl) 
      · have hw := hw.2 c_14
        refine lv_lload hx hb dX6_pick_75 (lv_at hl 0 rfl) ?_
        exact u_lret hx hb hr hlocks U ⟨rfl, rfl, hw⟩ dX6_pick_77
    · have hw := hw.2 c_12
      refine lv_lconst (v := 0) hx hb dX6_pick_55 (by decide) ?_
      refine lv_goto (tgt := 66) hx hb dX6_pick_56 (by decide) ?_
      refine lv_lstore (lv' := [(5, .long (0 : Int64)), (0, .int v0), (1, .long v1), (3, .int v3), (4, .int v4)]) hx hb dX6_pick_66 hl (by decide) rfl (fun ls hl => ?_)
      refine lv_lload hx hb dX6_pick_68 (lv_at hl 0 rfl) ?_
      refine lv_lload_n hx hb dX6_pick_70 rfl (lv_at hl 2 rfl) ?_
      refine u_lc_ge (tgt := 78) hx hb dX6_pick_71 dX6_pick_72 (by decide) (fun c_16 => ?_) (fun c_16 => ?_)
      · have hw := hw.1 c_16
        obtain ⟨v4_17, ev4_17⟩ : ∃ y : Int32, y = v4 + 1 := ⟨_, rfl⟩
        have hw := hw v4_17 ev4_17
        refine lv_iinc (v := v4_17) (lv' := [(4, .int v4_17), (5, .long (0 : Int64)), (0, .int v0), (1, .long v1), (3, .int v3)]) hx hb dX6_pick_78 hl (k := 4) rfl (by rw [ev4_17]; rfl) (by decide) rfl (fun ls hl => ?_)
        refine lv_goto (tgt := 19) hx hb dX6_pick_81 (by decide) ?_
        exact ih hw U (lv_sub hl [2, 3, 4, 0] rfl) 
      · have hw := hw.2 c_16
        refine lv_lload hx hb dX6_pick_75 (lv_at hl 0 rfl) ?_
        exact u_lret hx hb hr hlocks U ⟨rfl, rfl, hw⟩ dX6_pick_77
set_option maxHeartbeats 4000000 in
set_option maxRecDepth 100000 in
theorem c_X6_pick {l : Launch} {g : uG} {a0 : Int32} {a1 : Int64} {A : SA} {B : SB} {Q : Int64 → Prop} (hw : wp_X6_pick a0 a1 A B Q) : ML l yX6_pick wsX6_pick rmX6_pick g A B [.int a0, .long a1] (fun r A1 B1 => A1 = A ∧ B1 = B ∧ Q r ) := by
  refine u_of (cc := cX6_pick) (maxL := 7) (ret := (some .long)) (by decide) rfl (Nat.le_of_ble_eq_true rfl) ?_
  intro p e s m below meth c ls C K U hl
  obtain ⟨hx, hb, hml, hown, hts, hr, hlocks⟩ := id C
  have S : CallFix p m c cX6_pick 7 s ([.int a0, .long a1] : List Value).toArray wsX6_pick RX6 := ⟨hx, hb, hml, hown, hts⟩
  have hl : lv_has ls 7 [(0, .int a0), (1, .long a1)] := hl
  refine lv_iconst (v := 0) hx hb dX6_pick_0 (by decide) ?_
  refine lv_istore_n (lv' := [(3, .int (0 : Int32)), (0, .int a0), (1, .long a1)]) hx hb dX6_pick_1 rfl hl (by decide) rfl (fun ls hl => ?_)
  obtain ⟨n_3, hw⟩ := hw
  refine t_X6_pick_2 C K hw U (lv_sub hl [1, 2, 0] rfl) (fun v3_4 H locs ls U hl hw => ?_)
  refine lv_iconst (v := 0) hx hb dX6_pick_16 (by decide) ?_
  refine lv_istore (lv' := [(4, .int (0 : Int32)), (0, .int a0), (1, .long a1), (3, .int v3_4)]) hx hb dX6_pick_17 hl (by decide) rfl (fun ls hl => ?_)
  obtain ⟨n_18, hw⟩ := hw
  refine t_X6_pick_19 C K hw U (lv_sub hl [1, 2, 3, 0] rfl) 
set_option maxHeartbeats 4000000 in
set_option maxRecDepth 100000 in
theorem c_X6_in {l : Launch} {g : uG} {a0 : Int64} {a1 : Int64} {a2 : Int64} {A : SA} {B : SB} {Q : Int32 → Prop} (hw : wp_X6_in a0 a1 a2 A B Q) : MI l yX6_in wsX6_in rmX6_in g A B [.long a0, .long a1, .long a2] (fun r A1 B1 => A1 = A ∧ B1 = B ∧ Q r ) := by
  refine u_of (cc := cX6_in) (maxL := 6) (ret := (some .boolean)) (by decide) rfl (Nat.le_of_ble_eq_true rfl) ?_
  intro p e s m below meth c ls C K U hl
  obtain ⟨hx, hb, hml, hown, hts, hr, hlocks⟩ := id C
  have S : CallFix p m c cX6_in 6 s ([.long a0, .long a1, .long a2] : List Value).toArray wsX6_in RX6 := ⟨hx, hb, hml, hown, hts⟩
  have hl : lv_has ls 6 [(0, .long a0), (2, .long a1), (4, .long a2)] := hl
  refine lv_lload_n hx hb dX6_in_0 rfl (lv_at hl 0 rfl) ?_
  refine lv_lload_n hx hb dX6_in_1 rfl (lv_at hl 1 rfl) ?_
  refine u_lc_lt (tgt := 17) hx hb dX6_in_2 dX6_in_3 (by decide) (fun c_1 => ?_) (fun c_1 => ?_)
  · have hw := hw.1 c_1
    refine lv_iconst (v := 0) hx hb dX6_in_17 (by decide) ?_
    exact u_zret hx hb hr hlocks U (by decide +kernel) ⟨rfl, rfl, hw⟩ dX6_in_18
  · have hw := hw.2 c_1
    refine lv_lload_n hx hb dX6_in_6 rfl (lv_at hl 0 rfl) ?_
    refine lv_lload hx hb dX6_in_7 (lv_at hl 2 rfl) ?_
    refine u_lc_gt (tgt := 17) hx hb dX6_in_9 dX6_in_10 (by decide) (fun c_2 => ?_) (fun c_2 => ?_)
    · have hw := hw.1 c_2
      refine lv_iconst (v := 0) hx hb dX6_in_17 (by decide) ?_
      exact u_zret hx hb hr hlocks U (by decide +kernel) ⟨rfl, rfl, hw⟩ dX6_in_18
    · have hw := hw.2 c_2
      refine lv_iconst (v := 1) hx hb dX6_in_13 (by decide) ?_
      refine lv_goto (tgt := 18) hx hb dX6_in_14 (by decide) ?_
      exact u_zret hx hb hr hlocks U (by decide +kernel) ⟨rfl, rfl, hw⟩ dX6_in_18
set_option maxHeartbeats 4000000 in
set_option maxRecDepth 100000 in
theorem t_X6_waysOf_7 {p : Program} {l : Launch} {e : Env} {s : State} {m : MethodId} {args : Array Value} {below : List Frame} {meth : Method} {c : Code} {g : uG} {E62 : Int64 → Prop} {Q : Int64 → Prop} {v1 : Int32} {v2 : Int32} {A : SA} {B : SB} (C : uC p s m args meth c cX6_waysOf 6 RX6 wsX6_waysOf (some .long)) (K : UK g s) :
    ∀ {n : Nat} {v3 : Int64} {v5 : Int32} {H : Heap} {locs : List Loc} {ls : Array Slot}, wp_X6_waysOf_7 E62 Q v1 v2 A B n v3 v5 → UU g A B s.heap H locs → lv_has ls 6 [(0, .ref (g.2.1 5)), (1, .int v1), (2, .int v2), (3, .long v3), (5, .int v5)] → (∀ (v3 : Int64) (H : Heap) (locs : List Loc) (ls : Array Slot), UU g A B s.heap H locs → lv_has ls 6 [(3, .long v3)] → E62 v3 → W p l e rmX6_waysOf s m args below meth c H locs 0 0 (MQ below (uQl g (fun r A1 B1 => A1 = A ∧ B1 = B ∧ Q r )) args s 0 0 (FA g)) (F0 m 62 ls [])) → W p l e rmX6_waysOf s m args below meth c H locs 0 0 (MQ below (uQl g (fun r A1 B1 => A1 = A ∧ B1 = B ∧ Q r )) args s 0 0 (FA g)) (F0 m 7 ls []) := by
  obtain ⟨hx, hb, hml, hown, hts, hr, hlocks⟩ := id C
  have S : CallFix p m c cX6_waysOf 6 s args wsX6_waysOf RX6 := ⟨hx, hb, hml, hown, hts⟩
  intro n
  induction n with
  | zero => intro _ _ _ _ _ hw; exact False.elim hw
  | succ n ih =>
    intro v3 v5 H locs ls hw U hl h62
    refine lv_iload hx hb dX6_waysOf_7 (lv_at hl 4 rfl) ?_
    refine lv_aload_n hx hb dX6_waysOf_9 rfl (lv_at hl 0 rfl) ?_
    refine u_get (C := RX6) (T := TX6) (N := 31) (v := .int (A 5 0)) hx hb hts hX6_waysOf_X6 hown K U 5 5 (by decide) rfl rfl 0 (by decide) (hts (.fieldLink RX6 86 "TrialSearchModel" "names" "I") (by decide +kernel)) rfl rfl dX6_waysOf_10 ?_
    refine lv_icmp_ge (tgt := 62) hx hb dX6_waysOf_13 (by decide) (fun c_2 => ?_) (fun c_2 => ?_)
    · have hw := hw.1 c_2
      exact h62 _ _ _ _ U (lv_sub hl [3] rfl) hw
    · have hw := hw.2 c_2
      refine lv_lload_n hx hb dX6_waysOf_16 rfl (lv_at hl 3 rfl) ?_
      refine lv_aload_n hx hb dX6_waysOf_17 rfl (lv_at hl 0 rfl) ?_
      refine u_get (C := RX6) (T := TX6) (N := 31) (v := .ref (g.2.1 30)) hx hb hts hX6_waysOf_X6 hown K U 5 5 (by decide) rfl rfl 2 (by decide) (hts (.fieldLink RX6 22 "TrialSearchModel" "on" "[I") (by decide +kernel)) rfl rfl dX6_waysOf_18 ?_
      refine lv_iload hx hb dX6_waysOf_21 (lv_at hl 4 rfl) ?_
      obtain ⟨hi_3, hw⟩ := hw
      refine u_iald (k := 30) (v := (A 30 v5.toNatClampNeg)) hx hb K U rfl (by decide) rfl hi_3 rfl dX6_waysOf_23 ?_
      refine lv_iload_n hx hb dX6_waysOf_24 rfl (lv_at hl 1 rfl) ?_
      refine lv_icmp_ne (tgt := 53) hx hb dX6_waysOf_25 (by decide) (fun c_4 => ?_) (fun c_4 => ?_)
      · have hw := hw.1 c_4
        refine lv_lconst (v := 1) hx hb dX6_waysOf_53 (by decide) ?_
        refine lv_lmul hx hb dX6_waysOf_54 ?_
        refine lv_topl (fun x_5 ex_5 => ?_)
        have hw := hw x_5 ex_5
        refine lv_lstore_n (lv' := [(3, .long x_5), (0, .ref (g.2.1 5)), (1, .int v1), (2, .int v2), (5, .int v5)]) hx hb dX6_waysOf_55 rfl hl (by decide) rfl (fun ls hl => ?_)
        obtain ⟨v5_6, ev5_6⟩ : ∃ y : Int32, y = v5 + 1 := ⟨_, rfl⟩
        have hw := hw v5_6 ev5_6
        refine lv_iinc (v := v5_6) (lv' := [(5, .int v5_6), (3, .long x_5), (0, .ref (g.2.1 5)), (1, .int v1), (2, .int v2)]) hx hb dX6_waysOf_56 hl (k := 4) rfl (by rw [ev5_6]; rfl) (by decide) rfl (fun ls hl => ?_)
        refine lv_goto (tgt := 7) hx hb dX6_waysOf_59 (by decide) ?_
        exact ih hw U (lv_sub hl [2, 3, 4, 1, 0] rfl) h62
      · have hw := hw.2 c_4
        refine lv_aload_n hx hb dX6_waysOf_28 rfl (lv_at hl 0 rfl) ?_
        refine u_get (C := RX6) (T := TX6) (N := 31) (v := .ref (g.2.1 31)) hx hb hts hX6_waysOf_X6 hown K U 5 5 (by decide) rfl rfl 3 (by decide) (hts (.fieldLink RX6 25 "TrialSearchModel" "set" "[I") (by decide +kernel)) rfl rfl dX6_waysOf_29 ?_
        refine lv_iload hx hb dX6_waysOf_32 (lv_at hl 4 rfl) ?_
        obtain ⟨hi_7, hw⟩ := hw
        refine u_iald (k := 31) (v := (A 31 v5.toNatClampNeg)) hx hb K U rfl (by decide) rfl hi_7 rfl dX6_waysOf_34 ?_
        refine lv_iload_n hx hb dX6_waysOf_35 rfl (lv_at hl 2 rfl) ?_
        refine lv_ishr hx hb dX6_waysOf_36 ?_
        refine lv_iconst (v := 1) hx hb dX6_waysOf_37 (by decide) ?_
        refine lv_iand hx hb dX6_waysOf_38 ?_
        refine lv_iconst (v := 1) hx hb dX6_waysOf_39 (by decide) ?_
        refine lv_icmp_ne (tgt := 53) hx hb dX6_waysOf_40 (by decide) (fun c_8 => ?_) (fun c_8 => ?_)
        · have hw := hw.1 c_8
          refine lv_lconst (v := 1) hx hb dX6_waysOf_53 (by decide) ?_
          refine lv_lmul hx hb dX6_waysOf_54 ?_
          refine lv_topl (fun x_9 ex_9 => ?_)
          have hw := hw x_9 ex_9
          refine lv_lstore_n (lv' := [(3, .long x_9), (0, .ref (g.2.1 5)), (1, .int v1), (2, .int v2), (5, .int v5)]) hx hb dX6_waysOf_55 rfl hl (by decide) rfl (fun ls hl => ?_)
          obtain ⟨v5_10, ev5_10⟩ : ∃ y : Int32, y = v5 + 1 := ⟨_, rfl⟩
          have hw := hw v5_10 ev5_10
          refine lv_iinc (v := v5_10) (lv' := [(5, .int v5_10), (3, .long x_9), (0, .ref (g.2.1 5)), (1, .int v1), (2, .int v2)]) hx hb dX6_waysOf_56 hl (k := 4) rfl (by rw [ev5_10]; rfl) (by decide) rfl (fun ls hl => ?_)
          refine lv_goto (tgt := 7) hx hb dX6_waysOf_59 (by decide) ?_
          exact ih hw U (lv_sub hl [2, 3, 4, 1, 0] rfl) h62
        · have hw := hw.2 c_8
          refine lv_aload_n hx hb dX6_waysOf_43 rfl (lv_at hl 0 rfl) ?_
          refine u_get (C := RX6) (T := TX6) (N := 31) (v := .ref (g.2.1 32)) hx hb hts hX6_waysOf_X6 hown K U 5 5 (by decide) rfl rfl 4 (by decide) (hts (.fieldLink RX6 28 "TrialSearchModel" "ways" "[J") (by decide +kernel)) rfl rfl dX6_waysOf_44 ?_
          refine lv_iload hx hb dX6_waysOf_47 (lv_at hl 4 rfl) ?_
          obtain ⟨hi_11, hw⟩ := hw
          refine u_lald (k := 32) (v := (B 32 v5.toNatClampNeg)) hx hb K U rfl (by decide) rfl hi_11 rfl dX6_waysOf_49 ?_
          refine lv_goto (tgt := 54) hx hb dX6_waysOf_50 (by decide) ?_
          refine lv_lmul hx hb dX6_waysOf_54 ?_
          refine lv_topl (fun x_12 ex_12 => ?_)
          have hw := hw x_12 ex_12
          refine lv_lstore_n (lv' := [(3, .long x_12), (0, .ref (g.2.1 5)), (1, .int v1), (2, .int v2), (5, .int v5)]) hx hb dX6_waysOf_55 rfl hl (by decide) rfl (fun ls hl => ?_)
          obtain ⟨v5_13, ev5_13⟩ : ∃ y : Int32, y = v5 + 1 := ⟨_, rfl⟩
          have hw := hw v5_13 ev5_13
          refine lv_iinc (v := v5_13) (lv' := [(5, .int v5_13), (3, .long x_12), (0, .ref (g.2.1 5)), (1, .int v1), (2, .int v2)]) hx hb dX6_waysOf_56 hl (k := 4) rfl (by rw [ev5_13]; rfl) (by decide) rfl (fun ls hl => ?_)
          refine lv_goto (tgt := 7) hx hb dX6_waysOf_59 (by decide) ?_
          exact ih hw U (lv_sub hl [2, 3, 4, 1, 0] rfl) h62
set_option maxHeartbeats 4000000 in
set_option maxRecDepth 100000 in
theorem c_X6_waysOf {l : Launch} {g : uG} {a0 : Int32} {a1 : Int32} {A : SA} {B : SB} {Q : Int64 → Prop} (hw : wp_X6_waysOf a0 a1 A B Q) : ML l yX6_waysOf wsX6_waysOf rmX6_waysOf g A B [.ref (g.2.1 5), .int a0, .int a1] (fun r A1 B1 => A1 = A ∧ B1 = B ∧ Q r ) := by
  refine u_of (cc := cX6_waysOf) (maxL := 6) (ret := (some .long)) (by decide) rfl (Nat.le_of_ble_eq_true rfl) ?_
  intro p e s m below meth c ls C K U hl
  obtain ⟨hx, hb, hml, hown, hts, hr, hlocks⟩ := id C
  have S : CallFix p m c cX6_waysOf 6 s ([.ref (g.2.1 5), .int a0, .int a1] : List Value).toArray wsX6_waysOf RX6 := ⟨hx, hb, hml, hown, hts⟩
  have hl : lv_has ls 6 [(0, .ref (g.2.1 5)), (1, .int a0), (2, .int a1)] := hl
  refine lv_lconst (v := 1) hx hb dX6_waysOf_0 (by decide) ?_
  refine lv_lstore_n (lv' := [(3, .long (1 : Int64)), (0, .ref (g.2.1 5)), (1, .int a0), (2, .int a1)]) hx hb dX6_waysOf_1 rfl hl (by decide) rfl (fun ls hl => ?_)
  refine lv_iload_n hx hb dX6_waysOf_2 rfl (lv_at hl 2 rfl) ?_
  refine lv_iconst (v := 1) hx hb dX6_waysOf_3 (by decide) ?_
  refine lv_iadd hx hb dX6_waysOf_4 ?_
  refine lv_topi (fun x_1 ex_1 => ?_)
  have hw := hw x_1 ex_1
  refine lv_istore (lv' := [(5, .int x_1), (3, .long (1 : Int64)), (0, .ref (g.2.1 5)), (1, .int a0), (2, .int a1)]) hx hb dX6_waysOf_5 hl (by decide) rfl (fun ls hl => ?_)
  obtain ⟨n_14, hw⟩ := hw
  refine t_X6_waysOf_7 C K hw U (lv_sub hl [2, 3, 4, 1, 0] rfl) (fun v3_15 H locs ls U hl hw => ?_)
  refine lv_lload_n hx hb dX6_waysOf_62 rfl (lv_at hl 0 rfl) ?_
  exact u_lret hx hb hr hlocks U ⟨rfl, rfl, hw⟩ dX6_waysOf_63
set_option maxHeartbeats 4000000 in
set_option maxRecDepth 100000 in
theorem t_X6_name_134 {p : Program} {l : Launch} {e : Env} {s : State} {m : MethodId} {args : Array Value} {below : List Frame} {meth : Method} {c : Code} {g : uG} {E170 : SB → Prop} {Q : Int32 → SA → SB → Prop} {v4 : Int32} {A : SA} (C : uC p s m args meth c cX6_name 6 RX6 wsX6_name (some .int)) (K : UK g s) :
    ∀ {n : Nat} {v5 : Int32} {B : SB} {H : Heap} {locs : List Loc} {ls : Array Slot}, wp_X6_name_134 E170 Q v4 A n v5 B → UU g A B s.heap H locs → lv_has ls 6 [(0, .ref (g.2.1 5)), (4, .int v4), (5, .int v5)] → (∀ (B : SB) (H : Heap) (locs : List Loc) (ls : Array Slot), UU g A B s.heap H locs → lv_has ls 6 [(0, .ref (g.2.1 5)), (4, .int v4)] → E170 B → W p l e rmX6_name s m args below meth c H locs 0 0 (MQ below (uQi g Q) args s 0 0 (FA g)) (F0 m 170 ls [])) → W p l e rmX6_name s m args below meth c H locs 0 0 (MQ below (uQi g Q) args s 0 0 (FA g)) (F0 m 134 ls []) := by
  obtain ⟨hx, hb, hml, hown, hts, hr, hlocks⟩ := id C
  have S : CallFix p m c cX6_name 6 s args wsX6_name RX6 := ⟨hx, hb, hml, hown, hts⟩
  intro n
  induction n with
  | zero => intro _ _ _ _ _ hw; exact False.elim hw
  | succ n ih =>
    intro v5 B H locs ls hw U hl h170
    refine lv_iload hx hb dX6_name_134 (lv_at hl 2 rfl) ?_
    refine lv_aload_n hx hb dX6_name_136 rfl (lv_at hl 0 rfl) ?_
    refine u_get (C := RX6) (T := TX6) (N := 31) (v := .ref (g.2.1 29)) hx hb hts hX6_name_X6 hown K U 5 5 (by decide) rfl rfl 1 (by decide) (hts (.fieldLink RX6 18 "TrialSearchModel" "many" "[I") (by decide +kernel)) rfl rfl dX6_name_137 ?_
    refine lv_iload hx hb dX6_name_140 (lv_at hl 1 rfl) ?_
    obtain ⟨hi_19, hw⟩ := hw
    refine u_iald (k := 29) (v := (A 29 v4.toNatClampNeg)) hx hb K U rfl (by decide) rfl hi_19 rfl dX6_name_142 ?_
    refine lv_icmp_ge (tgt := 170) hx hb dX6_name_143 (by decide) (fun c_20 => ?_) (fun c_20 => ?_)
    · have hw := hw.1 c_20
      exact h170 _ _ _ _ U (lv_sub hl [0, 1] rfl) hw
    · have hw := hw.2 c_20
      refine lv_aload_n hx hb dX6_name_146 rfl (lv_at hl 0 rfl) ?_
      refine u_get (C := RX6) (T := TX6) (N := 31) (v := .ref (g.2.1 32)) hx hb hts hX6_name_X6 hown K U 5 5 (by decide) rfl rfl 4 (by decide) (hts (.fieldLink RX6 28 "TrialSearchModel" "ways" "[J") (by decide +kernel)) rfl rfl dX6_name_147 ?_
      refine lv_iload hx hb dX6_name_150 (lv_at hl 1 rfl) ?_
      refine lv_dup2_11 hx hb dX6_name_152 rfl rfl ?_
      obtain ⟨hi_21, hw⟩ := hw
      refine u_lald (k := 32) (v := (B 32 v4.toNatClampNeg)) hx hb K U rfl (by decide) rfl hi_21 rfl dX6_name_153 ?_
      refine lv_aload_n hx hb dX6_name_154 rfl (lv_at hl 0 rfl) ?_
      refine lv_iload hx hb dX6_name_155 (lv_at hl 1 rfl) ?_
      refine lv_iload hx hb dX6_name_157 (lv_at hl 2 rfl) ?_
      refine u_cl (u_rV (As := [.int v4, .int v5]) (rest := [.long (B 32 v4.toNatClampNeg), .int v4, .ref (g.2.1 32)]) (C := RX6) S K U 5 5 (by decide) rfl rfl (c_X6_waysOf hw) (cwV 2 hts gX6_name_X6_waysOf rfl rfl rfl (by decide +kernel) ⟨Nat.le_of_ble_eq_true rfl, Nat.le_of_ble_eq_true rfl⟩) rfl hl.1 rfl (Nat.le_of_ble_eq_true rfl) dX6_name_159 ⟨Nat.zero_le _, Nat.zero_le _⟩) U (fun r_22 A_23 B_24 H locs U9 hw => ?_)
      obtain ⟨eA, eB, hw⟩ := hw
      rw [eA, eB] at U9
      have U := U9
      refine lv_ladd hx hb dX6_name_162 ?_
      refine lv_topl (fun x_25 ex_25 => ?_)
      have hw := hw x_25 ex_25
      obtain ⟨hi_26, hw⟩ := hw
      refine u_last (k := 32) hx hb K U rfl (by decide) rfl hi_26 dX6_name_163 (fun H locs U => ?_)
      obtain ⟨v5_27, ev5_27⟩ : ∃ y : Int32, y = v5 + 1 := ⟨_, rfl⟩
      have hw := hw v5_27 ev5_27
      refine lv_iinc (v := v5_27) (lv' := [(5, .int v5_27), (0, .ref (g.2.1 5)), (4, .int v4)]) hx hb dX6_name_164 hl (k := 2) rfl (by rw [ev5_27]; rfl) (by decide) rfl (fun ls hl => ?_)
      refine lv_goto (tgt := 134) hx hb dX6_name_167 (by decide) ?_
      exact ih hw U (lv_sub hl [1, 2, 0] rfl) h170
set_option maxHeartbeats 4000000 in
set_option maxRecDepth 100000 in
theorem t_X6_name_118 {p : Program} {l : Launch} {e : Env} {s : State} {m : MethodId} {args : Array Value} {below : List Frame} {meth : Method} {c : Code} {g : uG} {E176 : SB → Prop} {Q : Int32 → SA → SB → Prop} {A : SA} (C : uC p s m args meth c cX6_name 6 RX6 wsX6_name (some .int)) (K : UK g s) :
    ∀ {n : Nat} {v4 : Int32} {B : SB} {H : Heap} {locs : List Loc} {ls : Array Slot}, wp_X6_name_118 E176 Q A n v4 B → UU g A B s.heap H locs → lv_has ls 6 [(0, .ref (g.2.1 5)), (4, .int v4)] → (∀ (B : SB) (H : Heap) (locs : List Loc) (ls : Array Slot), UU g A B s.heap H locs → lv_has ls 6 [(0, .ref (g.2.1 5))] → E176 B → W p l e rmX6_name s m args below meth c H locs 0 0 (MQ below (uQi g Q) args s 0 0 (FA g)) (F0 m 176 ls [])) → W p l e rmX6_name s m args below meth c H locs 0 0 (MQ below (uQi g Q) args s 0 0 (FA g)) (F0 m 118 ls []) := by
  obtain ⟨hx, hb, hml, hown, hts, hr, hlocks⟩ := id C
  have S : CallFix p m c cX6_name 6 s args wsX6_name RX6 := ⟨hx, hb, hml, hown, hts⟩
  intro n
  induction n with
  | zero => intro _ _ _ _ _ hw; exact False.elim hw
  | succ n ih =>
    intro v4 B H locs ls hw U hl h176
    refine lv_iload hx hb dX6_name_118 (lv_at hl 1 rfl) ?_
    refine lv_if_lt (tgt := 176) hx hb dX6_name_120 (by decide) (fun c_17 => ?_) (fun c_17 => ?_)
    · have hw := hw.1 c_17
      exact h176 _ _ _ _ U (lv_sub hl [0] rfl) hw
    · have hw := hw.2 c_17
      refine lv_aload_n hx hb dX6_name_123 rfl (lv_at hl 0 rfl) ?_
      refine u_get (C := RX6) (T := TX6) (N := 31) (v := .ref (g.2.1 32)) hx hb hts hX6_name_X6 hown K U 5 5 (by decide) rfl rfl 4 (by decide) (hts (.fieldLink RX6 28 "TrialSearchModel" "ways" "[J") (by decide +kernel)) rfl rfl dX6_name_124 ?_
      refine lv_iload hx hb dX6_name_127 (lv_at hl 1 rfl) ?_
      refine lv_lconst (v := 0) hx hb dX6_name_129 (by decide) ?_
      obtain ⟨hi_18, hw⟩ := hw
      refine u_last (k := 32) hx hb K U rfl (by decide) rfl hi_18 dX6_name_130 (fun H locs U => ?_)
      refine lv_iconst (v := 0) hx hb dX6_name_131 (by decide) ?_
      refine lv_istore (lv' := [(5, .int (0 : Int32)), (0, .ref (g.2.1 5)), (4, .int v4)]) hx hb dX6_name_132 hl (by decide) rfl (fun ls hl => ?_)
      obtain ⟨n_28, hw⟩ := hw
      refine t_X6_name_134 C K hw U (lv_sub hl [1, 2, 0] rfl) (fun B_29 H locs ls U hl hw => ?_)
      obtain ⟨v4_30, ev4_30⟩ : ∃ y : Int32, y = v4 + (-1) := ⟨_, rfl⟩
      have hw := hw v4_30 ev4_30
      refine lv_iinc (v := v4_30) (lv' := [(4, .int v4_30), (0, .ref (g.2.1 5))]) hx hb dX6_name_170 hl (k := 1) rfl (by rw [ev4_30]; rfl) (by decide) rfl (fun ls hl => ?_)
      refine lv_goto (tgt := 118) hx hb dX6_name_173 (by decide) ?_
      exact ih hw U (lv_sub hl [1, 0] rfl) h176
set_option maxHeartbeats 4000000 in
set_option maxRecDepth 100000 in
theorem c_X6_name {l : Launch} {g : uG} {a0 : Int32} {a1 : Int32} {a2 : Int32} {A : SA} {B : SB} {Q : Int32 → SA → SB → Prop} (hw : wp_X6_name a0 a1 a2 A B Q) : MI l yX6_name wsX6_name rmX6_name g A B [.ref (g.2.1 5), .int a0, .int a1, .int a2] Q := by
  refine u_of (cc := cX6_name) (maxL := 6) (ret := (some .int)) (by decide) rfl (Nat.le_of_ble_eq_true rfl) ?_
  intro p e s m below meth c ls C K U hl
  obtain ⟨hx, hb, hml, hown, hts, hr, hlocks⟩ := id C
  have S : CallFix p m c cX6_name 6 s ([.ref (g.2.1 5), .int a0, .int a1, .int a2] : List Value).toArray wsX6_name RX6 := ⟨hx, hb, hml, hown, hts⟩
  have hl : lv_has ls 6 [(0, .ref (g.2.1 5)), (1, .int a0), (2, .int a1), (3, .int a2)] := hl
  refine lv_iload_n hx hb dX6_name_0 rfl (lv_at hl 1 rfl) ?_
  refine lv_i2l hx hb dX6_name_1 rfl ?_
  refine lv_lconst (v := 1) hx hb dX6_name_2 (by decide) ?_
  refine lv_ldc2 (v := 30) hx hb hown (hts (.constantLong RX6 78 (30)) (by decide +kernel)) dX6_name_3 ?_
  refine u_ci (u_rS (As := [.long a0.toInt64, .long (1 : Int64), .long (30 : Int64)]) (rest := []) S K U (c_X6_in hw) (va_cwS 3 hts gX6_name_X6_in rfl rfl rfl (by decide +kernel) ⟨Nat.le_of_ble_eq_true rfl, Nat.le_of_ble_eq_true rfl⟩) rfl hl.1 rfl (Nat.le_of_ble_eq_true rfl) dX6_name_6 ⟨Nat.zero_le _, Nat.zero_le _⟩) U (fun r_1 A_2 B_3 H locs U9 hw => ?_)
  obtain ⟨eA, eB, hw⟩ := hw
  rw [eA, eB] at U9
  have U := U9
  refine lv_if_eq (tgt := 46) hx hb dX6_name_9 (by decide) (fun c_4 => ?_) (fun c_4 => ?_)
  · have hw := hw.1 c_4
    refine lv_iconst (v := -1) hx hb dX6_name_46 (by decide) ?_
    exact u_iret hx hb hr hlocks U hw dX6_name_47
  · have hw := hw.2 c_4
    refine lv_iload_n hx hb dX6_name_12 rfl (lv_at hl 2 rfl) ?_
    refine lv_i2l hx hb dX6_name_13 rfl ?_
    refine lv_ldc2 (v := -1) hx hb hown (hts (.constantLong RX6 84 (-1)) (by decide +kernel)) dX6_name_14 ?_
    refine lv_aload_n hx hb dX6_name_17 rfl (lv_at hl 0 rfl) ?_
    refine u_get (C := RX6) (T := TX6) (N := 31) (v := .int (A 5 0)) hx hb hts hX6_name_X6 hown K U 5 5 (by decide) rfl rfl 0 (by decide) (hts (.fieldLink RX6 86 "TrialSearchModel" "names" "I") (by decide +kernel)) rfl rfl dX6_name_18 ?_
    refine lv_iconst (v := 1) hx hb dX6_name_21 (by decide) ?_
    refine lv_isub hx hb dX6_name_22 ?_
    refine lv_i2l hx hb dX6_name_23 rfl ?_
    refine u_ci (u_rS (As := [.long a1.toInt64, .long (-1 : Int64), .long ((A 5 0) - (1 : Int32)).toInt64]) (rest := []) S K U (c_X6_in hw) (va_cwS 3 hts gX6_name_X6_in rfl rfl rfl (by decide +kernel) ⟨Nat.le_of_ble_eq_true rfl, Nat.le_of_ble_eq_true rfl⟩) rfl hl.1 rfl (Nat.le_of_ble_eq_true rfl) dX6_name_24 ⟨Nat.zero_le _, Nat.zero_le _⟩) U (fun r_5 A_6 B_7 H locs U9 hw => ?_)
    obtain ⟨eA, eB, hw⟩ := hw
    rw [eA, eB] at U9
    have U := U9
    refine lv_if_eq (tgt := 46) hx hb dX6_name_27 (by decide) (fun c_8 => ?_) (fun c_8 => ?_)
    · have hw := hw.1 c_8
      refine lv_iconst (v := -1) hx hb dX6_name_46 (by decide) ?_
      exact u_iret hx hb hr hlocks U hw dX6_name_47
    · have hw := hw.2 c_8
      refine lv_iload_n hx hb dX6_name_30 rfl (lv_at hl 2 rfl) ?_
      refine lv_if_lt (tgt := 48) hx hb dX6_name_31 (by decide) (fun c_9 => ?_) (fun c_9 => ?_)
      · have hw := hw.1 c_9
        refine lv_aload_n hx hb dX6_name_48 rfl (lv_at hl 0 rfl) ?_
        refine u_get (C := RX6) (T := TX6) (N := 31) (v := .int (A 5 6)) hx hb hts hX6_name_X6 hown K U 5 5 (by decide) rfl rfl 6 (by decide) (hts (.fieldLink RX6 92 "TrialSearchModel" "trials" "I") (by decide +kernel)) rfl rfl dX6_name_49 ?_
        refine lv_if_le (tgt := 58) hx hb dX6_name_52 (by decide) (fun c_10 => ?_) (fun c_10 => ?_)
        · have hw := hw.1 c_10
          refine lv_aload_n hx hb dX6_name_58 rfl (lv_at hl 0 rfl) ?_
          refine u_get (C := RX6) (T := TX6) (N := 31) (v := .int (A 5 0)) hx hb hts hX6_name_X6 hown K U 5 5 (by decide) rfl rfl 0 (by decide) (hts (.fieldLink RX6 86 "TrialSearchModel" "names" "I") (by decide +kernel)) rfl rfl dX6_name_59 ?_
          refine lv_bipush (v := 8) hx hb dX6_name_62 (by decide) ?_
          refine lv_icmp_ne (tgt := 70) hx hb dX6_name_64 (by decide) (fun c_11 => ?_) (fun c_11 => ?_)
          · have hw := hw.1 c_11
            refine lv_aload_n hx hb dX6_name_70 rfl (lv_at hl 0 rfl) ?_
            refine u_get (C := RX6) (T := TX6) (N := 31) (v := .ref (g.2.1 29)) hx hb hts hX6_name_X6 hown K U 5 5 (by decide) rfl rfl 1 (by decide) (hts (.fieldLink RX6 18 "TrialSearchModel" "many" "[I") (by decide +kernel)) rfl rfl dX6_name_71 ?_
            refine lv_aload_n hx hb dX6_name_74 rfl (lv_at hl 0 rfl) ?_
            refine u_get (C := RX6) (T := TX6) (N := 31) (v := .int (A 5 0)) hx hb hts hX6_name_X6 hown K U 5 5 (by decide) rfl rfl 0 (by decide) (hts (.fieldLink RX6 86 "TrialSearchModel" "names" "I") (by decide +kernel)) rfl rfl dX6_name_75 ?_
            refine lv_iload_n hx hb dX6_name_78 rfl (lv_at hl 1 rfl) ?_
            obtain ⟨hi_12, hw⟩ := hw
            refine u_iast (k := 29) hx hb K U rfl (by decide) rfl hi_12 dX6_name_79 (fun H locs U => ?_)
            refine lv_aload_n hx hb dX6_name_80 rfl (lv_at hl 0 rfl) ?_
            refine u_get (C := RX6) (T := TX6) (N := 31) (v := .ref (g.2.1 30)) hx hb hts hX6_name_X6 hown K U 5 5 (by decide) rfl rfl 2 (by decide) (hts (.fieldLink RX6 22 "TrialSearchModel" "on" "[I") (by decide +kernel)) rfl rfl dX6_name_81 ?_
            refine lv_aload_n hx hb dX6_name_84 rfl (lv_at hl 0 rfl) ?_
            refine u_get (C := RX6) (T := TX6) (N := 31) (v := .int (A 5 0)) hx hb hts hX6_name_X6 hown K U 5 5 (by decide) rfl rfl 0 (by decide) (hts (.fieldLink RX6 86 "TrialSearchModel" "names" "I") (by decide +kernel)) rfl rfl dX6_name_85 ?_
            refine lv_iload_n hx hb dX6_name_88 rfl (lv_at hl 2 rfl) ?_
            obtain ⟨hi_13, hw⟩ := hw
            refine u_iast (k := 30) hx hb K U rfl (by decide) rfl hi_13 dX6_name_89 (fun H locs U => ?_)
            refine lv_aload_n hx hb dX6_name_90 rfl (lv_at hl 0 rfl) ?_
            refine u_get (C := RX6) (T := TX6) (N := 31) (v := .ref (g.2.1 31)) hx hb hts hX6_name_X6 hown K U 5 5 (by decide) rfl rfl 3 (by decide) (hts (.fieldLink RX6 25 "TrialSearchModel" "set" "[I") (by decide +kernel)) rfl rfl dX6_name_91 ?_
            refine lv_aload_n hx hb dX6_name_94 rfl (lv_at hl 0 rfl) ?_
            refine u_get (C := RX6) (T := TX6) (N := 31) (v := .int (A 5 0)) hx hb hts hX6_name_X6 hown K U 5 5 (by decide) rfl rfl 0 (by decide) (hts (.fieldLink RX6 86 "TrialSearchModel" "names" "I") (by decide +kernel)) rfl rfl dX6_name_95 ?_
            refine lv_iload_n hx hb dX6_name_98 rfl (lv_at hl 3 rfl) ?_
            obtain ⟨hi_14, hw⟩ := hw
            refine u_iast (k := 31) hx hb K U rfl (by decide) rfl hi_14 dX6_name_99 (fun H locs U => ?_)
            refine lv_aload_n hx hb dX6_name_100 rfl (lv_at hl 0 rfl) ?_
            refine lv_dup hx hb dX6_name_101 rfl ?_
            refine u_get (C := RX6) (T := TX6) (N := 31) (v := .int (A 5 0)) hx hb hts hX6_name_X6 hown K U 5 5 (by decide) rfl rfl 0 (by decide) (hts (.fieldLink RX6 86 "TrialSearchModel" "names" "I") (by decide +kernel)) rfl rfl dX6_name_102 ?_
            refine lv_iconst (v := 1) hx hb dX6_name_105 (by decide) ?_
            refine lv_iadd hx hb dX6_name_106 ?_
            refine lv_topi (fun x_15 ex_15 => ?_)
            have hw := hw x_15 ex_15
            refine u_puti (ty := .int) (C := RX6) (T := TX6) (N := 31) hx hb hts hX6_name_X6 tyX6 tyX6_ok nmX6 hown K U 5 5 (by decide) rfl rfl 0 (by decide) (hts (.fieldLink RX6 86 "TrialSearchModel" "names" "I") (by decide +kernel)) rfl rfl (by decide +kernel) rfl rfl (Nat.le_of_ble_eq_true rfl) rfl dX6_name_107 (fun H locs U => ?_)
            refine lv_aload_n hx hb dX6_name_110 rfl (lv_at hl 0 rfl) ?_
            refine u_get (C := RX6) (T := TX6) (N := 31) (v := .int x_15) hx hb hts hX6_name_X6 hown K U 5 5 (by decide) rfl rfl 0 (by decide) (hts (.fieldLink RX6 86 "TrialSearchModel" "names" "I") (by decide +kernel)) rfl rfl dX6_name_111 ?_
            refine lv_iconst (v := 1) hx hb dX6_name_114 (by decide) ?_
            refine lv_isub hx hb dX6_name_115 ?_
            refine lv_topi (fun x_16 ex_16 => ?_)
            have hw := hw x_16 ex_16
            refine lv_istore (lv' := [(4, .int x_16), (0, .ref (g.2.1 5)), (1, .int a0), (2, .int a1), (3, .int a2)]) hx hb dX6_name_116 hl (by decide) rfl (fun ls hl => ?_)
            obtain ⟨n_31, hw⟩ := hw
            refine t_X6_name_118 C K hw U (lv_sub hl [1, 0] rfl) (fun B_32 H locs ls U hl hw => ?_)
            refine lv_aload_n hx hb dX6_name_176 rfl (lv_at hl 0 rfl) ?_
            refine u_get (C := RX6) (T := TX6) (N := 31) (v := .int x_15) hx hb hts hX6_name_X6 hown K U 5 5 (by decide) rfl rfl 0 (by decide) (hts (.fieldLink RX6 86 "TrialSearchModel" "names" "I") (by decide +kernel)) rfl rfl dX6_name_177 ?_
            refine lv_iconst (v := 1) hx hb dX6_name_180 (by decide) ?_
            refine lv_isub hx hb dX6_name_181 ?_
            exact u_iret hx hb hr hlocks U hw dX6_name_182
          · have hw := hw.2 c_11
            refine lv_bipush (v := -4) hx hb dX6_name_67 (by decide) ?_
            exact u_iret hx hb hr hlocks U hw dX6_name_69
        · have hw := hw.2 c_10
          refine lv_bipush (v := -3) hx hb dX6_name_55 (by decide) ?_
          exact u_iret hx hb hr hlocks U hw dX6_name_57
      · have hw := hw.2 c_9
        refine lv_iload_n hx hb dX6_name_34 rfl (lv_at hl 3 rfl) ?_
        refine lv_i2l hx hb dX6_name_35 rfl ?_
        refine lv_lconst (v := 1) hx hb dX6_name_36 (by decide) ?_
        refine lv_ldc2 (v := 1073741823) hx hb hown (hts (.constantLong RX6 90 (1073741823)) (by decide +kernel)) dX6_name_37 ?_
        refine u_ci (u_rS (As := [.long a2.toInt64, .long (1 : Int64), .long (1073741823 : Int64)]) (rest := []) S K U (c_X6_in hw) (va_cwS 3 hts gX6_name_X6_in rfl rfl rfl (by decide +kernel) ⟨Nat.le_of_ble_eq_true rfl, Nat.le_of_ble_eq_true rfl⟩) rfl hl.1 rfl (Nat.le_of_ble_eq_true rfl) dX6_name_40 ⟨Nat.zero_le _, Nat.zero_le _⟩) U (fun r_33 A_34 B_35 H locs U9 hw => ?_)
        obtain ⟨eA, eB, hw⟩ := hw
        rw [eA, eB] at U9
        have U := U9
        refine lv_if_ne (tgt := 48) hx hb dX6_name_43 (by decide) (fun c_36 => ?_) (fun c_36 => ?_)
        · have hw := hw.1 c_36
          refine lv_aload_n hx hb dX6_name_48 rfl (lv_at hl 0 rfl) ?_
          refine u_get (C := RX6) (T := TX6) (N := 31) (v := .int (A 5 6)) hx hb hts hX6_name_X6 hown K U 5 5 (by decide) rfl rfl 6 (by decide) (hts (.fieldLink RX6 92 "TrialSearchModel" "trials" "I") (by decide +kernel)) rfl rfl dX6_name_49 ?_
          refine lv_if_le (tgt := 58) hx hb dX6_name_52 (by decide) (fun c_37 => ?_) (fun c_37 => ?_)
          · have hw := hw.1 c_37
            refine lv_aload_n hx hb dX6_name_58 rfl (lv_at hl 0 rfl) ?_
            refine u_get (C := RX6) (T := TX6) (N := 31) (v := .int (A 5 0)) hx hb hts hX6_name_X6 hown K U 5 5 (by decide) rfl rfl 0 (by decide) (hts (.fieldLink RX6 86 "TrialSearchModel" "names" "I") (by decide +kernel)) rfl rfl dX6_name_59 ?_
            refine lv_bipush (v := 8) hx hb dX6_name_62 (by decide) ?_
            refine lv_icmp_ne (tgt := 70) hx hb dX6_name_64 (by decide) (fun c_38 => ?_) (fun c_38 => ?_)
            · have hw := hw.1 c_38
              refine lv_aload_n hx hb dX6_name_70 rfl (lv_at hl 0 rfl) ?_
              refine u_get (C := RX6) (T := TX6) (N := 31) (v := .ref (g.2.1 29)) hx hb hts hX6_name_X6 hown K U 5 5 (by decide) rfl rfl 1 (by decide) (hts (.fieldLink RX6 18 "TrialSearchModel" "many" "[I") (by decide +kernel)) rfl rfl dX6_name_71 ?_
              refine lv_aload_n hx hb dX6_name_74 rfl (lv_at hl 0 rfl) ?_
              refine u_get (C := RX6) (T := TX6) (N := 31) (v := .int (A 5 0)) hx hb hts hX6_name_X6 hown K U 5 5 (by decide) rfl rfl 0 (by decide) (hts (.fieldLink RX6 86 "TrialSearchModel" "names" "I") (by decide +kernel)) rfl rfl dX6_name_75 ?_
              refine lv_iload_n hx hb dX6_name_78 rfl (lv_at hl 1 rfl) ?_
              obtain ⟨hi_39, hw⟩ := hw
              refine u_iast (k := 29) hx hb K U rfl (by decide) rfl hi_39 dX6_name_79 (fun H locs U => ?_)
              refine lv_aload_n hx hb dX6_name_80 rfl (lv_at hl 0 rfl) ?_
              refine u_get (C := RX6) (T := TX6) (N := 31) (v := .ref (g.2.1 30)) hx hb hts hX6_name_X6 hown K U 5 5 (by decide) rfl rfl 2 (by decide) (hts (.fieldLink RX6 22 "TrialSearchModel" "on" "[I") (by decide +kernel)) rfl rfl dX6_name_81 ?_
              refine lv_aload_n hx hb dX6_name_84 rfl (lv_at hl 0 rfl) ?_
              refine u_get (C := RX6) (T := TX6) (N := 31) (v := .int (A 5 0)) hx hb hts hX6_name_X6 hown K U 5 5 (by decide) rfl rfl 0 (by decide) (hts (.fieldLink RX6 86 "TrialSearchModel" "names" "I") (by decide +kernel)) rfl rfl dX6_name_85 ?_
              refine lv_iload_n hx hb dX6_name_88 rfl (lv_at hl 2 rfl) ?_
              obtain ⟨hi_40, hw⟩ := hw
              refine u_iast (k := 30) hx hb K U rfl (by decide) rfl hi_40 dX6_name_89 (fun H locs U => ?_)
              refine lv_aload_n hx hb dX6_name_90 rfl (lv_at hl 0 rfl) ?_
              refine u_get (C := RX6) (T := TX6) (N := 31) (v := .ref (g.2.1 31)) hx hb hts hX6_name_X6 hown K U 5 5 (by decide) rfl rfl 3 (by decide) (hts (.fieldLink RX6 25 "TrialSearchModel" "set" "[I") (by decide +kernel)) rfl rfl dX6_name_91 ?_
              refine lv_aload_n hx hb dX6_name_94 rfl (lv_at hl 0 rfl) ?_
              refine u_get (C := RX6) (T := TX6) (N := 31) (v := .int (A 5 0)) hx hb hts hX6_name_X6 hown K U 5 5 (by decide) rfl rfl 0 (by decide) (hts (.fieldLink RX6 86 "TrialSearchModel" "names" "I") (by decide +kernel)) rfl rfl dX6_name_95 ?_
              refine lv_iload_n hx hb dX6_name_98 rfl (lv_at hl 3 rfl) ?_
              obtain ⟨hi_41, hw⟩ := hw
              refine u_iast (k := 31) hx hb K U rfl (by decide) rfl hi_41 dX6_name_99 (fun H locs U => ?_)
              refine lv_aload_n hx hb dX6_name_100 rfl (lv_at hl 0 rfl) ?_
              refine lv_dup hx hb dX6_name_101 rfl ?_
              refine u_get (C := RX6) (T := TX6) (N := 31) (v := .int (A 5 0)) hx hb hts hX6_name_X6 hown K U 5 5 (by decide) rfl rfl 0 (by decide) (hts (.fieldLink RX6 86 "TrialSearchModel" "names" "I") (by decide +kernel)) rfl rfl dX6_name_102 ?_
              refine lv_iconst (v := 1) hx hb dX6_name_105 (by decide) ?_
              refine lv_iadd hx hb dX6_name_106 ?_
              refine lv_topi (fun x_42 ex_42 => ?_)
              have hw := hw x_42 ex_42
              refine u_puti (ty := .int) (C := RX6) (T := TX6) (N := 31) hx hb hts hX6_name_X6 tyX6 tyX6_ok nmX6 hown K U 5 5 (by decide) rfl rfl 0 (by decide) (hts (.fieldLink RX6 86 "TrialSearchModel" "names" "I") (by decide +kernel)) rfl rfl (by decide +kernel) rfl rfl (Nat.le_of_ble_eq_true rfl) rfl dX6_name_107 (fun H locs U => ?_)
              refine lv_aload_n hx hb dX6_name_110 rfl (lv_at hl 0 rfl) ?_
              refine u_get (C := RX6) (T := TX6) (N := 31) (v := .int x_42) hx hb hts hX6_name_X6 hown K U 5 5 (by decide) rfl rfl 0 (by decide) (hts (.fieldLink RX6 86 "TrialSearchModel" "names" "I") (by decide +kernel)) rfl rfl dX6_name_111 ?_
              refine lv_iconst (v := 1) hx hb dX6_name_114 (by decide) ?_
              refine lv_isub hx hb dX6_name_115 ?_
              refine lv_topi (fun x_43 ex_43 => ?_)
              have hw := hw x_43 ex_43
              refine lv_istore (lv' := [(4, .int x_43), (0, .ref (g.2.1 5)), (1, .int a0), (2, .int a1), (3, .int a2)]) hx hb dX6_name_116 hl (by decide) rfl (fun ls hl => ?_)
              obtain ⟨n_44, hw⟩ := hw
              refine t_X6_name_118 C K hw U (lv_sub hl [1, 0] rfl) (fun B_45 H locs ls U hl hw => ?_)
              refine lv_aload_n hx hb dX6_name_176 rfl (lv_at hl 0 rfl) ?_
              refine u_get (C := RX6) (T := TX6) (N := 31) (v := .int x_42) hx hb hts hX6_name_X6 hown K U 5 5 (by decide) rfl rfl 0 (by decide) (hts (.fieldLink RX6 86 "TrialSearchModel" "names" "I") (by decide +kernel)) rfl rfl dX6_name_177 ?_
              refine lv_iconst (v := 1) hx hb dX6_name_180 (by decide) ?_
              refine lv_isub hx hb dX6_name_181 ?_
              exact u_iret hx hb hr hlocks U hw dX6_name_182
            · have hw := hw.2 c_38
              refine lv_bipush (v := -4) hx hb dX6_name_67 (by decide) ?_
              exact u_iret hx hb hr hlocks U hw dX6_name_69
          · have hw := hw.2 c_37
            refine lv_bipush (v := -3) hx hb dX6_name_55 (by decide) ?_
            exact u_iret hx hb hr hlocks U hw dX6_name_57
        · have hw := hw.2 c_36
          refine lv_iconst (v := -1) hx hb dX6_name_46 (by decide) ?_
          exact u_iret hx hb hr hlocks U hw dX6_name_47
set_option maxHeartbeats 4000000 in
set_option maxRecDepth 100000 in
theorem t_X6_points_4 {p : Program} {l : Launch} {e : Env} {s : State} {m : MethodId} {args : Array Value} {below : List Frame} {meth : Method} {c : Code} {g : uG} {E40 : Int64 → Prop} {Q : Int64 → Prop} {A : SA} {B : SB} (C : uC p s m args meth c cX6_points 4 RX6 wsX6_points (some .long)) (K : UK g s) :
    ∀ {n : Nat} {v1 : Int64} {v3 : Int32} {H : Heap} {locs : List Loc} {ls : Array Slot}, wp_X6_points_4 E40 Q A B n v1 v3 → UU g A B s.heap H locs → lv_has ls 4 [(0, .ref (g.2.1 5)), (1, .long v1), (3, .int v3)] → (∀ (v1 : Int64) (H : Heap) (locs : List Loc) (ls : Array Slot), UU g A B s.heap H locs → lv_has ls 4 [(1, .long v1)] → E40 v1 → W p l e rmX6_points s m args below meth c H locs 0 0 (MQ below (uQl g (fun r A1 B1 => A1 = A ∧ B1 = B ∧ Q r )) args s 0 0 (FA g)) (F0 m 40 ls [])) → W p l e rmX6_points s m args below meth c H locs 0 0 (MQ below (uQl g (fun r A1 B1 => A1 = A ∧ B1 = B ∧ Q r )) args s 0 0 (FA g)) (F0 m 4 ls []) := by
  obtain ⟨hx, hb, hml, hown, hts, hr, hlocks⟩ := id C
  have S : CallFix p m c cX6_points 4 s args wsX6_points RX6 := ⟨hx, hb, hml, hown, hts⟩
  intro n
  induction n with
  | zero => intro _ _ _ _ _ hw; exact False.elim hw
  | succ n ih =>
    intro v1 v3 H locs ls hw U hl h40
    refine lv_iload_n hx hb dX6_points_4 rfl (lv_at hl 2 rfl) ?_
    refine lv_aload_n hx hb dX6_points_5 rfl (lv_at hl 0 rfl) ?_
    refine u_get (C := RX6) (T := TX6) (N := 31) (v := .int (A 5 0)) hx hb hts hX6_points_X6 hown K U 5 5 (by decide) rfl rfl 0 (by decide) (hts (.fieldLink RX6 86 "TrialSearchModel" "names" "I") (by decide +kernel)) rfl rfl dX6_points_6 ?_
    refine lv_icmp_ge (tgt := 40) hx hb dX6_points_9 (by decide) (fun c_1 => ?_) (fun c_1 => ?_)
    · have hw := hw.1 c_1
      exact h40 _ _ _ _ U (lv_sub hl [1] rfl) hw
    · have hw := hw.2 c_1
      refine lv_lload_n hx hb dX6_points_12 rfl (lv_at hl 1 rfl) ?_
      refine lv_aload_n hx hb dX6_points_13 rfl (lv_at hl 0 rfl) ?_
      refine u_get (C := RX6) (T := TX6) (N := 31) (v := .ref (g.2.1 30)) hx hb hts hX6_points_X6 hown K U 5 5 (by decide) rfl rfl 2 (by decide) (hts (.fieldLink RX6 22 "TrialSearchModel" "on" "[I") (by decide +kernel)) rfl rfl dX6_points_14 ?_
      refine lv_iload_n hx hb dX6_points_17 rfl (lv_at hl 2 rfl) ?_
      obtain ⟨hi_2, hw⟩ := hw
      refine u_iald (k := 30) (v := (A 30 v3.toNatClampNeg)) hx hb K U rfl (by decide) rfl hi_2 rfl dX6_points_18 ?_
      refine lv_if_ge (tgt := 31) hx hb dX6_points_19 (by decide) (fun c_3 => ?_) (fun c_3 => ?_)
      · have hw := hw.1 c_3
        refine lv_lconst (v := 1) hx hb dX6_points_31 (by decide) ?_
        refine lv_lmul hx hb dX6_points_32 ?_
        refine lv_topl (fun x_4 ex_4 => ?_)
        have hw := hw x_4 ex_4
        refine lv_lstore_n (lv' := [(1, .long x_4), (0, .ref (g.2.1 5)), (3, .int v3)]) hx hb dX6_points_33 rfl hl (by decide) rfl (fun ls hl => ?_)
        obtain ⟨v3_5, ev3_5⟩ : ∃ y : Int32, y = v3 + 1 := ⟨_, rfl⟩
        have hw := hw v3_5 ev3_5
        refine lv_iinc (v := v3_5) (lv' := [(3, .int v3_5), (1, .long x_4), (0, .ref (g.2.1 5))]) hx hb dX6_points_34 hl (k := 2) rfl (by rw [ev3_5]; rfl) (by decide) rfl (fun ls hl => ?_)
        refine lv_goto (tgt := 4) hx hb dX6_points_37 (by decide) ?_
        exact ih hw U (lv_sub hl [2, 1, 0] rfl) h40
      · have hw := hw.2 c_3
        refine lv_aload_n hx hb dX6_points_22 rfl (lv_at hl 0 rfl) ?_
        refine u_get (C := RX6) (T := TX6) (N := 31) (v := .ref (g.2.1 32)) hx hb hts hX6_points_X6 hown K U 5 5 (by decide) rfl rfl 4 (by decide) (hts (.fieldLink RX6 28 "TrialSearchModel" "ways" "[J") (by decide +kernel)) rfl rfl dX6_points_23 ?_
        refine lv_iload_n hx hb dX6_points_26 rfl (lv_at hl 2 rfl) ?_
        obtain ⟨hi_6, hw⟩ := hw
        refine u_lald (k := 32) (v := (B 32 v3.toNatClampNeg)) hx hb K U rfl (by decide) rfl hi_6 rfl dX6_points_27 ?_
        refine lv_goto (tgt := 32) hx hb dX6_points_28 (by decide) ?_
        refine lv_lmul hx hb dX6_points_32 ?_
        refine lv_topl (fun x_7 ex_7 => ?_)
        have hw := hw x_7 ex_7
        refine lv_lstore_n (lv' := [(1, .long x_7), (0, .ref (g.2.1 5)), (3, .int v3)]) hx hb dX6_points_33 rfl hl (by decide) rfl (fun ls hl => ?_)
        obtain ⟨v3_8, ev3_8⟩ : ∃ y : Int32, y = v3 + 1 := ⟨_, rfl⟩
        have hw := hw v3_8 ev3_8
        refine lv_iinc (v := v3_8) (lv' := [(3, .int v3_8), (1, .long x_7), (0, .ref (g.2.1 5))]) hx hb dX6_points_34 hl (k := 2) rfl (by rw [ev3_8]; rfl) (by decide) rfl (fun ls hl => ?_)
        refine lv_goto (tgt := 4) hx hb dX6_points_37 (by decide) ?_
        exact ih hw U (lv_sub hl [2, 1, 0] rfl) h40
set_option maxHeartbeats 4000000 in
set_option maxRecDepth 100000 in
theorem c_X6_points {l : Launch} {g : uG}  {A : SA} {B : SB} {Q : Int64 → Prop} (hw : wp_X6_points  A B Q) : ML l yX6_points wsX6_points rmX6_points g A B [.ref (g.2.1 5)] (fun r A1 B1 => A1 = A ∧ B1 = B ∧ Q r ) := by
  refine u_of (cc := cX6_points) (maxL := 4) (ret := (some .long)) (by decide) rfl (Nat.le_of_ble_eq_true rfl) ?_
  intro p e s m below meth c ls C K U hl
  obtain ⟨hx, hb, hml, hown, hts, hr, hlocks⟩ := id C
  have S : CallFix p m c cX6_points 4 s ([.ref (g.2.1 5)] : List Value).toArray wsX6_points RX6 := ⟨hx, hb, hml, hown, hts⟩
  have hl : lv_has ls 4 [(0, .ref (g.2.1 5))] := hl
  refine lv_lconst (v := 1) hx hb dX6_points_0 (by decide) ?_
  refine lv_lstore_n (lv' := [(1, .long (1 : Int64)), (0, .ref (g.2.1 5))]) hx hb dX6_points_1 rfl hl (by decide) rfl (fun ls hl => ?_)
  refine lv_iconst (v := 0) hx hb dX6_points_2 (by decide) ?_
  refine lv_istore_n (lv' := [(3, .int (0 : Int32)), (1, .long (1 : Int64)), (0, .ref (g.2.1 5))]) hx hb dX6_points_3 rfl hl (by decide) rfl (fun ls hl => ?_)
  obtain ⟨n_9, hw⟩ := hw
  refine t_X6_points_4 C K hw U (lv_sub hl [2, 1, 0] rfl) (fun v1_10 H locs ls U hl hw => ?_)
  refine lv_lload_n hx hb dX6_points_40 rfl (lv_at hl 0 rfl) ?_
  exact u_lret hx hb hr hlocks U ⟨rfl, rfl, hw⟩ dX6_points_41
set_option maxHeartbeats 4000000 in
set_option maxRecDepth 100000 in
theorem c_X6_isThere {l : Launch} {g : uG} {a0 : Int32} {a1 : Int32} {A : SA} {B : SB} {Q : Int32 → Prop} (hw : wp_X6_isThere a0 a1 A B Q) : MI l yX6_isThere wsX6_isThere rmX6_isThere g A B [.ref (g.2.1 5), .int a0, .int a1] (fun r A1 B1 => A1 = A ∧ B1 = B ∧ Q r ) := by
  refine u_of (cc := cX6_isThere) (maxL := 3) (ret := (some .boolean)) (by decide) rfl (Nat.le_of_ble_eq_true rfl) ?_
  intro p e s m below meth c ls C K U hl
  obtain ⟨hx, hb, hml, hown, hts, hr, hlocks⟩ := id C
  have S : CallFix p m c cX6_isThere 3 s ([.ref (g.2.1 5), .int a0, .int a1] : List Value).toArray wsX6_isThere RX6 := ⟨hx, hb, hml, hown, hts⟩
  have hl : lv_has ls 3 [(0, .ref (g.2.1 5)), (1, .int a0), (2, .int a1)] := hl
  refine lv_aload_n hx hb dX6_isThere_0 rfl (lv_at hl 0 rfl) ?_
  refine u_get (C := RX6) (T := TX6) (N := 31) (v := .ref (g.2.1 30)) hx hb hts hX6_isThere_X6 hown K U 5 5 (by decide) rfl rfl 2 (by decide) (hts (.fieldLink RX6 22 "TrialSearchModel" "on" "[I") (by decide +kernel)) rfl rfl dX6_isThere_1 ?_
  refine lv_iload_n hx hb dX6_isThere_4 rfl (lv_at hl 2 rfl) ?_
  obtain ⟨hi_1, hw⟩ := hw
  refine u_iald (k := 30) (v := (A 30 a1.toNatClampNeg)) hx hb K U rfl (by decide) rfl hi_1 rfl dX6_isThere_5 ?_
  refine lv_if_lt (tgt := 51) hx hb dX6_isThere_6 (by decide) (fun c_2 => ?_) (fun c_2 => ?_)
  · have hw := hw.1 c_2
    refine lv_iconst (v := 1) hx hb dX6_isThere_51 (by decide) ?_
    refine lv_goto (tgt := 56) hx hb dX6_isThere_52 (by decide) ?_
    exact u_zret hx hb hr hlocks U (by decide +kernel) ⟨rfl, rfl, hw⟩ dX6_isThere_56
  · have hw := hw.2 c_2
    refine lv_aload_n hx hb dX6_isThere_9 rfl (lv_at hl 0 rfl) ?_
    refine u_get (C := RX6) (T := TX6) (N := 31) (v := .ref (g.2.1 33)) hx hb hts hX6_isThere_X6 hown K U 5 5 (by decide) rfl rfl 5 (by decide) (hts (.fieldLink RX6 32 "TrialSearchModel" "values" "[I") (by decide +kernel)) rfl rfl dX6_isThere_10 ?_
    refine lv_iload_n hx hb dX6_isThere_13 rfl (lv_at hl 1 rfl) ?_
    refine lv_aload_n hx hb dX6_isThere_14 rfl (lv_at hl 0 rfl) ?_
    refine u_get (C := RX6) (T := TX6) (N := 31) (v := .ref (g.2.1 30)) hx hb hts hX6_isThere_X6 hown K U 5 5 (by decide) rfl rfl 2 (by decide) (hts (.fieldLink RX6 22 "TrialSearchModel" "on" "[I") (by decide +kernel)) rfl rfl dX6_isThere_15 ?_
    refine lv_iload_n hx hb dX6_isThere_18 rfl (lv_at hl 2 rfl) ?_
    obtain ⟨hi_3, hw⟩ := hw
    refine u_iald (k := 30) (v := (A 30 a1.toNatClampNeg)) hx hb K U rfl (by decide) rfl hi_3 rfl dX6_isThere_19 ?_
    refine lv_iadd hx hb dX6_isThere_20 ?_
    refine lv_topi (fun x_4 ex_4 => ?_)
    have hw := hw x_4 ex_4
    obtain ⟨hi_5, hw⟩ := hw
    refine u_iald (k := 33) (v := (A 33 x_4.toNatClampNeg)) hx hb K U rfl (by decide) rfl hi_5 rfl dX6_isThere_21 ?_
    refine lv_if_lt (tgt := 55) hx hb dX6_isThere_22 (by decide) (fun c_6 => ?_) (fun c_6 => ?_)
    · have hw := hw.1 c_6
      refine lv_iconst (v := 0) hx hb dX6_isThere_55 (by decide) ?_
      exact u_zret hx hb hr hlocks U (by decide +kernel) ⟨rfl, rfl, hw⟩ dX6_isThere_56
    · have hw := hw.2 c_6
      refine lv_aload_n hx hb dX6_isThere_25 rfl (lv_at hl 0 rfl) ?_
      refine u_get (C := RX6) (T := TX6) (N := 31) (v := .ref (g.2.1 31)) hx hb hts hX6_isThere_X6 hown K U 5 5 (by decide) rfl rfl 3 (by decide) (hts (.fieldLink RX6 25 "TrialSearchModel" "set" "[I") (by decide +kernel)) rfl rfl dX6_isThere_26 ?_
      refine lv_iload_n hx hb dX6_isThere_29 rfl (lv_at hl 2 rfl) ?_
      obtain ⟨hi_7, hw⟩ := hw
      refine u_iald (k := 31) (v := (A 31 a1.toNatClampNeg)) hx hb K U rfl (by decide) rfl hi_7 rfl dX6_isThere_30 ?_
      refine lv_aload_n hx hb dX6_isThere_31 rfl (lv_at hl 0 rfl) ?_
      refine u_get (C := RX6) (T := TX6) (N := 31) (v := .ref (g.2.1 33)) hx hb hts hX6_isThere_X6 hown K U 5 5 (by decide) rfl rfl 5 (by decide) (hts (.fieldLink RX6 32 "TrialSearchModel" "values" "[I") (by decide +kernel)) rfl rfl dX6_isThere_32 ?_
      refine lv_iload_n hx hb dX6_isThere_35 rfl (lv_at hl 1 rfl) ?_
      refine lv_aload_n hx hb dX6_isThere_36 rfl (lv_at hl 0 rfl) ?_
      refine u_get (C := RX6) (T := TX6) (N := 31) (v := .ref (g.2.1 30)) hx hb hts hX6_isThere_X6 hown K U 5 5 (by decide) rfl rfl 2 (by decide) (hts (.fieldLink RX6 22 "TrialSearchModel" "on" "[I") (by decide +kernel)) rfl rfl dX6_isThere_37 ?_
      refine lv_iload_n hx hb dX6_isThere_40 rfl (lv_at hl 2 rfl) ?_
      obtain ⟨hi_8, hw⟩ := hw
      refine u_iald (k := 30) (v := (A 30 a1.toNatClampNeg)) hx hb K U rfl (by decide) rfl hi_8 rfl dX6_isThere_41 ?_
      refine lv_iadd hx hb dX6_isThere_42 ?_
      refine lv_topi (fun x_9 ex_9 => ?_)
      have hw := hw x_9 ex_9
      obtain ⟨hi_10, hw⟩ := hw
      refine u_iald (k := 33) (v := (A 33 x_9.toNatClampNeg)) hx hb K U rfl (by decide) rfl hi_10 rfl dX6_isThere_43 ?_
      refine lv_ishr hx hb dX6_isThere_44 ?_
      refine lv_iconst (v := 1) hx hb dX6_isThere_45 (by decide) ?_
      refine lv_iand hx hb dX6_isThere_46 ?_
      refine lv_iconst (v := 1) hx hb dX6_isThere_47 (by decide) ?_
      refine lv_icmp_ne (tgt := 55) hx hb dX6_isThere_48 (by decide) (fun c_11 => ?_) (fun c_11 => ?_)
      · have hw := hw.1 c_11
        refine lv_iconst (v := 0) hx hb dX6_isThere_55 (by decide) ?_
        exact u_zret hx hb hr hlocks U (by decide +kernel) ⟨rfl, rfl, hw⟩ dX6_isThere_56
      · have hw := hw.2 c_11
        refine lv_iconst (v := 1) hx hb dX6_isThere_51 (by decide) ?_
        refine lv_goto (tgt := 56) hx hb dX6_isThere_52 (by decide) ?_
        exact u_zret hx hb hr hlocks U (by decide +kernel) ⟨rfl, rfl, hw⟩ dX6_isThere_56
set_option maxHeartbeats 4000000 in
set_option maxRecDepth 100000 in
theorem t_X6_behind_7 {p : Program} {l : Launch} {e : Env} {s : State} {m : MethodId} {args : Array Value} {below : List Frame} {meth : Method} {c : Code} {g : uG} {E57 : Int64 → Prop} {Q : Int64 → Prop} {v1 : Int32} {v2 : Int32} {A : SA} {B : SB} (C : uC p s m args meth c cX6_behind 6 RX6 wsX6_behind (some .long)) (K : UK g s) :
    ∀ {n : Nat} {v3 : Int64} {v5 : Int32} {H : Heap} {locs : List Loc} {ls : Array Slot}, wp_X6_behind_7 E57 Q v1 v2 A B n v3 v5 → UU g A B s.heap H locs → lv_has ls 6 [(0, .ref (g.2.1 5)), (1, .int v1), (2, .int v2), (3, .long v3), (5, .int v5)] → (∀ (v3 : Int64) (H : Heap) (locs : List Loc) (ls : Array Slot), UU g A B s.heap H locs → lv_has ls 6 [(3, .long v3)] → E57 v3 → W p l e rmX6_behind s m args below meth c H locs 0 0 (MQ below (uQl g (fun r A1 B1 => A1 = A ∧ B1 = B ∧ Q r )) args s 0 0 (FA g)) (F0 m 57 ls [])) → W p l e rmX6_behind s m args below meth c H locs 0 0 (MQ below (uQl g (fun r A1 B1 => A1 = A ∧ B1 = B ∧ Q r )) args s 0 0 (FA g)) (F0 m 7 ls []) := by
  obtain ⟨hx, hb, hml, hown, hts, hr, hlocks⟩ := id C
  have S : CallFix p m c cX6_behind 6 s args wsX6_behind RX6 := ⟨hx, hb, hml, hown, hts⟩
  intro n
  induction n with
  | zero => intro _ _ _ _ _ hw; exact False.elim hw
  | succ n ih =>
    intro v3 v5 H locs ls hw U hl h57
    refine lv_iload hx hb dX6_behind_7 (lv_at hl 4 rfl) ?_
    refine lv_aload_n hx hb dX6_behind_9 rfl (lv_at hl 0 rfl) ?_
    refine u_get (C := RX6) (T := TX6) (N := 31) (v := .int (A 5 0)) hx hb hts hX6_behind_X6 hown K U 5 5 (by decide) rfl rfl 0 (by decide) (hts (.fieldLink RX6 86 "TrialSearchModel" "names" "I") (by decide +kernel)) rfl rfl dX6_behind_10 ?_
    refine lv_icmp_ge (tgt := 57) hx hb dX6_behind_13 (by decide) (fun c_2 => ?_) (fun c_2 => ?_)
    · have hw := hw.1 c_2
      exact h57 _ _ _ _ U (lv_sub hl [3] rfl) hw
    · have hw := hw.2 c_2
      refine lv_lload_n hx hb dX6_behind_16 rfl (lv_at hl 3 rfl) ?_
      refine lv_aload_n hx hb dX6_behind_17 rfl (lv_at hl 0 rfl) ?_
      refine u_get (C := RX6) (T := TX6) (N := 31) (v := .ref (g.2.1 30)) hx hb hts hX6_behind_X6 hown K U 5 5 (by decide) rfl rfl 2 (by decide) (hts (.fieldLink RX6 22 "TrialSearchModel" "on" "[I") (by decide +kernel)) rfl rfl dX6_behind_18 ?_
      refine lv_iload hx hb dX6_behind_21 (lv_at hl 4 rfl) ?_
      obtain ⟨hi_3, hw⟩ := hw
      refine u_iald (k := 30) (v := (A 30 v5.toNatClampNeg)) hx hb K U rfl (by decide) rfl hi_3 rfl dX6_behind_23 ?_
      refine lv_iload_n hx hb dX6_behind_24 rfl (lv_at hl 2 rfl) ?_
      refine lv_icmp_gt (tgt := 48) hx hb dX6_behind_25 (by decide) (fun c_4 => ?_) (fun c_4 => ?_)
      · have hw := hw.1 c_4
        refine lv_lconst (v := 1) hx hb dX6_behind_48 (by decide) ?_
        refine lv_lmul hx hb dX6_behind_49 ?_
        refine lv_topl (fun x_5 ex_5 => ?_)
        have hw := hw x_5 ex_5
        refine lv_lstore_n (lv' := [(3, .long x_5), (0, .ref (g.2.1 5)), (1, .int v1), (2, .int v2), (5, .int v5)]) hx hb dX6_behind_50 rfl hl (by decide) rfl (fun ls hl => ?_)
        obtain ⟨v5_6, ev5_6⟩ : ∃ y : Int32, y = v5 + 1 := ⟨_, rfl⟩
        have hw := hw v5_6 ev5_6
        refine lv_iinc (v := v5_6) (lv' := [(5, .int v5_6), (3, .long x_5), (0, .ref (g.2.1 5)), (1, .int v1), (2, .int v2)]) hx hb dX6_behind_51 hl (k := 4) rfl (by rw [ev5_6]; rfl) (by decide) rfl (fun ls hl => ?_)
        refine lv_goto (tgt := 7) hx hb dX6_behind_54 (by decide) ?_
        exact ih hw U (lv_sub hl [2, 3, 4, 1, 0] rfl) h57
      · have hw := hw.2 c_4
        refine lv_aload_n hx hb dX6_behind_28 rfl (lv_at hl 0 rfl) ?_
        refine lv_iload_n hx hb dX6_behind_29 rfl (lv_at hl 1 rfl) ?_
        refine lv_iload hx hb dX6_behind_30 (lv_at hl 4 rfl) ?_
        refine u_ci (u_rV (As := [.int v1, .int v5]) (rest := [.long v3]) (C := RX6) S K U 5 5 (by decide) rfl rfl (c_X6_isThere hw) (cwV 2 hts gX6_behind_X6_isThere rfl rfl rfl (by decide +kernel) ⟨Nat.le_of_ble_eq_true rfl, Nat.le_of_ble_eq_true rfl⟩) rfl hl.1 rfl (Nat.le_of_ble_eq_true rfl) dX6_behind_32 ⟨Nat.zero_le _, Nat.zero_le _⟩) U (fun r_7 A_8 B_9 H locs U9 hw => ?_)
        obtain ⟨eA, eB, hw⟩ := hw
        rw [eA, eB] at U9
        have U := U9
        refine lv_if_eq (tgt := 48) hx hb dX6_behind_35 (by decide) (fun c_10 => ?_) (fun c_10 => ?_)
        · have hw := hw.1 c_10
          refine lv_lconst (v := 1) hx hb dX6_behind_48 (by decide) ?_
          refine lv_lmul hx hb dX6_behind_49 ?_
          refine lv_topl (fun x_11 ex_11 => ?_)
          have hw := hw x_11 ex_11
          refine lv_lstore_n (lv' := [(3, .long x_11), (0, .ref (g.2.1 5)), (1, .int v1), (2, .int v2), (5, .int v5)]) hx hb dX6_behind_50 rfl hl (by decide) rfl (fun ls hl => ?_)
          obtain ⟨v5_12, ev5_12⟩ : ∃ y : Int32, y = v5 + 1 := ⟨_, rfl⟩
          have hw := hw v5_12 ev5_12
          refine lv_iinc (v := v5_12) (lv' := [(5, .int v5_12), (3, .long x_11), (0, .ref (g.2.1 5)), (1, .int v1), (2, .int v2)]) hx hb dX6_behind_51 hl (k := 4) rfl (by rw [ev5_12]; rfl) (by decide) rfl (fun ls hl => ?_)
          refine lv_goto (tgt := 7) hx hb dX6_behind_54 (by decide) ?_
          exact ih hw U (lv_sub hl [2, 3, 4, 1, 0] rfl) h57
        · have hw := hw.2 c_10
          refine lv_aload_n hx hb dX6_behind_38 rfl (lv_at hl 0 rfl) ?_
          refine u_get (C := RX6) (T := TX6) (N := 31) (v := .ref (g.2.1 32)) hx hb hts hX6_behind_X6 hown K U 5 5 (by decide) rfl rfl 4 (by decide) (hts (.fieldLink RX6 28 "TrialSearchModel" "ways" "[J") (by decide +kernel)) rfl rfl dX6_behind_39 ?_
          refine lv_iload hx hb dX6_behind_42 (lv_at hl 4 rfl) ?_
          obtain ⟨hi_13, hw⟩ := hw
          refine u_lald (k := 32) (v := (B 32 v5.toNatClampNeg)) hx hb K U rfl (by decide) rfl hi_13 rfl dX6_behind_44 ?_
          refine lv_goto (tgt := 49) hx hb dX6_behind_45 (by decide) ?_
          refine lv_lmul hx hb dX6_behind_49 ?_
          refine lv_topl (fun x_14 ex_14 => ?_)
          have hw := hw x_14 ex_14
          refine lv_lstore_n (lv' := [(3, .long x_14), (0, .ref (g.2.1 5)), (1, .int v1), (2, .int v2), (5, .int v5)]) hx hb dX6_behind_50 rfl hl (by decide) rfl (fun ls hl => ?_)
          obtain ⟨v5_15, ev5_15⟩ : ∃ y : Int32, y = v5 + 1 := ⟨_, rfl⟩
          have hw := hw v5_15 ev5_15
          refine lv_iinc (v := v5_15) (lv' := [(5, .int v5_15), (3, .long x_14), (0, .ref (g.2.1 5)), (1, .int v1), (2, .int v2)]) hx hb dX6_behind_51 hl (k := 4) rfl (by rw [ev5_15]; rfl) (by decide) rfl (fun ls hl => ?_)
          refine lv_goto (tgt := 7) hx hb dX6_behind_54 (by decide) ?_
          exact ih hw U (lv_sub hl [2, 3, 4, 1, 0] rfl) h57
set_option maxHeartbeats 4000000 in
set_option maxRecDepth 100000 in
theorem c_X6_behind {l : Launch} {g : uG} {a0 : Int32} {a1 : Int32} {A : SA} {B : SB} {Q : Int64 → Prop} (hw : wp_X6_behind a0 a1 A B Q) : ML l yX6_behind wsX6_behind rmX6_behind g A B [.ref (g.2.1 5), .int a0, .int a1] (fun r A1 B1 => A1 = A ∧ B1 = B ∧ Q r ) := by
  refine u_of (cc := cX6_behind) (maxL := 6) (ret := (some .long)) (by decide) rfl (Nat.le_of_ble_eq_true rfl) ?_
  intro p e s m below meth c ls C K U hl
  obtain ⟨hx, hb, hml, hown, hts, hr, hlocks⟩ := id C
  have S : CallFix p m c cX6_behind 6 s ([.ref (g.2.1 5), .int a0, .int a1] : List Value).toArray wsX6_behind RX6 := ⟨hx, hb, hml, hown, hts⟩
  have hl : lv_has ls 6 [(0, .ref (g.2.1 5)), (1, .int a0), (2, .int a1)] := hl
  refine lv_lconst (v := 1) hx hb dX6_behind_0 (by decide) ?_
  refine lv_lstore_n (lv' := [(3, .long (1 : Int64)), (0, .ref (g.2.1 5)), (1, .int a0), (2, .int a1)]) hx hb dX6_behind_1 rfl hl (by decide) rfl (fun ls hl => ?_)
  refine lv_iload_n hx hb dX6_behind_2 rfl (lv_at hl 3 rfl) ?_
  refine lv_iconst (v := 1) hx hb dX6_behind_3 (by decide) ?_
  refine lv_iadd hx hb dX6_behind_4 ?_
  refine lv_topi (fun x_1 ex_1 => ?_)
  have hw := hw x_1 ex_1
  refine lv_istore (lv' := [(5, .int x_1), (3, .long (1 : Int64)), (0, .ref (g.2.1 5)), (1, .int a0), (2, .int a1)]) hx hb dX6_behind_5 hl (by decide) rfl (fun ls hl => ?_)
  obtain ⟨n_16, hw⟩ := hw
  refine t_X6_behind_7 C K hw U (lv_sub hl [2, 3, 4, 1, 0] rfl) (fun v3_17 H locs ls U hl hw => ?_)
  refine lv_lload_n hx hb dX6_behind_57 rfl (lv_at hl 0 rfl) ?_
  exact u_lret hx hb hr hlocks U ⟨rfl, rfl, hw⟩ dX6_behind_58
set_option maxHeartbeats 4000000 in
set_option maxRecDepth 100000 in
theorem t_X6_find_58 {p : Program} {l : Launch} {e : Env} {s : State} {m : MethodId} {args : Array Value} {below : List Frame} {meth : Method} {c : Code} {g : uG} {E98 : Int64 → SA → Prop} {Q : SA → Prop} {v1 : Int32} {v6 : Int32} {B : SB} (C : uC p s m args meth c cX6_find 9 RX6 wsX6_find none) (K : UK g s) :
    ∀ {n : Nat} {v4 : Int64} {v7 : Int64} {A : SA} {H : Heap} {locs : List Loc} {ls : Array Slot}, wp_X6_find_58 E98 Q v1 v6 B n v4 v7 A → UU g A B s.heap H locs → lv_has ls 9 [(0, .ref (g.2.1 5)), (1, .int v1), (4, .long v4), (6, .int v6), (7, .long v7)] → (∀ (v4 : Int64) (A : SA) (H : Heap) (locs : List Loc) (ls : Array Slot), UU g A B s.heap H locs → lv_has ls 9 [(0, .ref (g.2.1 5)), (1, .int v1), (4, .long v4), (6, .int v6)] → E98 v4 A → W p l e rmX6_find s m args below meth c H locs 0 0 (MQ below (uQv g (fun A1 B1 => B1 = B ∧ Q A1 )) args s 0 0 (FA g)) (F0 m 98 ls [])) → W p l e rmX6_find s m args below meth c H locs 0 0 (MQ below (uQv g (fun A1 B1 => B1 = B ∧ Q A1 )) args s 0 0 (FA g)) (F0 m 58 ls []) := by
  obtain ⟨hx, hb, hml, hown, hts, hr, hlocks⟩ := id C
  have S : CallFix p m c cX6_find 9 s args wsX6_find RX6 := ⟨hx, hb, hml, hown, hts⟩
  intro n
  induction n with
  | zero => intro _ _ _ _ _ _ hw; exact False.elim hw
  | succ n ih =>
    intro v4 v7 A H locs ls hw U hl h98
    refine lv_lload hx hb dX6_find_58 (lv_at hl 2 rfl) ?_
    refine lv_lload hx hb dX6_find_60 (lv_at hl 4 rfl) ?_
    refine u_lc_lt (tgt := 98) hx hb dX6_find_62 dX6_find_63 (by decide) (fun c_11 => ?_) (fun c_11 => ?_)
    · have hw := hw.1 c_11
      exact h98 _ _ _ _ _ U (lv_sub hl [0, 1, 2, 3] rfl) hw
    · have hw := hw.2 c_11
      refine lv_lload hx hb dX6_find_66 (lv_at hl 2 rfl) ?_
      refine lv_lload hx hb dX6_find_68 (lv_at hl 4 rfl) ?_
      refine lv_lsub hx hb dX6_find_70 ?_
      refine lv_topl (fun x_12 ex_12 => ?_)
      have hw := hw x_12 ex_12
      refine lv_lstore (lv' := [(4, .long x_12), (0, .ref (g.2.1 5)), (1, .int v1), (6, .int v6), (7, .long v7)]) hx hb dX6_find_71 hl (by decide) rfl (fun ls hl => ?_)
      refine lv_aload_n hx hb dX6_find_73 rfl (lv_at hl 1 rfl) ?_
      refine u_get (C := RX6) (T := TX6) (N := 31) (v := .ref (g.2.1 33)) hx hb hts hX6_find_X6 hown K U 5 5 (by decide) rfl rfl 5 (by decide) (hts (.fieldLink RX6 32 "TrialSearchModel" "values" "[I") (by decide +kernel)) rfl rfl dX6_find_74 ?_
      refine lv_iload_n hx hb dX6_find_77 rfl (lv_at hl 2 rfl) ?_
      refine lv_iload hx hb dX6_find_78 (lv_at hl 3 rfl) ?_
      refine lv_iadd hx hb dX6_find_80 ?_
      refine lv_dup2_11 hx hb dX6_find_81 rfl rfl ?_
      refine lv_topi (fun x_13 ex_13 => ?_)
      have hw := hw x_13 ex_13
      obtain ⟨hi_14, hw⟩ := hw
      refine u_iald (k := 33) (v := (A 33 x_13.toNatClampNeg)) hx hb K U rfl (by decide) rfl hi_14 rfl dX6_find_82 ?_
      refine lv_iconst (v := 1) hx hb dX6_find_83 (by decide) ?_
      refine lv_iadd hx hb dX6_find_84 ?_
      refine lv_topi (fun x_15 ex_15 => ?_)
      have hw := hw x_15 ex_15
      obtain ⟨hi_16, hw⟩ := hw
      refine u_iast (k := 33) hx hb K U rfl (by decide) rfl hi_16 dX6_find_85 (fun H locs U => ?_)
      refine lv_aload_n hx hb dX6_find_86 rfl (lv_at hl 1 rfl) ?_
      refine lv_iload_n hx hb dX6_find_87 rfl (lv_at hl 2 rfl) ?_
      refine lv_iload hx hb dX6_find_88 (lv_at hl 3 rfl) ?_
      refine u_cl (u_rV (As := [.int v1, .int v6]) (rest := []) (C := RX6) S K U 5 5 (by decide) rfl rfl (c_X6_behind hw) (cwV 2 hts gX6_find_X6_behind rfl rfl rfl (by decide +kernel) ⟨Nat.le_of_ble_eq_true rfl, Nat.le_of_ble_eq_true rfl⟩) rfl hl.1 rfl (Nat.le_of_ble_eq_true rfl) dX6_find_90 ⟨Nat.zero_le _, Nat.zero_le _⟩) U (fun r_17 A_18 B_19 H locs U9 hw => ?_)
      obtain ⟨eA, eB, hw⟩ := hw
      rw [eA, eB] at U9
      have U := U9
      refine lv_lstore (lv' := [(7, .long r_17), (4, .long x_12), (0, .ref (g.2.1 5)), (1, .int v1), (6, .int v6)]) hx hb dX6_find_93 hl (by decide) rfl (fun ls hl => ?_)
      refine lv_goto (tgt := 58) hx hb dX6_find_95 (by decide) ?_
      exact ih hw U (lv_sub hl [2, 3, 1, 4, 0] rfl) h98
set_option maxHeartbeats 4000000 in
set_option maxRecDepth 100000 in
theorem t_X6_find_6 {p : Program} {l : Launch} {e : Env} {s : State} {m : MethodId} {args : Array Value} {below : List Frame} {meth : Method} {c : Code} {g : uG} {E104 : SA → Prop} {Q : SA → Prop} {v1 : Int32} {B : SB} (C : uC p s m args meth c cX6_find 9 RX6 wsX6_find none) (K : UK g s) :
    ∀ {n : Nat} {v4 : Int64} {v6 : Int32} {A : SA} {H : Heap} {locs : List Loc} {ls : Array Slot}, wp_X6_find_6 E104 Q v1 B n v4 v6 A → UU g A B s.heap H locs → lv_has ls 9 [(0, .ref (g.2.1 5)), (1, .int v1), (4, .long v4), (6, .int v6)] → (∀ (A : SA) (H : Heap) (locs : List Loc) (ls : Array Slot), UU g A B s.heap H locs → lv_has ls 9 [] → E104 A → W p l e rmX6_find s m args below meth c H locs 0 0 (MQ below (uQv g (fun A1 B1 => B1 = B ∧ Q A1 )) args s 0 0 (FA g)) (F0 m 104 ls [])) → W p l e rmX6_find s m args below meth c H locs 0 0 (MQ below (uQv g (fun A1 B1 => B1 = B ∧ Q A1 )) args s 0 0 (FA g)) (F0 m 6 ls []) := by
  obtain ⟨hx, hb, hml, hown, hts, hr, hlocks⟩ := id C
  have S : CallFix p m c cX6_find 9 s args wsX6_find RX6 := ⟨hx, hb, hml, hown, hts⟩
  intro n
  induction n with
  | zero => intro _ _ _ _ _ _ hw; exact False.elim hw
  | succ n ih =>
    intro v4 v6 A H locs ls hw U hl h104
    refine lv_iload hx hb dX6_find_6 (lv_at hl 3 rfl) ?_
    refine lv_aload_n hx hb dX6_find_8 rfl (lv_at hl 0 rfl) ?_
    refine u_get (C := RX6) (T := TX6) (N := 31) (v := .int (A 5 0)) hx hb hts hX6_find_X6 hown K U 5 5 (by decide) rfl rfl 0 (by decide) (hts (.fieldLink RX6 86 "TrialSearchModel" "names" "I") (by decide +kernel)) rfl rfl dX6_find_9 ?_
    refine lv_icmp_ge (tgt := 104) hx hb dX6_find_12 (by decide) (fun c_1 => ?_) (fun c_1 => ?_)
    · have hw := hw.1 c_1
      exact h104 _ _ _ _ U (lv_sub hl [] rfl) hw
    · have hw := hw.2 c_1
      refine lv_aload_n hx hb dX6_find_15 rfl (lv_at hl 0 rfl) ?_
      refine u_get (C := RX6) (T := TX6) (N := 31) (v := .ref (g.2.1 33)) hx hb hts hX6_find_X6 hown K U 5 5 (by decide) rfl rfl 5 (by decide) (hts (.fieldLink RX6 32 "TrialSearchModel" "values" "[I") (by decide +kernel)) rfl rfl dX6_find_16 ?_
      refine lv_iload_n hx hb dX6_find_19 rfl (lv_at hl 1 rfl) ?_
      refine lv_iload hx hb dX6_find_20 (lv_at hl 3 rfl) ?_
      refine lv_iadd hx hb dX6_find_22 ?_
      refine lv_bipush (v := -2) hx hb dX6_find_23 (by decide) ?_
      obtain ⟨hi_2, hw⟩ := hw
      refine u_iast (k := 33) hx hb K U rfl (by decide) rfl hi_2 dX6_find_25 (fun H locs U => ?_)
      refine lv_aload_n hx hb dX6_find_26 rfl (lv_at hl 0 rfl) ?_
      refine lv_iload_n hx hb dX6_find_27 rfl (lv_at hl 1 rfl) ?_
      refine lv_iload hx hb dX6_find_28 (lv_at hl 3 rfl) ?_
      refine u_ci (u_rV (As := [.int v1, .int v6]) (rest := []) (C := RX6) S K U 5 5 (by decide) rfl rfl (c_X6_isThere hw) (cwV 2 hts gX6_find_X6_isThere rfl rfl rfl (by decide +kernel) ⟨Nat.le_of_ble_eq_true rfl, Nat.le_of_ble_eq_true rfl⟩) rfl hl.1 rfl (Nat.le_of_ble_eq_true rfl) dX6_find_30 ⟨Nat.zero_le _, Nat.zero_le _⟩) U (fun r_3 A_4 B_5 H locs U9 hw => ?_)
      obtain ⟨eA, eB, hw⟩ := hw
      rw [eA, eB] at U9
      have U := U9
      refine lv_if_ne (tgt := 39) hx hb dX6_find_33 (by decide) (fun c_6 => ?_) (fun c_6 => ?_)
      · have hw := hw.1 c_6
        refine lv_aload_n hx hb dX6_find_39 rfl (lv_at hl 0 rfl) ?_
        refine u_get (C := RX6) (T := TX6) (N := 31) (v := .ref (g.2.1 33)) hx hb hts hX6_find_X6 hown K U 5 5 (by decide) rfl rfl 5 (by decide) (hts (.fieldLink RX6 32 "TrialSearchModel" "values" "[I") (by decide +kernel)) rfl rfl dX6_find_40 ?_
        refine lv_iload_n hx hb dX6_find_43 rfl (lv_at hl 1 rfl) ?_
        refine lv_iload hx hb dX6_find_44 (lv_at hl 3 rfl) ?_
        refine lv_iadd hx hb dX6_find_46 ?_
        refine lv_iconst (v := 0) hx hb dX6_find_47 (by decide) ?_
        obtain ⟨hi_7, hw⟩ := hw
        refine u_iast (k := 33) hx hb K U rfl (by decide) rfl hi_7 dX6_find_48 (fun H locs U => ?_)
        refine lv_aload_n hx hb dX6_find_49 rfl (lv_at hl 0 rfl) ?_
        refine lv_iload_n hx hb dX6_find_50 rfl (lv_at hl 1 rfl) ?_
        refine lv_iload hx hb dX6_find_51 (lv_at hl 3 rfl) ?_
        refine u_cl (u_rV (As := [.int v1, .int v6]) (rest := []) (C := RX6) S K U 5 5 (by decide) rfl rfl (c_X6_behind hw) (cwV 2 hts gX6_find_X6_behind rfl rfl rfl (by decide +kernel) ⟨Nat.le_of_ble_eq_true rfl, Nat.le_of_ble_eq_true rfl⟩) rfl hl.1 rfl (Nat.le_of_ble_eq_true rfl) dX6_find_53 ⟨Nat.zero_le _, Nat.zero_le _⟩) U (fun r_8 A_9 B_10 H locs U9 hw => ?_)
        obtain ⟨eA, eB, hw⟩ := hw
        rw [eA, eB] at U9
        have U := U9
        refine lv_lstore (lv' := [(7, .long r_8), (0, .ref (g.2.1 5)), (1, .int v1), (4, .long v4), (6, .int v6)]) hx hb dX6_find_56 hl (by decide) rfl (fun ls hl => ?_)
        obtain ⟨n_20, hw⟩ := hw
        refine t_X6_find_58 C K hw U (lv_sub hl [1, 2, 3, 4, 0] rfl) (fun v4_21 A_22 H locs ls U hl hw => ?_)
        obtain ⟨v6_23, ev6_23⟩ : ∃ y : Int32, y = v6 + 1 := ⟨_, rfl⟩
        have hw := hw v6_23 ev6_23
        refine lv_iinc (v := v6_23) (lv' := [(6, .int v6_23), (0, .ref (g.2.1 5)), (1, .int v1), (4, .long v4_21)]) hx hb dX6_find_98 hl (k := 3) rfl (by rw [ev6_23]; rfl) (by decide) rfl (fun ls hl => ?_)
        refine lv_goto (tgt := 6) hx hb dX6_find_101 (by decide) ?_
        exact ih hw U (lv_sub hl [1, 2, 3, 0] rfl) h104
      · have hw := hw.2 c_6
        refine lv_goto (tgt := 98) hx hb dX6_find_36 (by decide) ?_
        obtain ⟨v6_24, ev6_24⟩ : ∃ y : Int32, y = v6 + 1 := ⟨_, rfl⟩
        have hw := hw v6_24 ev6_24
        refine lv_iinc (v := v6_24) (lv' := [(6, .int v6_24), (0, .ref (g.2.1 5)), (1, .int v1), (4, .long v4)]) hx hb dX6_find_98 hl (k := 3) rfl (by rw [ev6_24]; rfl) (by decide) rfl (fun ls hl => ?_)
        refine lv_goto (tgt := 6) hx hb dX6_find_101 (by decide) ?_
        exact ih hw U (lv_sub hl [1, 2, 3, 0] rfl) h104
set_option maxHeartbeats 4000000 in
set_option maxRecDepth 100000 in
theorem c_X6_find {l : Launch} {g : uG} {a0 : Int32} {a1 : Int64} {A : SA} {B : SB} {Q : SA → Prop} (hw : wp_X6_find a0 a1 A B Q) : MV l yX6_find wsX6_find rmX6_find g A B [.ref (g.2.1 5), .int a0, .long a1] (fun A1 B1 => B1 = B ∧ Q A1 ) := by
  refine u_of (cc := cX6_find) (maxL := 9) (ret := none) (by decide) rfl (Nat.le_of_ble_eq_true rfl) ?_
  intro p e s m below meth c ls C K U hl
  obtain ⟨hx, hb, hml, hown, hts, hr, hlocks⟩ := id C
  have S : CallFix p m c cX6_find 9 s ([.ref (g.2.1 5), .int a0, .long a1] : List Value).toArray wsX6_find RX6 := ⟨hx, hb, hml, hown, hts⟩
  have hl : lv_has ls 9 [(0, .ref (g.2.1 5)), (1, .int a0), (2, .long a1)] := hl
  refine lv_lload_n hx hb dX6_find_0 rfl (lv_at hl 2 rfl) ?_
  refine lv_lstore (lv' := [(4, .long a1), (0, .ref (g.2.1 5)), (1, .int a0), (2, .long a1)]) hx hb dX6_find_1 hl (by decide) rfl (fun ls hl => ?_)
  refine lv_iconst (v := 0) hx hb dX6_find_3 (by decide) ?_
  refine lv_istore (lv' := [(6, .int (0 : Int32)), (4, .long a1), (0, .ref (g.2.1 5)), (1, .int a0), (2, .long a1)]) hx hb dX6_find_4 hl (by decide) rfl (fun ls hl => ?_)
  obtain ⟨n_25, hw⟩ := hw
  refine t_X6_find_6 C K hw U (lv_sub hl [2, 3, 1, 0] rfl) (fun A_26 H locs ls U hl hw => ?_)
  exact u_vret hx hb hr hlocks U ⟨rfl, hw⟩ dX6_find_104
set_option maxHeartbeats 4000000 in
set_option maxRecDepth 100000 in
theorem c_X6_noPoint {l : Launch} {g : uG} {a0 : Int64} {A : SA} {B : SB} {Q : Int32 → Prop} (hw : wp_X6_noPoint a0 A B Q) : MI l yX6_noPoint wsX6_noPoint rmX6_noPoint g A B [.ref (g.2.1 5), .long a0] (fun r A1 B1 => A1 = A ∧ B1 = B ∧ Q r ) := by
  refine u_of (cc := cX6_noPoint) (maxL := 3) (ret := (some .boolean)) (by decide) rfl (Nat.le_of_ble_eq_true rfl) ?_
  intro p e s m below meth c ls C K U hl
  obtain ⟨hx, hb, hml, hown, hts, hr, hlocks⟩ := id C
  have S : CallFix p m c cX6_noPoint 3 s ([.ref (g.2.1 5), .long a0] : List Value).toArray wsX6_noPoint RX6 := ⟨hx, hb, hml, hown, hts⟩
  have hl : lv_has ls 3 [(0, .ref (g.2.1 5)), (1, .long a0)] := hl
  refine lv_lload_n hx hb dX6_noPoint_0 rfl (lv_at hl 1 rfl) ?_
  refine lv_lconst (v := 0) hx hb dX6_noPoint_1 (by decide) ?_
  refine lv_aload_n hx hb dX6_noPoint_2 rfl (lv_at hl 0 rfl) ?_
  refine u_cl (u_rV (As := []) (rest := [.long (0 : Int64), .long a0]) (C := RX6) S K U 5 5 (by decide) rfl rfl (c_X6_points hw) (cwV 0 hts gX6_noPoint_X6_points rfl rfl rfl (by decide +kernel) ⟨Nat.le_of_ble_eq_true rfl, Nat.le_of_ble_eq_true rfl⟩) rfl hl.1 rfl (Nat.le_of_ble_eq_true rfl) dX6_noPoint_3 ⟨Nat.zero_le _, Nat.zero_le _⟩) U (fun r_1 A_2 B_3 H locs U9 hw => ?_)
  obtain ⟨eA, eB, hw⟩ := hw
  rw [eA, eB] at U9
  have U := U9
  refine lv_lconst (v := 1) hx hb dX6_noPoint_6 (by decide) ?_
  refine lv_lsub hx hb dX6_noPoint_7 ?_
  refine u_ci (u_rS (As := [.long a0, .long (0 : Int64), .long (r_1 - (1 : Int64))]) (rest := []) S K U (c_X6_in hw) (va_cwS 3 hts gX6_noPoint_X6_in rfl rfl rfl (by decide +kernel) ⟨Nat.le_of_ble_eq_true rfl, Nat.le_of_ble_eq_true rfl⟩) rfl hl.1 rfl (Nat.le_of_ble_eq_true rfl) dX6_noPoint_8 ⟨Nat.zero_le _, Nat.zero_le _⟩) U (fun r_4 A_5 B_6 H locs U9 hw => ?_)
  obtain ⟨eA, eB, hw⟩ := hw
  rw [eA, eB] at U9
  have U := U9
  refine lv_if_ne (tgt := 18) hx hb dX6_noPoint_11 (by decide) (fun c_7 => ?_) (fun c_7 => ?_)
  · have hw := hw.1 c_7
    refine lv_iconst (v := 0) hx hb dX6_noPoint_18 (by decide) ?_
    exact u_zret hx hb hr hlocks U (by decide +kernel) ⟨rfl, rfl, hw⟩ dX6_noPoint_19
  · have hw := hw.2 c_7
    refine lv_iconst (v := 1) hx hb dX6_noPoint_14 (by decide) ?_
    refine lv_goto (tgt := 19) hx hb dX6_noPoint_15 (by decide) ?_
    exact u_zret hx hb hr hlocks U (by decide +kernel) ⟨rfl, rfl, hw⟩ dX6_noPoint_19
set_option maxHeartbeats 4000000 in
set_option maxRecDepth 100000 in
theorem c_X6_value {l : Launch} {g : uG} {a0 : Int64} {a1 : Int32} {A : SA} {B : SB} {Q : Int32 → SA → Prop} (hw : wp_X6_value a0 a1 A B Q) : MI l yX6_value wsX6_value rmX6_value g A B [.ref (g.2.1 5), .long a0, .int a1] (fun r A1 B1 => B1 = B ∧ Q r A1 ) := by
  refine u_of (cc := cX6_value) (maxL := 4) (ret := (some .int)) (by decide) rfl (Nat.le_of_ble_eq_true rfl) ?_
  intro p e s m below meth c ls C K U hl
  obtain ⟨hx, hb, hml, hown, hts, hr, hlocks⟩ := id C
  have S : CallFix p m c cX6_value 4 s ([.ref (g.2.1 5), .long a0, .int a1] : List Value).toArray wsX6_value RX6 := ⟨hx, hb, hml, hown, hts⟩
  have hl : lv_has ls 4 [(0, .ref (g.2.1 5)), (1, .long a0), (3, .int a1)] := hl
  refine lv_aload_n hx hb dX6_value_0 rfl (lv_at hl 0 rfl) ?_
  refine lv_lload_n hx hb dX6_value_1 rfl (lv_at hl 1 rfl) ?_
  refine u_ci (u_rV (As := [.long a0]) (rest := []) (C := RX6) S K U 5 5 (by decide) rfl rfl (c_X6_noPoint hw) (cwV 1 hts gX6_value_X6_noPoint rfl rfl rfl (by decide +kernel) ⟨Nat.le_of_ble_eq_true rfl, Nat.le_of_ble_eq_true rfl⟩) rfl hl.1 rfl (Nat.le_of_ble_eq_true rfl) dX6_value_2 ⟨Nat.zero_le _, Nat.zero_le _⟩) U (fun r_1 A_2 B_3 H locs U9 hw => ?_)
  obtain ⟨eA, eB, hw⟩ := hw
  rw [eA, eB] at U9
  have U := U9
  refine lv_if_ne (tgt := 24) hx hb dX6_value_5 (by decide) (fun c_4 => ?_) (fun c_4 => ?_)
  · have hw := hw.1 c_4
    refine lv_iconst (v := -1) hx hb dX6_value_24 (by decide) ?_
    exact u_iret hx hb hr hlocks U ⟨rfl, hw⟩ dX6_value_25
  · have hw := hw.2 c_4
    refine lv_iload_n hx hb dX6_value_8 rfl (lv_at hl 2 rfl) ?_
    refine lv_i2l hx hb dX6_value_9 rfl ?_
    refine lv_lconst (v := 0) hx hb dX6_value_10 (by decide) ?_
    refine lv_aload_n hx hb dX6_value_11 rfl (lv_at hl 0 rfl) ?_
    refine u_get (C := RX6) (T := TX6) (N := 31) (v := .int (A 5 0)) hx hb hts hX6_value_X6 hown K U 5 5 (by decide) rfl rfl 0 (by decide) (hts (.fieldLink RX6 86 "TrialSearchModel" "names" "I") (by decide +kernel)) rfl rfl dX6_value_12 ?_
    refine lv_iconst (v := 1) hx hb dX6_value_15 (by decide) ?_
    refine lv_isub hx hb dX6_value_16 ?_
    refine lv_i2l hx hb dX6_value_17 rfl ?_
    refine u_ci (u_rS (As := [.long a1.toInt64, .long (0 : Int64), .long ((A 5 0) - (1 : Int32)).toInt64]) (rest := []) S K U (c_X6_in hw) (va_cwS 3 hts gX6_value_X6_in rfl rfl rfl (by decide +kernel) ⟨Nat.le_of_ble_eq_true rfl, Nat.le_of_ble_eq_true rfl⟩) rfl hl.1 rfl (Nat.le_of_ble_eq_true rfl) dX6_value_18 ⟨Nat.zero_le _, Nat.zero_le _⟩) U (fun r_5 A_6 B_7 H locs U9 hw => ?_)
    obtain ⟨eA, eB, hw⟩ := hw
    rw [eA, eB] at U9
    have U := U9
    refine lv_if_ne (tgt := 26) hx hb dX6_value_21 (by decide) (fun c_8 => ?_) (fun c_8 => ?_)
    · have hw := hw.1 c_8
      refine lv_aload_n hx hb dX6_value_26 rfl (lv_at hl 0 rfl) ?_
      refine lv_iconst (v := 0) hx hb dX6_value_27 (by decide) ?_
      refine lv_lload_n hx hb dX6_value_28 rfl (lv_at hl 1 rfl) ?_
      refine u_cv (u_rV (As := [.int (0 : Int32), .long a0]) (rest := []) (C := RX6) S K U 5 5 (by decide) rfl rfl (c_X6_find hw) (cwV 2 hts gX6_value_X6_find rfl rfl rfl (by decide +kernel) ⟨Nat.le_of_ble_eq_true rfl, Nat.le_of_ble_eq_true rfl⟩) rfl hl.1 rfl (Nat.le_of_ble_eq_true rfl) dX6_value_29 ⟨Nat.zero_le _, Nat.zero_le _⟩) U (fun A_10 B_11 H locs U9 hw => ?_)
      obtain ⟨eB, hw⟩ := hw
      rw [eB] at U9
      have U := U9
      refine lv_aload_n hx hb dX6_value_32 rfl (lv_at hl 0 rfl) ?_
      refine u_get (C := RX6) (T := TX6) (N := 31) (v := .ref (g.2.1 33)) hx hb hts hX6_value_X6 hown K U 5 5 (by decide) rfl rfl 5 (by decide) (hts (.fieldLink RX6 32 "TrialSearchModel" "values" "[I") (by decide +kernel)) rfl rfl dX6_value_33 ?_
      refine lv_iload_n hx hb dX6_value_36 rfl (lv_at hl 2 rfl) ?_
      obtain ⟨hi_12, hw⟩ := hw
      refine u_iald (k := 33) (v := (A_10 33 a1.toNatClampNeg)) hx hb K U rfl (by decide) rfl hi_12 rfl dX6_value_37 ?_
      exact u_iret hx hb hr hlocks U ⟨rfl, hw⟩ dX6_value_38
    · have hw := hw.2 c_8
      refine lv_iconst (v := -1) hx hb dX6_value_24 (by decide) ?_
      exact u_iret hx hb hr hlocks U ⟨rfl, hw⟩ dX6_value_25
set_option maxHeartbeats 4000000 in
set_option maxRecDepth 100000 in
theorem t_X6_numberOf_23 {p : Program} {l : Launch} {e : Env} {s : State} {m : MethodId} {args : Array Value} {below : List Frame} {meth : Method} {c : Code} {g : uG} {E53 : Int64 → SA → Prop} {Q : Int64 → SA → Prop} {v3 : Int32} {v4 : Int32} {B : SB} (C : uC p s m args meth c cX6_numberOf 6 RX6 wsX6_numberOf (some .long)) (K : UK g s) :
    ∀ {n : Nat} {v1 : Int64} {v5 : Int32} {A : SA} {H : Heap} {locs : List Loc} {ls : Array Slot}, wp_X6_numberOf_23 E53 Q v3 v4 B n v1 v5 A → UU g A B s.heap H locs → lv_has ls 6 [(0, .ref (g.2.1 5)), (1, .long v1), (3, .int v3), (4, .int v4), (5, .int v5)] → (∀ (v1 : Int64) (A : SA) (H : Heap) (locs : List Loc) (ls : Array Slot), UU g A B s.heap H locs → lv_has ls 6 [(0, .ref (g.2.1 5)), (1, .long v1), (3, .int v3), (4, .int v4)] → E53 v1 A → W p l e rmX6_numberOf s m args below meth c H locs 0 0 (MQ below (uQl g (fun r A1 B1 => B1 = B ∧ Q r A1 )) args s 0 0 (FA g)) (F0 m 53 ls [])) → W p l e rmX6_numberOf s m args below meth c H locs 0 0 (MQ below (uQl g (fun r A1 B1 => B1 = B ∧ Q r A1 )) args s 0 0 (FA g)) (F0 m 23 ls []) := by
  obtain ⟨hx, hb, hml, hown, hts, hr, hlocks⟩ := id C
  have S : CallFix p m c cX6_numberOf 6 s args wsX6_numberOf RX6 := ⟨hx, hb, hml, hown, hts⟩
  intro n
  induction n with
  | zero => intro _ _ _ _ _ _ hw; exact False.elim hw
  | succ n ih =>
    intro v1 v5 A H locs ls hw U hl h53
    refine lv_iload hx hb dX6_numberOf_23 (lv_at hl 4 rfl) ?_
    refine lv_iload hx hb dX6_numberOf_25 (lv_at hl 3 rfl) ?_
    refine lv_icmp_ge (tgt := 53) hx hb dX6_numberOf_27 (by decide) (fun c_4 => ?_) (fun c_4 => ?_)
    · have hw := hw.1 c_4
      exact h53 _ _ _ _ _ U (lv_sub hl [0, 1, 2, 3] rfl) hw
    · have hw := hw.2 c_4
      refine lv_aload_n hx hb dX6_numberOf_30 rfl (lv_at hl 0 rfl) ?_
      refine u_get (C := RX6) (T := TX6) (N := 31) (v := .ref (g.2.1 33)) hx hb hts hX6_numberOf_X6 hown K U 5 5 (by decide) rfl rfl 5 (by decide) (hts (.fieldLink RX6 32 "TrialSearchModel" "values" "[I") (by decide +kernel)) rfl rfl dX6_numberOf_31 ?_
      refine lv_iload_n hx hb dX6_numberOf_34 rfl (lv_at hl 2 rfl) ?_
      refine lv_iload hx hb dX6_numberOf_35 (lv_at hl 4 rfl) ?_
      obtain ⟨hi_5, hw⟩ := hw
      refine u_iast (k := 33) hx hb K U rfl (by decide) rfl hi_5 dX6_numberOf_37 (fun H locs U => ?_)
      refine lv_lload_n hx hb dX6_numberOf_38 rfl (lv_at hl 1 rfl) ?_
      refine lv_aload_n hx hb dX6_numberOf_39 rfl (lv_at hl 0 rfl) ?_
      refine lv_iconst (v := 0) hx hb dX6_numberOf_40 (by decide) ?_
      refine lv_iload_n hx hb dX6_numberOf_41 rfl (lv_at hl 2 rfl) ?_
      refine u_cl (u_rV (As := [.int (0 : Int32), .int v3]) (rest := [.long v1]) (C := RX6) S K U 5 5 (by decide) rfl rfl (c_X6_behind hw) (cwV 2 hts gX6_numberOf_X6_behind rfl rfl rfl (by decide +kernel) ⟨Nat.le_of_ble_eq_true rfl, Nat.le_of_ble_eq_true rfl⟩) rfl hl.1 rfl (Nat.le_of_ble_eq_true rfl) dX6_numberOf_42 ⟨Nat.zero_le _, Nat.zero_le _⟩) U (fun r_6 A_7 B_8 H locs U9 hw => ?_)
      obtain ⟨eA, eB, hw⟩ := hw
      rw [eA, eB] at U9
      have U := U9
      refine lv_ladd hx hb dX6_numberOf_45 ?_
      refine lv_topl (fun x_9 ex_9 => ?_)
      have hw := hw x_9 ex_9
      refine lv_lstore_n (lv' := [(1, .long x_9), (0, .ref (g.2.1 5)), (3, .int v3), (4, .int v4), (5, .int v5)]) hx hb dX6_numberOf_46 rfl hl (by decide) rfl (fun ls hl => ?_)
      obtain ⟨v5_10, ev5_10⟩ : ∃ y : Int32, y = v5 + 1 := ⟨_, rfl⟩
      have hw := hw v5_10 ev5_10
      refine lv_iinc (v := v5_10) (lv' := [(5, .int v5_10), (1, .long x_9), (0, .ref (g.2.1 5)), (3, .int v3), (4, .int v4)]) hx hb dX6_numberOf_47 hl (k := 4) rfl (by rw [ev5_10]; rfl) (by decide) rfl (fun ls hl => ?_)
      refine lv_goto (tgt := 23) hx hb dX6_numberOf_50 (by decide) ?_
      exact ih hw U (lv_sub hl [2, 1, 3, 4, 0] rfl) h53
set_option maxHeartbeats 4000000 in
set_option maxRecDepth 100000 in
theorem t_X6_numberOf_4 {p : Program} {l : Launch} {e : Env} {s : State} {m : MethodId} {args : Array Value} {below : List Frame} {meth : Method} {c : Code} {g : uG} {E67 : Int64 → SA → Prop} {Q : Int64 → SA → Prop} {B : SB} (C : uC p s m args meth c cX6_numberOf 6 RX6 wsX6_numberOf (some .long)) (K : UK g s) :
    ∀ {n : Nat} {v1 : Int64} {v3 : Int32} {A : SA} {H : Heap} {locs : List Loc} {ls : Array Slot}, wp_X6_numberOf_4 E67 Q B n v1 v3 A → UU g A B s.heap H locs → lv_has ls 6 [(0, .ref (g.2.1 5)), (1, .long v1), (3, .int v3)] → (∀ (v1 : Int64) (A : SA) (H : Heap) (locs : List Loc) (ls : Array Slot), UU g A B s.heap H locs → lv_has ls 6 [(1, .long v1)] → E67 v1 A → W p l e rmX6_numberOf s m args below meth c H locs 0 0 (MQ below (uQl g (fun r A1 B1 => B1 = B ∧ Q r A1 )) args s 0 0 (FA g)) (F0 m 67 ls [])) → W p l e rmX6_numberOf s m args below meth c H locs 0 0 (MQ below (uQl g (fun r A1 B1 => B1 = B ∧ Q r A1 )) args s 0 0 (FA g)) (F0 m 4 ls []) := by
  obtain ⟨hx, hb, hml, hown, hts, hr, hlocks⟩ := id C
  have S : CallFix p m c cX6_numberOf 6 s args wsX6_numberOf RX6 := ⟨hx, hb, hml, hown, hts⟩
  intro n
  induction n with
  | zero => intro _ _ _ _ _ _ hw; exact False.elim hw
  | succ n ih =>
    intro v1 v3 A H locs ls hw U hl h67
    refine lv_iload_n hx hb dX6_numberOf_4 rfl (lv_at hl 2 rfl) ?_
    refine lv_aload_n hx hb dX6_numberOf_5 rfl (lv_at hl 0 rfl) ?_
    refine u_get (C := RX6) (T := TX6) (N := 31) (v := .int (A 5 0)) hx hb hts hX6_numberOf_X6 hown K U 5 5 (by decide) rfl rfl 0 (by decide) (hts (.fieldLink RX6 86 "TrialSearchModel" "names" "I") (by decide +kernel)) rfl rfl dX6_numberOf_6 ?_
    refine lv_icmp_ge (tgt := 67) hx hb dX6_numberOf_9 (by decide) (fun c_1 => ?_) (fun c_1 => ?_)
    · have hw := hw.1 c_1
      exact h67 _ _ _ _ _ U (lv_sub hl [1] rfl) hw
    · have hw := hw.2 c_1
      refine lv_aload_n hx hb dX6_numberOf_12 rfl (lv_at hl 0 rfl) ?_
      refine u_get (C := RX6) (T := TX6) (N := 31) (v := .ref (g.2.1 33)) hx hb hts hX6_numberOf_X6 hown K U 5 5 (by decide) rfl rfl 5 (by decide) (hts (.fieldLink RX6 32 "TrialSearchModel" "values" "[I") (by decide +kernel)) rfl rfl dX6_numberOf_13 ?_
      refine lv_iload_n hx hb dX6_numberOf_16 rfl (lv_at hl 2 rfl) ?_
      obtain ⟨hi_2, hw⟩ := hw
      refine u_iald (k := 33) (v := (A 33 v3.toNatClampNeg)) hx hb K U rfl (by decide) rfl hi_2 rfl dX6_numberOf_17 ?_
      refine lv_topi (fun x_3 ex_3 => ?_)
      have hw := hw x_3 ex_3
      refine lv_istore (lv' := [(4, .int x_3), (0, .ref (g.2.1 5)), (1, .long v1), (3, .int v3)]) hx hb dX6_numberOf_18 hl (by decide) rfl (fun ls hl => ?_)
      refine lv_iconst (v := 0) hx hb dX6_numberOf_20 (by decide) ?_
      refine lv_istore (lv' := [(5, .int (0 : Int32)), (4, .int x_3), (0, .ref (g.2.1 5)), (1, .long v1), (3, .int v3)]) hx hb dX6_numberOf_21 hl (by decide) rfl (fun ls hl => ?_)
      obtain ⟨n_11, hw⟩ := hw
      refine t_X6_numberOf_23 C K hw U (lv_sub hl [2, 3, 4, 1, 0] rfl) (fun v1_12 A_13 H locs ls U hl hw => ?_)
      refine lv_aload_n hx hb dX6_numberOf_53 rfl (lv_at hl 0 rfl) ?_
      refine u_get (C := RX6) (T := TX6) (N := 31) (v := .ref (g.2.1 33)) hx hb hts hX6_numberOf_X6 hown K U 5 5 (by decide) rfl rfl 5 (by decide) (hts (.fieldLink RX6 32 "TrialSearchModel" "values" "[I") (by decide +kernel)) rfl rfl dX6_numberOf_54 ?_
      refine lv_iload_n hx hb dX6_numberOf_57 rfl (lv_at hl 2 rfl) ?_
      refine lv_iload hx hb dX6_numberOf_58 (lv_at hl 3 rfl) ?_
      obtain ⟨hi_14, hw⟩ := hw
      refine u_iast (k := 33) hx hb K U rfl (by decide) rfl hi_14 dX6_numberOf_60 (fun H locs U => ?_)
      obtain ⟨v3_15, ev3_15⟩ : ∃ y : Int32, y = v3 + 1 := ⟨_, rfl⟩
      have hw := hw v3_15 ev3_15
      refine lv_iinc (v := v3_15) (lv' := [(3, .int v3_15), (0, .ref (g.2.1 5)), (1, .long v1_12), (4, .int x_3)]) hx hb dX6_numberOf_61 hl (k := 2) rfl (by rw [ev3_15]; rfl) (by decide) rfl (fun ls hl => ?_)
      refine lv_goto (tgt := 4) hx hb dX6_numberOf_64 (by decide) ?_
      exact ih hw U (lv_sub hl [1, 2, 0] rfl) h67
set_option maxHeartbeats 4000000 in
set_option maxRecDepth 100000 in
theorem c_X6_numberOf {l : Launch} {g : uG}  {A : SA} {B : SB} {Q : Int64 → SA → Prop} (hw : wp_X6_numberOf  A B Q) : ML l yX6_numberOf wsX6_numberOf rmX6_numberOf g A B [.ref (g.2.1 5)] (fun r A1 B1 => B1 = B ∧ Q r A1 ) := by
  refine u_of (cc := cX6_numberOf) (maxL := 6) (ret := (some .long)) (by decide) rfl (Nat.le_of_ble_eq_true rfl) ?_
  intro p e s m below meth c ls C K U hl
  obtain ⟨hx, hb, hml, hown, hts, hr, hlocks⟩ := id C
  have S : CallFix p m c cX6_numberOf 6 s ([.ref (g.2.1 5)] : List Value).toArray wsX6_numberOf RX6 := ⟨hx, hb, hml, hown, hts⟩
  have hl : lv_has ls 6 [(0, .ref (g.2.1 5))] := hl
  refine lv_lconst (v := 0) hx hb dX6_numberOf_0 (by decide) ?_
  refine lv_lstore_n (lv' := [(1, .long (0 : Int64)), (0, .ref (g.2.1 5))]) hx hb dX6_numberOf_1 rfl hl (by decide) rfl (fun ls hl => ?_)
  refine lv_iconst (v := 0) hx hb dX6_numberOf_2 (by decide) ?_
  refine lv_istore_n (lv' := [(3, .int (0 : Int32)), (1, .long (0 : Int64)), (0, .ref (g.2.1 5))]) hx hb dX6_numberOf_3 rfl hl (by decide) rfl (fun ls hl => ?_)
  obtain ⟨n_16, hw⟩ := hw
  refine t_X6_numberOf_4 C K hw U (lv_sub hl [2, 1, 0] rfl) (fun v1_17 A_18 H locs ls U hl hw => ?_)
  refine lv_lload_n hx hb dX6_numberOf_67 rfl (lv_at hl 0 rfl) ?_
  exact u_lret hx hb hr hlocks U ⟨rfl, hw⟩ dX6_numberOf_68
set_option maxHeartbeats 4000000 in
set_option maxRecDepth 100000 in
theorem t_X6_number_2 {p : Program} {l : Launch} {e : Env} {s : State} {m : MethodId} {args : Array Value} {below : List Frame} {meth : Method} {c : Code} {g : uG}  {Q : Int64 → SA → Prop} {v1 : Int64} {B : SB} (C : uC p s m args meth c cX6_number 4 RX6 wsX6_number (some .long)) (K : UK g s) :
    ∀ {n : Nat} {v3 : Int32} {A : SA} {H : Heap} {locs : List Loc} {ls : Array Slot}, wp_X6_number_2  Q v1 B n v3 A → UU g A B s.heap H locs → lv_has ls 4 [(0, .ref (g.2.1 5)), (1, .long v1), (3, .int v3)] →  W p l e rmX6_number s m args below meth c H locs 0 0 (MQ below (uQl g (fun r A1 B1 => B1 = B ∧ Q r A1 )) args s 0 0 (FA g)) (F0 m 2 ls []) := by
  obtain ⟨hx, hb, hml, hown, hts, hr, hlocks⟩ := id C
  have S : CallFix p m c cX6_number 4 s args wsX6_number RX6 := ⟨hx, hb, hml, hown, hts⟩
  intro n
  induction n with
  | zero => intro _ _ _ _ _ hw; exact False.elim hw
  | succ n ih =>
    intro v3 A H locs ls hw U hl 
    refine lv_iload_n hx hb dX6_number_2 rfl (lv_at hl 2 rfl) ?_
    refine lv_aload_n hx hb dX6_number_3 rfl (lv_at hl 0 rfl) ?_
    refine u_get (C := RX6) (T := TX6) (N := 31) (v := .int (A 5 0)) hx hb hts hX6_number_X6 hown K U 5 5 (by decide) rfl rfl 0 (by decide) (hts (.fieldLink RX6 86 "TrialSearchModel" "names" "I") (by decide +kernel)) rfl rfl dX6_number_4 ?_
    refine lv_icmp_ge (tgt := 68) hx hb dX6_number_7 (by decide) (fun c_1 => ?_) (fun c_1 => ?_)
    · have hw := hw.1 c_1
      refine lv_aload_n hx hb dX6_number_68 rfl (lv_at hl 0 rfl) ?_
      refine u_cl (u_rV (As := []) (rest := []) (C := RX6) S K U 5 5 (by decide) rfl rfl (c_X6_numberOf hw) (cwV 0 hts gX6_number_X6_numberOf rfl rfl rfl (by decide +kernel) ⟨Nat.le_of_ble_eq_true rfl, Nat.le_of_ble_eq_true rfl⟩) rfl hl.1 rfl (Nat.le_of_ble_eq_true rfl) dX6_number_69 ⟨Nat.zero_le _, Nat.zero_le _⟩) U (fun r_2 A_3 B_4 H locs U9 hw => ?_)
      obtain ⟨eB, hw⟩ := hw
      rw [eB] at U9
      have U := U9
      exact u_lret hx hb hr hlocks U ⟨rfl, hw⟩ dX6_number_72
    · have hw := hw.2 c_1
      refine lv_aload_n hx hb dX6_number_10 rfl (lv_at hl 0 rfl) ?_
      refine u_get (C := RX6) (T := TX6) (N := 31) (v := .ref (g.2.1 33)) hx hb hts hX6_number_X6 hown K U 5 5 (by decide) rfl rfl 5 (by decide) (hts (.fieldLink RX6 32 "TrialSearchModel" "values" "[I") (by decide +kernel)) rfl rfl dX6_number_11 ?_
      refine lv_iload_n hx hb dX6_number_14 rfl (lv_at hl 2 rfl) ?_
      refine lv_bipush (v := -2) hx hb dX6_number_15 (by decide) ?_
      obtain ⟨hi_5, hw⟩ := hw
      refine u_iast (k := 33) hx hb K U rfl (by decide) rfl hi_5 dX6_number_17 (fun H locs U => ?_)
      refine lv_aload_n hx hb dX6_number_18 rfl (lv_at hl 0 rfl) ?_
      refine lv_iconst (v := 0) hx hb dX6_number_19 (by decide) ?_
      refine lv_iload_n hx hb dX6_number_20 rfl (lv_at hl 2 rfl) ?_
      refine u_ci (u_rV (As := [.int (0 : Int32), .int v3]) (rest := []) (C := RX6) S K U 5 5 (by decide) rfl rfl (c_X6_isThere hw) (cwV 2 hts gX6_number_X6_isThere rfl rfl rfl (by decide +kernel) ⟨Nat.le_of_ble_eq_true rfl, Nat.le_of_ble_eq_true rfl⟩) rfl hl.1 rfl (Nat.le_of_ble_eq_true rfl) dX6_number_21 ⟨Nat.zero_le _, Nat.zero_le _⟩) U (fun r_6 A_7 B_8 H locs U9 hw => ?_)
      obtain ⟨eA, eB, hw⟩ := hw
      rw [eA, eB] at U9
      have U := U9
      refine lv_if_eq (tgt := 62) hx hb dX6_number_24 (by decide) (fun c_9 => ?_) (fun c_9 => ?_)
      · have hw := hw.1 c_9
        obtain ⟨v3_10, ev3_10⟩ : ∃ y : Int32, y = v3 + 1 := ⟨_, rfl⟩
        have hw := hw v3_10 ev3_10
        refine lv_iinc (v := v3_10) (lv' := [(3, .int v3_10), (0, .ref (g.2.1 5)), (1, .long v1)]) hx hb dX6_number_62 hl (k := 2) rfl (by rw [ev3_10]; rfl) (by decide) rfl (fun ls hl => ?_)
        refine lv_goto (tgt := 2) hx hb dX6_number_65 (by decide) ?_
        exact ih hw U (lv_sub hl [1, 2, 0] rfl) 
      · have hw := hw.2 c_9
        refine lv_aload_n hx hb dX6_number_27 rfl (lv_at hl 0 rfl) ?_
        refine u_get (C := RX6) (T := TX6) (N := 31) (v := .ref (g.2.1 33)) hx hb hts hX6_number_X6 hown K U 5 5 (by decide) rfl rfl 5 (by decide) (hts (.fieldLink RX6 32 "TrialSearchModel" "values" "[I") (by decide +kernel)) rfl rfl dX6_number_28 ?_
        refine lv_iload_n hx hb dX6_number_31 rfl (lv_at hl 2 rfl) ?_
        refine lv_lload_n hx hb dX6_number_32 rfl (lv_at hl 1 rfl) ?_
        refine lv_iconst (v := 5) hx hb dX6_number_33 (by decide) ?_
        refine lv_iload_n hx hb dX6_number_34 rfl (lv_at hl 2 rfl) ?_
        refine lv_imul hx hb dX6_number_35 ?_
        refine lv_lshr hx hb dX6_number_36 rfl ?_
        refine lv_ldc2 (v := 31) hx hb hown (hts (.constantLong RX6 118 (31)) (by decide +kernel)) dX6_number_37 ?_
        refine lv_land hx hb dX6_number_40 ?_
        refine lv_l2i hx hb dX6_number_41 rfl ?_
        refine lv_topi (fun x_11 ex_11 => ?_)
        have hw := hw x_11 ex_11
        obtain ⟨hi_12, hw⟩ := hw
        refine u_iast (k := 33) hx hb K U rfl (by decide) rfl hi_12 dX6_number_42 (fun H locs U => ?_)
        refine lv_aload_n hx hb dX6_number_43 rfl (lv_at hl 0 rfl) ?_
        refine u_get (C := RX6) (T := TX6) (N := 31) (v := .ref (g.2.1 33)) hx hb hts hX6_number_X6 hown K U 5 5 (by decide) rfl rfl 5 (by decide) (hts (.fieldLink RX6 32 "TrialSearchModel" "values" "[I") (by decide +kernel)) rfl rfl dX6_number_44 ?_
        refine lv_iload_n hx hb dX6_number_47 rfl (lv_at hl 2 rfl) ?_
        obtain ⟨hi_13, hw⟩ := hw
        refine u_iald (k := 33) (v := ((u2 (u2 A 33 v3.toNatClampNeg (-2 : Int32)) 33 v3.toNatClampNeg x_11) 33 v3.toNatClampNeg)) hx hb K U rfl (by decide) rfl hi_13 rfl dX6_number_48 ?_
        refine lv_aload_n hx hb dX6_number_49 rfl (lv_at hl 0 rfl) ?_
        refine u_get (C := RX6) (T := TX6) (N := 31) (v := .ref (g.2.1 29)) hx hb hts hX6_number_X6 hown K U 5 5 (by decide) rfl rfl 1 (by decide) (hts (.fieldLink RX6 18 "TrialSearchModel" "many" "[I") (by decide +kernel)) rfl rfl dX6_number_50 ?_
        refine lv_iload_n hx hb dX6_number_53 rfl (lv_at hl 2 rfl) ?_
        obtain ⟨hi_14, hw⟩ := hw
        refine u_iald (k := 29) (v := (A 29 v3.toNatClampNeg)) hx hb K U rfl (by decide) rfl hi_14 rfl dX6_number_54 ?_
        refine lv_icmp_lt (tgt := 62) hx hb dX6_number_55 (by decide) (fun c_15 => ?_) (fun c_15 => ?_)
        · have hw := hw.1 c_15
          obtain ⟨v3_16, ev3_16⟩ : ∃ y : Int32, y = v3 + 1 := ⟨_, rfl⟩
          have hw := hw v3_16 ev3_16
          refine lv_iinc (v := v3_16) (lv' := [(3, .int v3_16), (0, .ref (g.2.1 5)), (1, .long v1)]) hx hb dX6_number_62 hl (k := 2) rfl (by rw [ev3_16]; rfl) (by decide) rfl (fun ls hl => ?_)
          refine lv_goto (tgt := 2) hx hb dX6_number_65 (by decide) ?_
          exact ih hw U (lv_sub hl [1, 2, 0] rfl) 
        · have hw := hw.2 c_15
          refine lv_ldc2 (v := -2) hx hb hown (hts (.constantLong RX6 120 (-2)) (by decide +kernel)) dX6_number_58 ?_
          exact u_lret hx hb hr hlocks U ⟨rfl, hw⟩ dX6_number_61
set_option maxHeartbeats 4000000 in
set_option maxRecDepth 100000 in
theorem c_X6_number {l : Launch} {g : uG} {a0 : Int64} {A : SA} {B : SB} {Q : Int64 → SA → Prop} (hw : wp_X6_number a0 A B Q) : ML l yX6_number wsX6_number rmX6_number g A B [.ref (g.2.1 5), .long a0] (fun r A1 B1 => B1 = B ∧ Q r A1 ) := by
  refine u_of (cc := cX6_number) (maxL := 4) (ret := (some .long)) (by decide) rfl (Nat.le_of_ble_eq_true rfl) ?_
  intro p e s m below meth c ls C K U hl
  obtain ⟨hx, hb, hml, hown, hts, hr, hlocks⟩ := id C
  have S : CallFix p m c cX6_number 4 s ([.ref (g.2.1 5), .long a0] : List Value).toArray wsX6_number RX6 := ⟨hx, hb, hml, hown, hts⟩
  have hl : lv_has ls 4 [(0, .ref (g.2.1 5)), (1, .long a0)] := hl
  refine lv_iconst (v := 0) hx hb dX6_number_0 (by decide) ?_
  refine lv_istore_n (lv' := [(3, .int (0 : Int32)), (0, .ref (g.2.1 5)), (1, .long a0)]) hx hb dX6_number_1 rfl hl (by decide) rfl (fun ls hl => ?_)
  obtain ⟨n_17, hw⟩ := hw
  refine t_X6_number_2 C K hw U (lv_sub hl [1, 2, 0] rfl) 
