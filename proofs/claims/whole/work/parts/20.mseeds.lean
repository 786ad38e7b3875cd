set_option maxHeartbeats 4000000 in
set_option maxRecDepth 100000 in
theorem t_J7_fill_53178_5 {p : Program} {l : Launch} {e : Env} {s : State} {m : MethodId} {args : Array Value} {below : List Frame} {meth : Method} {c : Code} {g : uG} {E20 : SA → Prop} {Q : SA → Prop} {v0 : Nat} {v1 : Int32} {v3 : Int32} {B : SB} (C : uC p s m args meth c cJ7_fill_53178 4 RJ7 wsJ7_fill_53178 none) (K : UK g s) :
    ∀ {n : Nat} {v2 : Int32} {A : SA} {H : Heap} {locs : List Loc} {ls : Array Slot}, wp_J7_fill_53178_5 E20 Q v0 v1 v3 B n v2 A → UU g A B s.heap H locs → lv_has ls 4 [(0, .ref (g.2.1 v0)), (1, .int v1), (2, .int v2), (3, .int v3)] → (∀ (A : SA) (H : Heap) (locs : List Loc) (ls : Array Slot), UU g A B s.heap H locs → lv_has ls 4 [] → E20 A → W p l e rmJ7_fill_53178 s m args below meth c H locs 0 0 (MQ below (uQv g (fun A1 B1 => B1 = B ∧ Q A1 )) args s 0 0 (FA g)) (F0 m 20 ls [])) → W p l e rmJ7_fill_53178 s m args below meth c H locs 0 0 (MQ below (uQv g (fun A1 B1 => B1 = B ∧ Q A1 )) args s 0 0 (FA g)) (F0 m 5 ls []) := by
  obtain ⟨hx, hb, hml, hown, hts, hr, hlocks⟩ := id C
  have S : CallFix p m c cJ7_fill_53178 4 s args wsJ7_fill_53178 RJ7 := ⟨hx, hb, hml, hown, hts⟩
  intro n
  induction n with
  | zero => intro _ _ _ _ _ hw; exact False.elim hw
  | succ n ih =>
    intro v2 A H locs ls hw U hl h20
    refine lv_iload_n hx hb dJ7_fill_53178_5 rfl (lv_at hl 2 rfl) ?_
    refine lv_iload_n hx hb dJ7_fill_53178_6 rfl (lv_at hl 3 rfl) ?_
    refine lv_icmp_ge (tgt := 20) hx hb dJ7_fill_53178_7 (by decide) (fun c_4 => ?_) (fun c_4 => ?_)
    · have hw := hw.1 c_4
      exact h20 _ _ _ _ U (lv_sub hl [] rfl) hw
    · have hw := hw.2 c_4
      refine lv_aload_n hx hb dJ7_fill_53178_10 rfl (lv_at hl 0 rfl) ?_
      refine lv_iload_n hx hb dJ7_fill_53178_11 rfl (lv_at hl 2 rfl) ?_
      refine lv_iload_n hx hb dJ7_fill_53178_12 rfl (lv_at hl 1 rfl) ?_
      obtain ⟨⟨hk_6, hk_7, hi_5⟩, hw⟩ := hw
      refine u_iast (k := v0) hx hb K U hk_6 hk_7 rfl hi_5 dJ7_fill_53178_13 (fun H locs U => ?_)
      obtain ⟨v2_8, ev2_8⟩ : ∃ y : Int32, y = v2 + 1 := ⟨_, rfl⟩
      have hw := hw v2_8 ev2_8
      refine lv_iinc (v := v2_8) (lv' := [(2, .int v2_8), (0, .ref (g.2.1 v0)), (1, .int v1), (3, .int v3)]) hx hb dJ7_fill_53178_14 hl (k := 2) rfl (by rw [ev2_8]; rfl) (by decide) rfl (fun ls hl => ?_)
      refine lv_goto (tgt := 5) hx hb dJ7_fill_53178_17 (by decide) ?_
      exact ih hw U (lv_sub hl [1, 2, 0, 3] rfl) h20
set_option maxHeartbeats 4000000 in
set_option maxRecDepth 100000 in
theorem c_J7_fill_53178 {l : Launch} {g : uG} {a0 : Nat} {a1 : Int32} {A : SA} {B : SB} {Q : SA → Prop} (hw : wp_J7_fill_53178 a0 a1 A B Q) : MV l yJ7_fill_53178 wsJ7_fill_53178 rmJ7_fill_53178 g A B [.ref (g.2.1 a0), .int a1] (fun A1 B1 => B1 = B ∧ Q A1 ) := by
  refine u_of (cc := cJ7_fill_53178) (maxL := 4) (ret := none) (by decide) rfl (Nat.le_of_ble_eq_true rfl) ?_
  intro p e s m below meth c ls C K U hl
  obtain ⟨hx, hb, hml, hown, hts, hr, hlocks⟩ := id C
  have S : CallFix p m c cJ7_fill_53178 4 s ([.ref (g.2.1 a0), .int a1] : List Value).toArray wsJ7_fill_53178 RJ7 := ⟨hx, hb, hml, hown, hts⟩
  have hl : lv_has ls 4 [(0, .ref (g.2.1 a0)), (1, .int a1)] := hl
  refine lv_iconst (v := 0) hx hb dJ7_fill_53178_0 (by decide) ?_
  refine lv_istore_n (lv' := [(2, .int (0 : Int32)), (0, .ref (g.2.1 a0)), (1, .int a1)]) hx hb dJ7_fill_53178_1 rfl hl (by decide) rfl (fun ls hl => ?_)
  refine lv_aload_n hx hb dJ7_fill_53178_2 rfl (lv_at hl 1 rfl) ?_
  obtain ⟨⟨hk_1, hk_2⟩, hw⟩ := hw
  refine u_alen (k := a0) hx hb K U hk_1 hk_2 rfl dJ7_fill_53178_3 ?_
  refine lv_topi (fun x_3 ex_3 => ?_)
  have hw := hw x_3 ex_3
  refine lv_istore_n (lv' := [(3, .int x_3), (2, .int (0 : Int32)), (0, .ref (g.2.1 a0)), (1, .int a1)]) hx hb dJ7_fill_53178_4 rfl hl (by decide) rfl (fun ls hl => ?_)
  obtain ⟨n_9, hw⟩ := hw
  refine t_J7_fill_53178_5 C K hw U (lv_sub hl [2, 3, 1, 0] rfl) (fun A_10 H locs ls U hl hw => ?_)
  exact u_vret hx hb hr hlocks U ⟨rfl, hw⟩ dJ7_fill_53178_20
set_option maxHeartbeats 4000000 in
set_option maxRecDepth 100000 in
theorem c_X2_hash {l : Launch} {g : uG} {a0 : Int32} {a1 : Int32} {A : SA} {B : SB} {Q : Int32 → Prop} (hw : wp_X2_hash a0 a1 A B Q) : MI l yX2_hash wsX2_hash rmX2_hash g A B [.int a0, .int a1] (fun r A1 B1 => A1 = A ∧ B1 = B ∧ Q r ) := by
  refine u_of (cc := cX2_hash) (maxL := 3) (ret := (some .int)) (by decide) rfl (Nat.le_of_ble_eq_true rfl) ?_
  intro p e s m below meth c ls C K U hl
  obtain ⟨hx, hb, hml, hown, hts, hr, hlocks⟩ := id C
  have S : CallFix p m c cX2_hash 3 s ([.int a0, .int a1] : List Value).toArray wsX2_hash RX2 := ⟨hx, hb, hml, hown, hts⟩
  have hl : lv_has ls 3 [(0, .int a0), (1, .int a1)] := hl
  refine lv_iload_n hx hb dX2_hash_0 rfl (lv_at hl 0 rfl) ?_
  refine lv_iload_n hx hb dX2_hash_1 rfl (lv_at hl 1 rfl) ?_
  refine lv_ldc (v := -1640531527) hx hb hown (hts (.constant RX2 7 (-1640531527)) (by decide +kernel)) dX2_hash_2 ?_
  refine lv_imul hx hb dX2_hash_4 ?_
  refine lv_iadd hx hb dX2_hash_5 ?_
  refine lv_topi (fun x_1 ex_1 => ?_)
  have hw := hw x_1 ex_1
  refine lv_istore_n (lv' := [(2, .int x_1), (0, .int a0), (1, .int a1)]) hx hb dX2_hash_6 rfl hl (by decide) rfl (fun ls hl => ?_)
  refine lv_iload_n hx hb dX2_hash_7 rfl (lv_at hl 0 rfl) ?_
  refine lv_iload_n hx hb dX2_hash_8 rfl (lv_at hl 0 rfl) ?_
  refine lv_bipush (v := 16) hx hb dX2_hash_9 (by decide) ?_
  refine lv_iushr hx hb dX2_hash_11 rfl ?_
  refine lv_ixor hx hb dX2_hash_12 ?_
  refine lv_ldc (v := -2048144789) hx hb hown (hts (.constant RX2 8 (-2048144789)) (by decide +kernel)) dX2_hash_13 ?_
  refine lv_imul hx hb dX2_hash_15 ?_
  refine lv_topi (fun x_2 ex_2 => ?_)
  have hw := hw x_2 ex_2
  refine lv_istore_n (lv' := [(2, .int x_2), (0, .int a0), (1, .int a1)]) hx hb dX2_hash_16 rfl hl (by decide) rfl (fun ls hl => ?_)
  refine lv_iload_n hx hb dX2_hash_17 rfl (lv_at hl 0 rfl) ?_
  refine lv_iload_n hx hb dX2_hash_18 rfl (lv_at hl 0 rfl) ?_
  refine lv_bipush (v := 13) hx hb dX2_hash_19 (by decide) ?_
  refine lv_iushr hx hb dX2_hash_21 rfl ?_
  refine lv_ixor hx hb dX2_hash_22 ?_
  refine lv_ldc (v := -1028477387) hx hb hown (hts (.constant RX2 9 (-1028477387)) (by decide +kernel)) dX2_hash_23 ?_
  refine lv_imul hx hb dX2_hash_25 ?_
  refine lv_topi (fun x_3 ex_3 => ?_)
  have hw := hw x_3 ex_3
  refine lv_istore_n (lv' := [(2, .int x_3), (0, .int a0), (1, .int a1)]) hx hb dX2_hash_26 rfl hl (by decide) rfl (fun ls hl => ?_)
  refine lv_iload_n hx hb dX2_hash_27 rfl (lv_at hl 0 rfl) ?_
  refine lv_iload_n hx hb dX2_hash_28 rfl (lv_at hl 0 rfl) ?_
  refine lv_bipush (v := 16) hx hb dX2_hash_29 (by decide) ?_
  refine lv_iushr hx hb dX2_hash_31 rfl ?_
  refine lv_ixor hx hb dX2_hash_32 ?_
  exact u_iret hx hb hr hlocks U ⟨rfl, rfl, hw⟩ dX2_hash_33
set_option maxHeartbeats 4000000 in
set_option maxRecDepth 100000 in
theorem c_X5_rest {l : Launch} {g : uG} {a0 : Int64} {a1 : Int64} {A : SA} {B : SB} {Q : Int64 → Prop} (hw : wp_X5_rest a0 a1 A B Q) : ML l yX5_rest wsX5_rest rmX5_rest g A B [.long a0, .long a1] (fun r A1 B1 => A1 = A ∧ B1 = B ∧ Q r ) := by
  refine u_of (cc := cX5_rest) (maxL := 4) (ret := (some .long)) (by decide) rfl (Nat.le_of_ble_eq_true rfl) ?_
  intro p e s m below meth c ls C K U hl
  obtain ⟨hx, hb, hml, hown, hts, hr, hlocks⟩ := id C
  have S : CallFix p m c cX5_rest 4 s ([.long a0, .long a1] : List Value).toArray wsX5_rest RX5 := ⟨hx, hb, hml, hown, hts⟩
  have hl : lv_has ls 4 [(0, .long a0), (2, .long a1)] := hl
  refine lv_lload_n hx hb dX5_rest_0 rfl (lv_at hl 1 rfl) ?_
  refine lv_lconst (v := 0) hx hb dX5_rest_1 (by decide) ?_
  refine u_lc_le (tgt := 12) hx hb dX5_rest_2 dX5_rest_3 (by decide) (fun c_1 => ?_) (fun c_1 => ?_)
  · have hw := hw.1 c_1
    refine lv_lconst (v := 0) hx hb dX5_rest_12 (by decide) ?_
    exact u_lret hx hb hr hlocks U ⟨rfl, rfl, hw⟩ dX5_rest_13
  · have hw := hw.2 c_1
    refine lv_lload_n hx hb dX5_rest_6 rfl (lv_at hl 0 rfl) ?_
    refine lv_lload_n hx hb dX5_rest_7 rfl (lv_at hl 1 rfl) ?_
    obtain ⟨hz_2, hw⟩ := hw
    refine lv_lrem hx hb dX5_rest_8 hz_2 ?_
    refine lv_goto (tgt := 13) hx hb dX5_rest_9 (by decide) ?_
    exact u_lret hx hb hr hlocks U ⟨rfl, rfl, hw⟩ dX5_rest_13
set_option maxHeartbeats 4000000 in
set_option maxRecDepth 100000 in
theorem c_X5_cut {l : Launch} {g : uG} {a0 : Int64} {a1 : Int64} {A : SA} {B : SB} {Q : Int64 → Prop} (hw : wp_X5_cut a0 a1 A B Q) : ML l yX5_cut wsX5_cut rmX5_cut g A B [.long a0, .long a1] (fun r A1 B1 => A1 = A ∧ B1 = B ∧ Q r ) := by
  refine u_of (cc := cX5_cut) (maxL := 4) (ret := (some .long)) (by decide) rfl (Nat.le_of_ble_eq_true rfl) ?_
  intro p e s m below meth c ls C K U hl
  obtain ⟨hx, hb, hml, hown, hts, hr, hlocks⟩ := id C
  have S : CallFix p m c cX5_cut 4 s ([.long a0, .long a1] : List Value).toArray wsX5_cut RX5 := ⟨hx, hb, hml, hown, hts⟩
  have hl : lv_has ls 4 [(0, .long a0), (2, .long a1)] := hl
  refine lv_lload_n hx hb dX5_cut_0 rfl (lv_at hl 1 rfl) ?_
  refine lv_lconst (v := 0) hx hb dX5_cut_1 (by decide) ?_
  refine u_lc_le (tgt := 12) hx hb dX5_cut_2 dX5_cut_3 (by decide) (fun c_1 => ?_) (fun c_1 => ?_)
  · have hw := hw.1 c_1
    refine lv_lconst (v := 0) hx hb dX5_cut_12 (by decide) ?_
    exact u_lret hx hb hr hlocks U ⟨rfl, rfl, hw⟩ dX5_cut_13
  · have hw := hw.2 c_1
    refine lv_lload_n hx hb dX5_cut_6 rfl (lv_at hl 0 rfl) ?_
    refine lv_lload_n hx hb dX5_cut_7 rfl (lv_at hl 1 rfl) ?_
    obtain ⟨hz_2, hw⟩ := hw
    refine lv_ldiv hx hb dX5_cut_8 hz_2 ?_
    refine lv_goto (tgt := 13) hx hb dX5_cut_9 (by decide) ?_
    exact u_lret hx hb hr hlocks U ⟨rfl, rfl, hw⟩ dX5_cut_13
set_option maxHeartbeats 4000000 in
set_option maxRecDepth 100000 in
theorem t_X2_bitsFor_2 {p : Program} {l : Launch} {e : Env} {s : State} {m : MethodId} {args : Array Value} {below : List Frame} {meth : Method} {c : Code} {g : uG} {E22 : Int32 → Prop} {Q : Int32 → Prop} {v0 : Int64} {A : SA} {B : SB} (C : uC p s m args meth c cX2_bitsFor 3 RX2 wsX2_bitsFor (some .int)) (K : UK g s) :
    ∀ {n : Nat} {v2 : Int32} {H : Heap} {locs : List Loc} {ls : Array Slot}, wp_X2_bitsFor_2 E22 Q v0 A B n v2 → UU g A B s.heap H locs → lv_has ls 3 [(0, .long v0), (2, .int v2)] → (∀ (v2 : Int32) (H : Heap) (locs : List Loc) (ls : Array Slot), UU g A B s.heap H locs → lv_has ls 3 [(2, .int v2)] → E22 v2 → W p l e rmX2_bitsFor s m args below meth c H locs 0 0 (MQ below (uQi g (fun r A1 B1 => A1 = A ∧ B1 = B ∧ Q r )) args s 0 0 (FA g)) (F0 m 22 ls [])) → W p l e rmX2_bitsFor s m args below meth c H locs 0 0 (MQ below (uQi g (fun r A1 B1 => A1 = A ∧ B1 = B ∧ Q r )) args s 0 0 (FA g)) (F0 m 2 ls []) := by
  obtain ⟨hx, hb, hml, hown, hts, hr, hlocks⟩ := id C
  have S : CallFix p m c cX2_bitsFor 3 s args wsX2_bitsFor RX2 := ⟨hx, hb, hml, hown, hts⟩
  intro n
  induction n with
  | zero => intro _ _ _ _ hw; exact False.elim hw
  | succ n ih =>
    intro v2 H locs ls hw U hl h22
    refine lv_iload_n hx hb dX2_bitsFor_2 rfl (lv_at hl 1 rfl) ?_
    refine lv_bipush (v := 62) hx hb dX2_bitsFor_3 (by decide) ?_
    refine lv_icmp_ge (tgt := 22) hx hb dX2_bitsFor_5 (by decide) (fun c_1 => ?_) (fun c_1 => ?_)
    · have hw := hw.1 c_1
      exact h22 _ _ _ _ U (lv_sub hl [1] rfl) hw
    · have hw := hw.2 c_1
      refine lv_lconst (v := 1) hx hb dX2_bitsFor_8 (by decide) ?_
      refine lv_iload_n hx hb dX2_bitsFor_9 rfl (lv_at hl 1 rfl) ?_
      refine lv_lshl hx hb dX2_bitsFor_10 rfl ?_
      refine lv_lload_n hx hb dX2_bitsFor_11 rfl (lv_at hl 0 rfl) ?_
      refine u_lc_ge (tgt := 22) hx hb dX2_bitsFor_12 dX2_bitsFor_13 (by decide) (fun c_2 => ?_) (fun c_2 => ?_)
      · have hw := hw.1 c_2
        exact h22 _ _ _ _ U (lv_sub hl [1] rfl) hw
      · have hw := hw.2 c_2
        obtain ⟨v2_3, ev2_3⟩ : ∃ y : Int32, y = v2 + 1 := ⟨_, rfl⟩
        have hw := hw v2_3 ev2_3
        refine lv_iinc (v := v2_3) (lv' := [(2, .int v2_3), (0, .long v0)]) hx hb dX2_bitsFor_16 hl (k := 1) rfl (by rw [ev2_3]; rfl) (by decide) rfl (fun ls hl => ?_)
        refine lv_goto (tgt := 2) hx hb dX2_bitsFor_19 (by decide) ?_
        exact ih hw U (lv_sub hl [1, 0] rfl) h22
set_option maxHeartbeats 4000000 in
set_option maxRecDepth 100000 in
theorem c_X2_bitsFor {l : Launch} {g : uG} {a0 : Int64} {A : SA} {B : SB} {Q : Int32 → Prop} (hw : wp_X2_bitsFor a0 A B Q) : MI l yX2_bitsFor wsX2_bitsFor rmX2_bitsFor g A B [.long a0] (fun r A1 B1 => A1 = A ∧ B1 = B ∧ Q r ) := by
  refine u_of (cc := cX2_bitsFor) (maxL := 3) (ret := (some .int)) (by decide) rfl (Nat.le_of_ble_eq_true rfl) ?_
  intro p e s m below meth c ls C K U hl
  obtain ⟨hx, hb, hml, hown, hts, hr, hlocks⟩ := id C
  have S : CallFix p m c cX2_bitsFor 3 s ([.long a0] : List Value).toArray wsX2_bitsFor RX2 := ⟨hx, hb, hml, hown, hts⟩
  have hl : lv_has ls 3 [(0, .long a0)] := hl
  refine lv_iconst (v := 0) hx hb dX2_bitsFor_0 (by decide) ?_
  refine lv_istore_n (lv' := [(2, .int (0 : Int32)), (0, .long a0)]) hx hb dX2_bitsFor_1 rfl hl (by decide) rfl (fun ls hl => ?_)
  obtain ⟨n_4, hw⟩ := hw
  refine t_X2_bitsFor_2 C K hw U (lv_sub hl [1, 0] rfl) (fun v2_5 H locs ls U hl hw => ?_)
  refine lv_iload_n hx hb dX2_bitsFor_22 rfl (lv_at hl 0 rfl) ?_
  exact u_iret hx hb hr hlocks U ⟨rfl, rfl, hw⟩ dX2_bitsFor_23
set_option maxHeartbeats 4000000 in
set_option maxRecDepth 100000 in
theorem c_X2_twoHashes {l : Launch} {g : uG} {a0 : Int32} {a1 : Int32} {A : SA} {B : SB} {Q : Int64 → Prop} (hw : wp_X2_twoHashes a0 a1 A B Q) : ML l yX2_twoHashes wsX2_twoHashes rmX2_twoHashes g A B [.int a0, .int a1] (fun r A1 B1 => A1 = A ∧ B1 = B ∧ Q r ) := by
  refine u_of (cc := cX2_twoHashes) (maxL := 6) (ret := (some .long)) (by decide) rfl (Nat.le_of_ble_eq_true rfl) ?_
  intro p e s m below meth c ls C K U hl
  obtain ⟨hx, hb, hml, hown, hts, hr, hlocks⟩ := id C
  have S : CallFix p m c cX2_twoHashes 6 s ([.int a0, .int a1] : List Value).toArray wsX2_twoHashes RX2 := ⟨hx, hb, hml, hown, hts⟩
  have hl : lv_has ls 6 [(0, .int a0), (1, .int a1)] := hl
  refine lv_iload_n hx hb dX2_twoHashes_0 rfl (lv_at hl 0 rfl) ?_
  refine lv_iconst (v := 2) hx hb dX2_twoHashes_1 (by decide) ?_
  refine lv_iload_n hx hb dX2_twoHashes_2 rfl (lv_at hl 1 rfl) ?_
  refine lv_imul hx hb dX2_twoHashes_3 ?_
  refine lv_iconst (v := 1) hx hb dX2_twoHashes_4 (by decide) ?_
  refine lv_iadd hx hb dX2_twoHashes_5 ?_
  refine u_ci (u_rS (As := [.int a0, .int (((2 : Int32) * a1) + (1 : Int32))]) (rest := []) S K U (c_X2_hash hw) (va_cwS 2 hts gX2_twoHashes_X2_hash rfl rfl rfl (by decide +kernel) ⟨Nat.le_of_ble_eq_true rfl, Nat.le_of_ble_eq_true rfl⟩) rfl hl.1 rfl (Nat.le_of_ble_eq_true rfl) dX2_twoHashes_6 ⟨Nat.zero_le _, Nat.zero_le _⟩) U (fun r_1 A_2 B_3 H locs U9 hw => ?_)
  obtain ⟨eA, eB, hw⟩ := hw
  rw [eA, eB] at U9
  have U := U9
  refine lv_i2l hx hb dX2_twoHashes_9 rfl ?_
  refine lv_topl (fun x_4 ex_4 => ?_)
  have hw := hw x_4 ex_4
  refine lv_lstore_n (lv' := [(2, .long x_4), (0, .int a0), (1, .int a1)]) hx hb dX2_twoHashes_10 rfl hl (by decide) rfl (fun ls hl => ?_)
  refine lv_iload_n hx hb dX2_twoHashes_11 rfl (lv_at hl 1 rfl) ?_
  refine lv_iconst (v := 2) hx hb dX2_twoHashes_12 (by decide) ?_
  refine lv_iload_n hx hb dX2_twoHashes_13 rfl (lv_at hl 2 rfl) ?_
  refine lv_imul hx hb dX2_twoHashes_14 ?_
  refine lv_iconst (v := 2) hx hb dX2_twoHashes_15 (by decide) ?_
  refine lv_iadd hx hb dX2_twoHashes_16 ?_
  refine u_ci (u_rS (As := [.int a0, .int (((2 : Int32) * a1) + (2 : Int32))]) (rest := []) S K U (c_X2_hash hw) (va_cwS 2 hts gX2_twoHashes_X2_hash rfl rfl rfl (by decide +kernel) ⟨Nat.le_of_ble_eq_true rfl, Nat.le_of_ble_eq_true rfl⟩) rfl hl.1 rfl (Nat.le_of_ble_eq_true rfl) dX2_twoHashes_17 ⟨Nat.zero_le _, Nat.zero_le _⟩) U (fun r_5 A_6 B_7 H locs U9 hw => ?_)
  obtain ⟨eA, eB, hw⟩ := hw
  rw [eA, eB] at U9
  have U := U9
  refine lv_i2l hx hb dX2_twoHashes_20 rfl ?_
  refine lv_topl (fun x_8 ex_8 => ?_)
  have hw := hw x_8 ex_8
  refine lv_lstore (lv' := [(4, .long x_8), (2, .long x_4), (0, .int a0), (1, .int a1)]) hx hb dX2_twoHashes_21 hl (by decide) rfl (fun ls hl => ?_)
  refine lv_lload_n hx hb dX2_twoHashes_23 rfl (lv_at hl 1 rfl) ?_
  refine lv_bipush (v := 32) hx hb dX2_twoHashes_24 (by decide) ?_
  refine lv_lshl hx hb dX2_twoHashes_26 rfl ?_
  refine lv_lload hx hb dX2_twoHashes_27 (lv_at hl 0 rfl) ?_
  refine lv_ldc2 (v := 4294967295) hx hb hown (hts (.constantLong RX2 25 (4294967295)) (by decide +kernel)) dX2_twoHashes_29 ?_
  refine lv_land hx hb dX2_twoHashes_32 ?_
  refine lv_lor hx hb dX2_twoHashes_33 ?_
  exact u_lret hx hb hr hlocks U ⟨rfl, rfl, hw⟩ dX2_twoHashes_34
set_option maxHeartbeats 4000000 in
set_option maxRecDepth 100000 in
theorem t_X2_pick_14 {p : Program} {l : Launch} {e : Env} {s : State} {m : MethodId} {args : Array Value} {below : List Frame} {meth : Method} {c : Code} {g : uG}  {Q : Int64 → Prop} {v0 : Int64} {v2 : Int32} {v3 : Int32} {A : SA} {B : SB} (C : uC p s m args meth c cX2_pick 7 RX2 wsX2_pick (some .long)) (K : UK g s) :
    ∀ {n : Nat} {v4 : Int32} {H : Heap} {locs : List Loc} {ls : Array Slot}, wp_X2_pick_14  Q v0 v2 v3 A B n v4 → UU g A B s.heap H locs → lv_has ls 7 [(0, .long v0), (2, .int v2), (3, .int v3), (4, .int v4)] →  W p l e rmX2_pick s m args below meth c H locs 0 0 (MQ below (uQl g (fun r A1 B1 => A1 = A ∧ B1 = B ∧ Q r )) args s 0 0 (FA g)) (F0 m 14 ls []) := by
  obtain ⟨hx, hb, hml, hown, hts, hr, hlocks⟩ := id C
  have S : CallFix p m c cX2_pick 7 s args wsX2_pick RX2 := ⟨hx, hb, hml, hown, hts⟩
  intro n
  induction n with
  | zero => intro _ _ _ _ hw; exact False.elim hw
  | succ n ih =>
    intro v4 H locs ls hw U hl 
    refine lv_iload hx hb dX2_pick_14 (lv_at hl 3 rfl) ?_
    refine lv_ldc (v := 1000000) hx hb hown (hts (.constant RX2 16 (1000000)) (by decide +kernel)) dX2_pick_16 ?_
    refine lv_icmp_ge (tgt := 50) hx hb dX2_pick_18 (by decide) (fun c_5 => ?_) (fun c_5 => ?_)
    · have hw := hw.1 c_5
      refine lv_lconst (v := 0) hx hb dX2_pick_50 (by decide) ?_
      exact u_lret hx hb hr hlocks U ⟨rfl, rfl, hw⟩ dX2_pick_51
    · have hw := hw.2 c_5
      refine lv_iload_n hx hb dX2_pick_21 rfl (lv_at hl 1 rfl) ?_
      refine lv_iload hx hb dX2_pick_22 (lv_at hl 3 rfl) ?_
      refine u_cl (u_rS (As := [.int v2, .int v4]) (rest := []) S K U (c_X2_twoHashes hw) (va_cwS 2 hts gX2_pick_X2_twoHashes rfl rfl rfl (by decide +kernel) ⟨Nat.le_of_ble_eq_true rfl, Nat.le_of_ble_eq_true rfl⟩) rfl hl.1 rfl (Nat.le_of_ble_eq_true rfl) dX2_pick_24 ⟨Nat.zero_le _, Nat.zero_le _⟩) U (fun r_6 A_7 B_8 H locs U9 hw => ?_)
      obtain ⟨eA, eB, hw⟩ := hw
      rw [eA, eB] at U9
      have U := U9
      refine lv_bipush (v := 64) hx hb dX2_pick_27 (by decide) ?_
      refine lv_iload_n hx hb dX2_pick_29 rfl (lv_at hl 2 rfl) ?_
      refine lv_isub hx hb dX2_pick_30 ?_
      refine lv_lushr hx hb dX2_pick_31 rfl ?_
      refine lv_topl (fun x_9 ex_9 => ?_)
      have hw := hw x_9 ex_9
      refine lv_lstore (lv' := [(5, .long x_9), (0, .long v0), (2, .int v2), (3, .int v3), (4, .int v4)]) hx hb dX2_pick_32 hl (by decide) rfl (fun ls hl => ?_)
      refine lv_lload hx hb dX2_pick_34 (lv_at hl 0 rfl) ?_
      refine lv_lload_n hx hb dX2_pick_36 rfl (lv_at hl 1 rfl) ?_
      refine u_lc_ge (tgt := 44) hx hb dX2_pick_37 dX2_pick_38 (by decide) (fun c_10 => ?_) (fun c_10 => ?_)
      · have hw := hw.1 c_10
        obtain ⟨v4_11, ev4_11⟩ : ∃ y : Int32, y = v4 + 1 := ⟨_, rfl⟩
        have hw := hw v4_11 ev4_11
        refine lv_iinc (v := v4_11) (lv' := [(4, .int v4_11), (5, .long x_9), (0, .long v0), (2, .int v2), (3, .int v3)]) hx hb dX2_pick_44 hl (k := 4) rfl (by rw [ev4_11]; rfl) (by decide) rfl (fun ls hl => ?_)
        refine lv_goto (tgt := 14) hx hb dX2_pick_47 (by decide) ?_
        exact ih hw U (lv_sub hl [2, 3, 4, 0] rfl) 
      · have hw := hw.2 c_10
        refine lv_lload hx hb dX2_pick_41 (lv_at hl 0 rfl) ?_
        exact u_lret hx hb hr hlocks U ⟨rfl, rfl, hw⟩ dX2_pick_43
set_option maxHeartbeats 4000000 in
set_option maxRecDepth 100000 in
theorem c_X2_pick {l : Launch} {g : uG} {a0 : Int64} {a1 : Int32} {A : SA} {B : SB} {Q : Int64 → Prop} (hw : wp_X2_pick a0 a1 A B Q) : ML l yX2_pick wsX2_pick rmX2_pick g A B [.long a0, .int a1] (fun r A1 B1 => A1 = A ∧ B1 = B ∧ Q r ) := by
  refine u_of (cc := cX2_pick) (maxL := 7) (ret := (some .long)) (by decide) rfl (Nat.le_of_ble_eq_true rfl) ?_
  intro p e s m below meth c ls C K U hl
  obtain ⟨hx, hb, hml, hown, hts, hr, hlocks⟩ := id C
  have S : CallFix p m c cX2_pick 7 s ([.long a0, .int a1] : List Value).toArray wsX2_pick RX2 := ⟨hx, hb, hml, hown, hts⟩
  have hl : lv_has ls 7 [(0, .long a0), (2, .int a1)] := hl
  refine lv_lload_n hx hb dX2_pick_0 rfl (lv_at hl 0 rfl) ?_
  refine u_ci (u_rS (As := [.long a0]) (rest := []) S K U (c_X2_bitsFor hw) (va_cwS 1 hts gX2_pick_X2_bitsFor rfl rfl rfl (by decide +kernel) ⟨Nat.le_of_ble_eq_true rfl, Nat.le_of_ble_eq_true rfl⟩) rfl hl.1 rfl (Nat.le_of_ble_eq_true rfl) dX2_pick_1 ⟨Nat.zero_le _, Nat.zero_le _⟩) U (fun r_1 A_2 B_3 H locs U9 hw => ?_)
  obtain ⟨eA, eB, hw⟩ := hw
  rw [eA, eB] at U9
  have U := U9
  refine lv_istore_n (lv' := [(3, .int r_1), (0, .long a0), (2, .int a1)]) hx hb dX2_pick_4 rfl hl (by decide) rfl (fun ls hl => ?_)
  refine lv_iload_n hx hb dX2_pick_5 rfl (lv_at hl 0 rfl) ?_
  refine lv_if_ne (tgt := 11) hx hb dX2_pick_6 (by decide) (fun c_4 => ?_) (fun c_4 => ?_)
  · have hw := hw.1 c_4
    refine lv_iconst (v := 0) hx hb dX2_pick_11 (by decide) ?_
    refine lv_istore (lv' := [(4, .int (0 : Int32)), (3, .int r_1), (0, .long a0), (2, .int a1)]) hx hb dX2_pick_12 hl (by decide) rfl (fun ls hl => ?_)
    obtain ⟨n_12, hw⟩ := hw
    refine t_X2_pick_14 C K hw U (lv_sub hl [2, 3, 1, 0] rfl) 
  · have hw := hw.2 c_4
    refine lv_lconst (v := 0) hx hb dX2_pick_9 (by decide) ?_
    exact u_lret hx hb hr hlocks U ⟨rfl, rfl, hw⟩ dX2_pick_10
set_option maxHeartbeats 4000000 in
set_option maxRecDepth 100000 in
theorem t_J7_fill_d0a16_6 {p : Program} {l : Launch} {e : Env} {s : State} {m : MethodId} {args : Array Value} {below : List Frame} {meth : Method} {c : Code} {g : uG} {E22 : SB → Prop} {Q : SB → Prop} {v0 : Nat} {v1 : Int64} {v4 : Int32} {A : SA} (C : uC p s m args meth c cJ7_fill_d0a16 5 RJ7 wsJ7_fill_d0a16 none) (K : UK g s) :
    ∀ {n : Nat} {v3 : Int32} {B : SB} {H : Heap} {locs : List Loc} {ls : Array Slot}, wp_J7_fill_d0a16_6 E22 Q v0 v1 v4 A n v3 B → UU g A B s.heap H locs → lv_has ls 5 [(0, .ref (g.2.1 v0)), (1, .long v1), (3, .int v3), (4, .int v4)] → (∀ (B : SB) (H : Heap) (locs : List Loc) (ls : Array Slot), UU g A B s.heap H locs → lv_has ls 5 [] → E22 B → W p l e rmJ7_fill_d0a16 s m args below meth c H locs 0 0 (MQ below (uQv g (fun A1 B1 => A1 = A ∧ Q B1)) args s 0 0 (FA g)) (F0 m 22 ls [])) → W p l e rmJ7_fill_d0a16 s m args below meth c H locs 0 0 (MQ below (uQv g (fun A1 B1 => A1 = A ∧ Q B1)) args s 0 0 (FA g)) (F0 m 6 ls []) := by
  obtain ⟨hx, hb, hml, hown, hts, hr, hlocks⟩ := id C
  have S : CallFix p m c cJ7_fill_d0a16 5 s args wsJ7_fill_d0a16 RJ7 := ⟨hx, hb, hml, hown, hts⟩
  intro n
  induction n with
  | zero => intro _ _ _ _ _ hw; exact False.elim hw
  | succ n ih =>
    intro v3 B H locs ls hw U hl h22
    refine lv_iload_n hx hb dJ7_fill_d0a16_6 rfl (lv_at hl 2 rfl) ?_
    refine lv_iload hx hb dJ7_fill_d0a16_7 (lv_at hl 3 rfl) ?_
    refine lv_icmp_ge (tgt := 22) hx hb dJ7_fill_d0a16_9 (by decide) (fun c_4 => ?_) (fun c_4 => ?_)
    · have hw := hw.1 c_4
      exact h22 _ _ _ _ U (lv_sub hl [] rfl) hw
    · have hw := hw.2 c_4
      refine lv_aload_n hx hb dJ7_fill_d0a16_12 rfl (lv_at hl 0 rfl) ?_
      refine lv_iload_n hx hb dJ7_fill_d0a16_13 rfl (lv_at hl 2 rfl) ?_
      refine lv_lload_n hx hb dJ7_fill_d0a16_14 rfl (lv_at hl 1 rfl) ?_
      obtain ⟨⟨hk_6, hk_7, hi_5⟩, hw⟩ := hw
      refine u_last (k := v0) hx hb K U hk_6 hk_7 rfl hi_5 dJ7_fill_d0a16_15 (fun H locs U => ?_)
      obtain ⟨v3_8, ev3_8⟩ : ∃ y : Int32, y = v3 + 1 := ⟨_, rfl⟩
      have hw := hw v3_8 ev3_8
      refine lv_iinc (v := v3_8) (lv' := [(3, .int v3_8), (0, .ref (g.2.1 v0)), (1, .long v1), (4, .int v4)]) hx hb dJ7_fill_d0a16_16 hl (k := 2) rfl (by rw [ev3_8]; rfl) (by decide) rfl (fun ls hl => ?_)
      refine lv_goto (tgt := 6) hx hb dJ7_fill_d0a16_19 (by decide) ?_
      exact ih hw U (lv_sub hl [1, 2, 0, 3] rfl) h22
set_option maxHeartbeats 4000000 in
set_option maxRecDepth 100000 in
theorem c_J7_fill_d0a16 {l : Launch} {g : uG} {a0 : Nat} {a1 : Int64} {A : SA} {B : SB} {Q : SB → Prop} (hw : wp_J7_fill_d0a16 a0 a1 A B Q) : MV l yJ7_fill_d0a16 wsJ7_fill_d0a16 rmJ7_fill_d0a16 g A B [.ref (g.2.1 a0), .long a1] (fun A1 B1 => A1 = A ∧ Q B1) := by
  refine u_of (cc := cJ7_fill_d0a16) (maxL := 5) (ret := none) (by decide) rfl (Nat.le_of_ble_eq_true rfl) ?_
  intro p e s m below meth c ls C K U hl
  obtain ⟨hx, hb, hml, hown, hts, hr, hlocks⟩ := id C
  have S : CallFix p m c cJ7_fill_d0a16 5 s ([.ref (g.2.1 a0), .long a1] : List Value).toArray wsJ7_fill_d0a16 RJ7 := ⟨hx, hb, hml, hown, hts⟩
  have hl : lv_has ls 5 [(0, .ref (g.2.1 a0)), (1, .long a1)] := hl
  refine lv_iconst (v := 0) hx hb dJ7_fill_d0a16_0 (by decide) ?_
  refine lv_istore_n (lv' := [(3, .int (0 : Int32)), (0, .ref (g.2.1 a0)), (1, .long a1)]) hx hb dJ7_fill_d0a16_1 rfl hl (by decide) rfl (fun ls hl => ?_)
  refine lv_aload_n hx hb dJ7_fill_d0a16_2 rfl (lv_at hl 1 rfl) ?_
  obtain ⟨⟨hk_1, hk_2⟩, hw⟩ := hw
  refine u_alen (k := a0) hx hb K U hk_1 hk_2 rfl dJ7_fill_d0a16_3 ?_
  refine lv_topi (fun x_3 ex_3 => ?_)
  have hw := hw x_3 ex_3
  refine lv_istore (lv' := [(4, .int x_3), (3, .int (0 : Int32)), (0, .ref (g.2.1 a0)), (1, .long a1)]) hx hb dJ7_fill_d0a16_4 hl (by decide) rfl (fun ls hl => ?_)
  obtain ⟨n_9, hw⟩ := hw
  refine t_J7_fill_d0a16_6 C K hw U (lv_sub hl [2, 3, 1, 0] rfl) (fun B_10 H locs ls U hl hw => ?_)
  exact u_vret hx hb hr hlocks U ⟨rfl, hw⟩ dJ7_fill_d0a16_22
set_option maxHeartbeats 4000000 in
set_option maxRecDepth 100000 in
theorem c_X5_within {l : Launch} {g : uG} {a0 : Int64} {a1 : Int64} {a2 : Int64} {A : SA} {B : SB} {Q : Int32 → Prop} (hw : wp_X5_within a0 a1 a2 A B Q) : MI l yX5_within wsX5_within rmX5_within g A B [.long a0, .long a1, .long a2] (fun r A1 B1 => A1 = A ∧ B1 = B ∧ Q r ) := by
  refine u_of (cc := cX5_within) (maxL := 6) (ret := (some .boolean)) (by decide) rfl (Nat.le_of_ble_eq_true rfl) ?_
  intro p e s m below meth c ls C K U hl
  obtain ⟨hx, hb, hml, hown, hts, hr, hlocks⟩ := id C
  have S : CallFix p m c cX5_within 6 s ([.long a0, .long a1, .long a2] : List Value).toArray wsX5_within RX5 := ⟨hx, hb, hml, hown, hts⟩
  have hl : lv_has ls 6 [(0, .long a0), (2, .long a1), (4, .long a2)] := hl
  refine lv_lload_n hx hb dX5_within_0 rfl (lv_at hl 1 rfl) ?_
  refine lv_lload_n hx hb dX5_within_1 rfl (lv_at hl 0 rfl) ?_
  refine u_lc_gt (tgt := 17) hx hb dX5_within_2 dX5_within_3 (by decide) (fun c_1 => ?_) (fun c_1 => ?_)
  · have hw := hw.1 c_1
    refine lv_iconst (v := 0) hx hb dX5_within_17 (by decide) ?_
    exact u_zret hx hb hr hlocks U (by decide +kernel) ⟨rfl, rfl, hw⟩ dX5_within_18
  · have hw := hw.2 c_1
    refine lv_lload_n hx hb dX5_within_6 rfl (lv_at hl 0 rfl) ?_
    refine lv_lload hx hb dX5_within_7 (lv_at hl 2 rfl) ?_
    refine u_lc_gt (tgt := 17) hx hb dX5_within_9 dX5_within_10 (by decide) (fun c_2 => ?_) (fun c_2 => ?_)
    · have hw := hw.1 c_2
      refine lv_iconst (v := 0) hx hb dX5_within_17 (by decide) ?_
      exact u_zret hx hb hr hlocks U (by decide +kernel) ⟨rfl, rfl, hw⟩ dX5_within_18
    · have hw := hw.2 c_2
      refine lv_iconst (v := 1) hx hb dX5_within_13 (by decide) ?_
      refine lv_goto (tgt := 18) hx hb dX5_within_14 (by decide) ?_
      exact u_zret hx hb hr hlocks U (by decide +kernel) ⟨rfl, rfl, hw⟩ dX5_within_18
set_option maxHeartbeats 4000000 in
set_option maxRecDepth 100000 in
theorem t_X5_commonDivisor_9 {p : Program} {l : Launch} {e : Env} {s : State} {m : MethodId} {args : Array Value} {below : List Frame} {meth : Method} {c : Code} {g : uG} {E47 : Int64 → Prop} {Q : Int64 → Prop} {A : SA} {B : SB} (C : uC p s m args meth c cX5_commonDivisor 11 RX5 wsX5_commonDivisor (some .long)) (K : UK g s) :
    ∀ {n : Nat} {v4 : Int64} {v6 : Int64} {v8 : Int32} {H : Heap} {locs : List Loc} {ls : Array Slot}, wp_X5_commonDivisor_9 E47 Q A B n v4 v6 v8 → UU g A B s.heap H locs → lv_has ls 11 [(4, .long v4), (6, .long v6), (8, .int v8)] → (∀ (v4 : Int64) (H : Heap) (locs : List Loc) (ls : Array Slot), UU g A B s.heap H locs → lv_has ls 11 [(4, .long v4)] → E47 v4 → W p l e rmX5_commonDivisor s m args below meth c H locs 0 0 (MQ below (uQl g (fun r A1 B1 => A1 = A ∧ B1 = B ∧ Q r )) args s 0 0 (FA g)) (F0 m 47 ls [])) → W p l e rmX5_commonDivisor s m args below meth c H locs 0 0 (MQ below (uQl g (fun r A1 B1 => A1 = A ∧ B1 = B ∧ Q r )) args s 0 0 (FA g)) (F0 m 9 ls []) := by
  obtain ⟨hx, hb, hml, hown, hts, hr, hlocks⟩ := id C
  have S : CallFix p m c cX5_commonDivisor 11 s args wsX5_commonDivisor RX5 := ⟨hx, hb, hml, hown, hts⟩
  intro n
  induction n with
  | zero => intro _ _ _ _ _ _ hw; exact False.elim hw
  | succ n ih =>
    intro v4 v6 v8 H locs ls hw U hl h47
    refine lv_iload hx hb dX5_commonDivisor_9 (lv_at hl 2 rfl) ?_
    refine lv_sipush (v := 128) hx hb dX5_commonDivisor_11 (by decide) ?_
    refine lv_icmp_ge (tgt := 47) hx hb dX5_commonDivisor_14 (by decide) (fun c_1 => ?_) (fun c_1 => ?_)
    · have hw := hw.1 c_1
      exact h47 _ _ _ _ U (lv_sub hl [0] rfl) hw
    · have hw := hw.2 c_1
      refine lv_lload hx hb dX5_commonDivisor_17 (lv_at hl 1 rfl) ?_
      refine lv_lconst (v := 0) hx hb dX5_commonDivisor_19 (by decide) ?_
      refine u_lc_le (tgt := 47) hx hb dX5_commonDivisor_20 dX5_commonDivisor_21 (by decide) (fun c_2 => ?_) (fun c_2 => ?_)
      · have hw := hw.1 c_2
        exact h47 _ _ _ _ U (lv_sub hl [0] rfl) hw
      · have hw := hw.2 c_2
        refine lv_lload hx hb dX5_commonDivisor_24 (lv_at hl 0 rfl) ?_
        refine lv_lload hx hb dX5_commonDivisor_26 (lv_at hl 1 rfl) ?_
        refine u_cl (u_rS (As := [.long v4, .long v6]) (rest := []) S K U (c_X5_rest hw) (va_cwS 2 hts gX5_commonDivisor_X5_rest rfl rfl rfl (by decide +kernel) ⟨Nat.le_of_ble_eq_true rfl, Nat.le_of_ble_eq_true rfl⟩) rfl hl.1 rfl (Nat.le_of_ble_eq_true rfl) dX5_commonDivisor_28 ⟨Nat.zero_le _, Nat.zero_le _⟩) U (fun r_3 A_4 B_5 H locs U9 hw => ?_)
        obtain ⟨eA, eB, hw⟩ := hw
        rw [eA, eB] at U9
        have U := U9
        refine lv_lstore (lv' := [(9, .long r_3), (4, .long v4), (6, .long v6), (8, .int v8)]) hx hb dX5_commonDivisor_31 hl (by decide) rfl (fun ls hl => ?_)
        refine lv_lload hx hb dX5_commonDivisor_33 (lv_at hl 2 rfl) ?_
        refine lv_lstore (lv' := [(4, .long v6), (9, .long r_3), (6, .long v6), (8, .int v8)]) hx hb dX5_commonDivisor_35 hl (by decide) rfl (fun ls hl => ?_)
        refine lv_lload hx hb dX5_commonDivisor_37 (lv_at hl 1 rfl) ?_
        refine lv_lstore (lv' := [(6, .long r_3), (4, .long v6), (9, .long r_3), (8, .int v8)]) hx hb dX5_commonDivisor_39 hl (by decide) rfl (fun ls hl => ?_)
        obtain ⟨v8_6, ev8_6⟩ : ∃ y : Int32, y = v8 + 1 := ⟨_, rfl⟩
        have hw := hw v8_6 ev8_6
        refine lv_iinc (v := v8_6) (lv' := [(8, .int v8_6), (6, .long r_3), (4, .long v6), (9, .long r_3)]) hx hb dX5_commonDivisor_41 hl (k := 3) rfl (by rw [ev8_6]; rfl) (by decide) rfl (fun ls hl => ?_)
        refine lv_goto (tgt := 9) hx hb dX5_commonDivisor_44 (by decide) ?_
        exact ih hw U (lv_sub hl [2, 1, 0] rfl) h47
set_option maxHeartbeats 4000000 in
set_option maxRecDepth 100000 in
theorem c_X5_commonDivisor {l : Launch} {g : uG} {a0 : Int64} {a1 : Int64} {A : SA} {B : SB} {Q : Int64 → Prop} (hw : wp_X5_commonDivisor a0 a1 A B Q) : ML l yX5_commonDivisor wsX5_commonDivisor rmX5_commonDivisor g A B [.long a0, .long a1] (fun r A1 B1 => A1 = A ∧ B1 = B ∧ Q r ) := by
  refine u_of (cc := cX5_commonDivisor) (maxL := 11) (ret := (some .long)) (by decide) rfl (Nat.le_of_ble_eq_true rfl) ?_
  intro p e s m below meth c ls C K U hl
  obtain ⟨hx, hb, hml, hown, hts, hr, hlocks⟩ := id C
  have S : CallFix p m c cX5_commonDivisor 11 s ([.long a0, .long a1] : List Value).toArray wsX5_commonDivisor RX5 := ⟨hx, hb, hml, hown, hts⟩
  have hl : lv_has ls 11 [(0, .long a0), (2, .long a1)] := hl
  refine lv_lload_n hx hb dX5_commonDivisor_0 rfl (lv_at hl 1 rfl) ?_
  refine lv_lstore (lv' := [(4, .long a1), (0, .long a0), (2, .long a1)]) hx hb dX5_commonDivisor_1 hl (by decide) rfl (fun ls hl => ?_)
  refine lv_lload_n hx hb dX5_commonDivisor_3 rfl (lv_at hl 1 rfl) ?_
  refine lv_lstore (lv' := [(6, .long a0), (4, .long a1), (0, .long a0), (2, .long a1)]) hx hb dX5_commonDivisor_4 hl (by decide) rfl (fun ls hl => ?_)
  refine lv_iconst (v := 0) hx hb dX5_commonDivisor_6 (by decide) ?_
  refine lv_istore (lv' := [(8, .int (0 : Int32)), (6, .long a0), (4, .long a1), (0, .long a0), (2, .long a1)]) hx hb dX5_commonDivisor_7 hl (by decide) rfl (fun ls hl => ?_)
  obtain ⟨n_7, hw⟩ := hw
  refine t_X5_commonDivisor_9 C K hw U (lv_sub hl [2, 1, 0] rfl) (fun v4_8 H locs ls U hl hw => ?_)
  refine lv_lload hx hb dX5_commonDivisor_47 (lv_at hl 0 rfl) ?_
  exact u_lret hx hb hr hlocks U ⟨rfl, rfl, hw⟩ dX5_commonDivisor_49
set_option maxHeartbeats 4000000 in
set_option maxRecDepth 100000 in
theorem t_X5_power_5 {p : Program} {l : Launch} {e : Env} {s : State} {m : MethodId} {args : Array Value} {below : List Frame} {meth : Method} {c : Code} {g : uG} {E22 : Int64 → Prop} {Q : Int64 → Prop} {v0 : Int32} {v1 : Int32} {A : SA} {B : SB} (C : uC p s m args meth c cX5_power 5 RX5 wsX5_power (some .long)) (K : UK g s) :
    ∀ {n : Nat} {v2 : Int64} {v4 : Int32} {H : Heap} {locs : List Loc} {ls : Array Slot}, wp_X5_power_5 E22 Q v0 v1 A B n v2 v4 → UU g A B s.heap H locs → lv_has ls 5 [(0, .int v0), (1, .int v1), (2, .long v2), (4, .int v4)] → (∀ (v2 : Int64) (H : Heap) (locs : List Loc) (ls : Array Slot), UU g A B s.heap H locs → lv_has ls 5 [(2, .long v2)] → E22 v2 → W p l e rmX5_power s m args below meth c H locs 0 0 (MQ below (uQl g (fun r A1 B1 => A1 = A ∧ B1 = B ∧ Q r )) args s 0 0 (FA g)) (F0 m 22 ls [])) → W p l e rmX5_power s m args below meth c H locs 0 0 (MQ below (uQl g (fun r A1 B1 => A1 = A ∧ B1 = B ∧ Q r )) args s 0 0 (FA g)) (F0 m 5 ls []) := by
  obtain ⟨hx, hb, hml, hown, hts, hr, hlocks⟩ := id C
  have S : CallFix p m c cX5_power 5 s args wsX5_power RX5 := ⟨hx, hb, hml, hown, hts⟩
  intro n
  induction n with
  | zero => intro _ _ _ _ _ hw; exact False.elim hw
  | succ n ih =>
    intro v2 v4 H locs ls hw U hl h22
    refine lv_iload hx hb dX5_power_5 (lv_at hl 3 rfl) ?_
    refine lv_iload_n hx hb dX5_power_7 rfl (lv_at hl 1 rfl) ?_
    refine lv_icmp_ge (tgt := 22) hx hb dX5_power_8 (by decide) (fun c_1 => ?_) (fun c_1 => ?_)
    · have hw := hw.1 c_1
      exact h22 _ _ _ _ U (lv_sub hl [2] rfl) hw
    · have hw := hw.2 c_1
      refine lv_lload_n hx hb dX5_power_11 rfl (lv_at hl 2 rfl) ?_
      refine lv_iload_n hx hb dX5_power_12 rfl (lv_at hl 0 rfl) ?_
      refine lv_i2l hx hb dX5_power_13 rfl ?_
      refine lv_lmul hx hb dX5_power_14 ?_
      refine lv_topl (fun x_2 ex_2 => ?_)
      have hw := hw x_2 ex_2
      refine lv_lstore_n (lv' := [(2, .long x_2), (0, .int v0), (1, .int v1), (4, .int v4)]) hx hb dX5_power_15 rfl hl (by decide) rfl (fun ls hl => ?_)
      obtain ⟨v4_3, ev4_3⟩ : ∃ y : Int32, y = v4 + 1 := ⟨_, rfl⟩
      have hw := hw v4_3 ev4_3
      refine lv_iinc (v := v4_3) (lv' := [(4, .int v4_3), (2, .long x_2), (0, .int v0), (1, .int v1)]) hx hb dX5_power_16 hl (k := 3) rfl (by rw [ev4_3]; rfl) (by decide) rfl (fun ls hl => ?_)
      refine lv_goto (tgt := 5) hx hb dX5_power_19 (by decide) ?_
      exact ih hw U (lv_sub hl [2, 3, 1, 0] rfl) h22
set_option maxHeartbeats 4000000 in
set_option maxRecDepth 100000 in
theorem c_X5_power {l : Launch} {g : uG} {a0 : Int32} {a1 : Int32} {A : SA} {B : SB} {Q : Int64 → Prop} (hw : wp_X5_power a0 a1 A B Q) : ML l yX5_power wsX5_power rmX5_power g A B [.int a0, .int a1] (fun r A1 B1 => A1 = A ∧ B1 = B ∧ Q r ) := by
  refine u_of (cc := cX5_power) (maxL := 5) (ret := (some .long)) (by decide) rfl (Nat.le_of_ble_eq_true rfl) ?_
  intro p e s m below meth c ls C K U hl
  obtain ⟨hx, hb, hml, hown, hts, hr, hlocks⟩ := id C
  have S : CallFix p m c cX5_power 5 s ([.int a0, .int a1] : List Value).toArray wsX5_power RX5 := ⟨hx, hb, hml, hown, hts⟩
  have hl : lv_has ls 5 [(0, .int a0), (1, .int a1)] := hl
  refine lv_lconst (v := 1) hx hb dX5_power_0 (by decide) ?_
  refine lv_lstore_n (lv' := [(2, .long (1 : Int64)), (0, .int a0), (1, .int a1)]) hx hb dX5_power_1 rfl hl (by decide) rfl (fun ls hl => ?_)
  refine lv_iconst (v := 0) hx hb dX5_power_2 (by decide) ?_
  refine lv_istore (lv' := [(4, .int (0 : Int32)), (2, .long (1 : Int64)), (0, .int a0), (1, .int a1)]) hx hb dX5_power_3 hl (by decide) rfl (fun ls hl => ?_)
  obtain ⟨n_4, hw⟩ := hw
  refine t_X5_power_5 C K hw U (lv_sub hl [2, 3, 1, 0] rfl) (fun v2_5 H locs ls U hl hw => ?_)
  refine lv_lload_n hx hb dX5_power_22 rfl (lv_at hl 0 rfl) ?_
  exact u_lret hx hb hr hlocks U ⟨rfl, rfl, hw⟩ dX5_power_23
set_option maxHeartbeats 4000000 in
set_option maxRecDepth 100000 in
theorem t_X5_lastBracket_2 {p : Program} {l : Launch} {e : Env} {s : State} {m : MethodId} {args : Array Value} {below : List Frame} {meth : Method} {c : Code} {g : uG} {E27 : Int32 → Prop} {Q : Int32 → Prop} {v0 : Int32} {v1 : Int32} {A : SA} {B : SB} (C : uC p s m args meth c cX5_lastBracket 3 RX5 wsX5_lastBracket (some .int)) (K : UK g s) :
    ∀ {n : Nat} {v2 : Int32} {H : Heap} {locs : List Loc} {ls : Array Slot}, wp_X5_lastBracket_2 E27 Q v0 v1 A B n v2 → UU g A B s.heap H locs → lv_has ls 3 [(0, .int v0), (1, .int v1), (2, .int v2)] → (∀ (v2 : Int32) (H : Heap) (locs : List Loc) (ls : Array Slot), UU g A B s.heap H locs → lv_has ls 3 [(2, .int v2)] → E27 v2 → W p l e rmX5_lastBracket s m args below meth c H locs 0 0 (MQ below (uQi g (fun r A1 B1 => A1 = A ∧ B1 = B ∧ Q r )) args s 0 0 (FA g)) (F0 m 27 ls [])) → W p l e rmX5_lastBracket s m args below meth c H locs 0 0 (MQ below (uQi g (fun r A1 B1 => A1 = A ∧ B1 = B ∧ Q r )) args s 0 0 (FA g)) (F0 m 2 ls []) := by
  obtain ⟨hx, hb, hml, hown, hts, hr, hlocks⟩ := id C
  have S : CallFix p m c cX5_lastBracket 3 s args wsX5_lastBracket RX5 := ⟨hx, hb, hml, hown, hts⟩
  intro n
  induction n with
  | zero => intro _ _ _ _ hw; exact False.elim hw
  | succ n ih =>
    intro v2 H locs ls hw U hl h27
    refine lv_iload_n hx hb dX5_lastBracket_2 rfl (lv_at hl 2 rfl) ?_
    refine lv_bipush (v := 20) hx hb dX5_lastBracket_3 (by decide) ?_
    refine lv_icmp_ge (tgt := 27) hx hb dX5_lastBracket_5 (by decide) (fun c_1 => ?_) (fun c_1 => ?_)
    · have hw := hw.1 c_1
      exact h27 _ _ _ _ U (lv_sub hl [2] rfl) hw
    · have hw := hw.2 c_1
      refine lv_iload_n hx hb dX5_lastBracket_8 rfl (lv_at hl 1 rfl) ?_
      refine lv_iload_n hx hb dX5_lastBracket_9 rfl (lv_at hl 2 rfl) ?_
      refine lv_iconst (v := 1) hx hb dX5_lastBracket_10 (by decide) ?_
      refine lv_iadd hx hb dX5_lastBracket_11 ?_
      refine u_cl (u_rS (As := [.int v1, .int (v2 + (1 : Int32))]) (rest := []) S K U (c_X5_power hw) (va_cwS 2 hts gX5_lastBracket_X5_power rfl rfl rfl (by decide +kernel) ⟨Nat.le_of_ble_eq_true rfl, Nat.le_of_ble_eq_true rfl⟩) rfl hl.1 rfl (Nat.le_of_ble_eq_true rfl) dX5_lastBracket_12 ⟨Nat.zero_le _, Nat.zero_le _⟩) U (fun r_2 A_3 B_4 H locs U9 hw => ?_)
      obtain ⟨eA, eB, hw⟩ := hw
      rw [eA, eB] at U9
      have U := U9
      refine lv_iload_n hx hb dX5_lastBracket_15 rfl (lv_at hl 0 rfl) ?_
      refine lv_i2l hx hb dX5_lastBracket_16 rfl ?_
      refine u_lc_gt (tgt := 27) hx hb dX5_lastBracket_17 dX5_lastBracket_18 (by decide) (fun c_5 => ?_) (fun c_5 => ?_)
      · have hw := hw.1 c_5
        exact h27 _ _ _ _ U (lv_sub hl [2] rfl) hw
      · have hw := hw.2 c_5
        obtain ⟨v2_6, ev2_6⟩ : ∃ y : Int32, y = v2 + 1 := ⟨_, rfl⟩
        have hw := hw v2_6 ev2_6
        refine lv_iinc (v := v2_6) (lv' := [(2, .int v2_6), (0, .int v0), (1, .int v1)]) hx hb dX5_lastBracket_21 hl (k := 2) rfl (by rw [ev2_6]; rfl) (by decide) rfl (fun ls hl => ?_)
        refine lv_goto (tgt := 2) hx hb dX5_lastBracket_24 (by decide) ?_
        exact ih hw U (lv_sub hl [1, 2, 0] rfl) h27
set_option maxHeartbeats 4000000 in
set_option maxRecDepth 100000 in
theorem c_X5_lastBracket {l : Launch} {g : uG} {a0 : Int32} {a1 : Int32} {A : SA} {B : SB} {Q : Int32 → Prop} (hw : wp_X5_lastBracket a0 a1 A B Q) : MI l yX5_lastBracket wsX5_lastBracket rmX5_lastBracket g A B [.int a0, .int a1] (fun r A1 B1 => A1 = A ∧ B1 = B ∧ Q r ) := by
  refine u_of (cc := cX5_lastBracket) (maxL := 3) (ret := (some .int)) (by decide) rfl (Nat.le_of_ble_eq_true rfl) ?_
  intro p e s m below meth c ls C K U hl
  obtain ⟨hx, hb, hml, hown, hts, hr, hlocks⟩ := id C
  have S : CallFix p m c cX5_lastBracket 3 s ([.int a0, .int a1] : List Value).toArray wsX5_lastBracket RX5 := ⟨hx, hb, hml, hown, hts⟩
  have hl : lv_has ls 3 [(0, .int a0), (1, .int a1)] := hl
  refine lv_iconst (v := 0) hx hb dX5_lastBracket_0 (by decide) ?_
  refine lv_istore_n (lv' := [(2, .int (0 : Int32)), (0, .int a0), (1, .int a1)]) hx hb dX5_lastBracket_1 rfl hl (by decide) rfl (fun ls hl => ?_)
  obtain ⟨n_7, hw⟩ := hw
  refine t_X5_lastBracket_2 C K hw U (lv_sub hl [1, 2, 0] rfl) (fun v2_8 H locs ls U hl hw => ?_)
  refine lv_iload_n hx hb dX5_lastBracket_27 rfl (lv_at hl 0 rfl) ?_
  exact u_iret hx hb hr hlocks U ⟨rfl, rfl, hw⟩ dX5_lastBracket_28
set_option maxHeartbeats 4000000 in
set_option maxRecDepth 100000 in
theorem c_X5_cutUp {l : Launch} {g : uG} {a0 : Int64} {a1 : Int64} {A : SA} {B : SB} {Q : Int64 → Prop} (hw : wp_X5_cutUp a0 a1 A B Q) : ML l yX5_cutUp wsX5_cutUp rmX5_cutUp g A B [.long a0, .long a1] (fun r A1 B1 => A1 = A ∧ B1 = B ∧ Q r ) := by
  refine u_of (cc := cX5_cutUp) (maxL := 4) (ret := (some .long)) (by decide) rfl (Nat.le_of_ble_eq_true rfl) ?_
  intro p e s m below meth c ls C K U hl
  obtain ⟨hx, hb, hml, hown, hts, hr, hlocks⟩ := id C
  have S : CallFix p m c cX5_cutUp 4 s ([.long a0, .long a1] : List Value).toArray wsX5_cutUp RX5 := ⟨hx, hb, hml, hown, hts⟩
  have hl : lv_has ls 4 [(0, .long a0), (2, .long a1)] := hl
  refine lv_lload_n hx hb dX5_cutUp_0 rfl (lv_at hl 0 rfl) ?_
  refine lv_lload_n hx hb dX5_cutUp_1 rfl (lv_at hl 1 rfl) ?_
  refine lv_ladd hx hb dX5_cutUp_2 ?_
  refine lv_lconst (v := 1) hx hb dX5_cutUp_3 (by decide) ?_
  refine lv_lsub hx hb dX5_cutUp_4 ?_
  refine lv_lload_n hx hb dX5_cutUp_5 rfl (lv_at hl 1 rfl) ?_
  refine u_cl (u_rS (As := [.long ((a0 + a1) - (1 : Int64)), .long a1]) (rest := []) S K U (c_X5_cut hw) (va_cwS 2 hts gX5_cutUp_X5_cut rfl rfl rfl (by decide +kernel) ⟨Nat.le_of_ble_eq_true rfl, Nat.le_of_ble_eq_true rfl⟩) rfl hl.1 rfl (Nat.le_of_ble_eq_true rfl) dX5_cutUp_6 ⟨Nat.zero_le _, Nat.zero_le _⟩) U (fun r_1 A_2 B_3 H locs U9 hw => ?_)
  obtain ⟨eA, eB, hw⟩ := hw
  rw [eA, eB] at U9
  have U := U9
  exact u_lret hx hb hr hlocks U ⟨rfl, rfl, hw⟩ dX5_cutUp_9
