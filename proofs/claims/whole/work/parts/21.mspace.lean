set_option maxHeartbeats 4000000 in
set_option maxRecDepth 100000 in
theorem t_X3_sumOfWays_5 {p : Program} {l : Launch} {e : Env} {s : State} {m : MethodId} {args : Array Value} {below : List Frame} {meth : Method} {c : Code} {g : uG} {E34 : Int64 → Prop} {Q : Int64 → Prop} {v1 : Int32} {A : SA} {B : SB} (C : uC p s m args meth c cX3_sumOfWays 5 RX3 wsX3_sumOfWays (some .long)) (K : UK g s) :
    ∀ {n : Nat} {v2 : Int64} {v4 : Int32} {H : Heap} {locs : List Loc} {ls : Array Slot}, wp_X3_sumOfWays_5 E34 Q v1 A B n v2 v4 → UU g A B s.heap H locs → lv_has ls 5 [(0, .ref (g.2.1 1)), (1, .int v1), (2, .long v2), (4, .int v4)] → (∀ (v2 : Int64) (H : Heap) (locs : List Loc) (ls : Array Slot), UU g A B s.heap H locs → lv_has ls 5 [(2, .long v2)] → E34 v2 → W p l e rmX3_sumOfWays s m args below meth c H locs 0 0 (MQ below (uQl g (fun r A1 B1 => A1 = A ∧ B1 = B ∧ Q r )) args s 0 0 (FA g)) (F0 m 34 ls [])) → W p l e rmX3_sumOfWays s m args below meth c H locs 0 0 (MQ below (uQl g (fun r A1 B1 => A1 = A ∧ B1 = B ∧ Q r )) args s 0 0 (FA g)) (F0 m 5 ls []) := by
  obtain ⟨hx, hb, hml, hown, hts, hr, hlocks⟩ := id C
  have S : CallFix p m c cX3_sumOfWays 5 s args wsX3_sumOfWays RX3 := ⟨hx, hb, hml, hown, hts⟩
  intro n
  induction n with
  | zero => intro _ _ _ _ _ hw; exact False.elim hw
  | succ n ih =>
    intro v2 v4 H locs ls hw U hl h34
    refine lv_iload hx hb dX3_sumOfWays_5 (lv_at hl 3 rfl) ?_
    refine lv_aload_n hx hb dX3_sumOfWays_7 rfl (lv_at hl 0 rfl) ?_
    refine u_get (C := RX3) (T := TX3) (N := 9) (v := .ref (g.2.1 8)) hx hb hts hX3_sumOfWays_X3 hown K U 1 2 (by decide) rfl rfl 4 (by decide) (hts (.fieldLink RX3 26 "TrialSearch$Space" "many" "[I") (by decide +kernel)) rfl rfl dX3_sumOfWays_8 ?_
    refine lv_iload_n hx hb dX3_sumOfWays_11 rfl (lv_at hl 1 rfl) ?_
    obtain ⟨hi_1, hw⟩ := hw
    refine u_iald (k := 8) (v := (A 8 v1.toNatClampNeg)) hx hb K U rfl (by decide) rfl hi_1 rfl dX3_sumOfWays_12 ?_
    refine lv_icmp_ge (tgt := 34) hx hb dX3_sumOfWays_13 (by decide) (fun c_2 => ?_) (fun c_2 => ?_)
    · have hw := hw.1 c_2
      exact h34 _ _ _ _ U (lv_sub hl [2] rfl) hw
    · have hw := hw.2 c_2
      refine lv_lload_n hx hb dX3_sumOfWays_16 rfl (lv_at hl 2 rfl) ?_
      refine lv_aload_n hx hb dX3_sumOfWays_17 rfl (lv_at hl 0 rfl) ?_
      refine u_get (C := RX3) (T := TX3) (N := 9) (v := .ref (g.2.1 12)) hx hb hts hX3_sumOfWays_X3 hown K U 1 2 (by decide) rfl rfl 8 (by decide) (hts (.fieldLink RX3 41 "TrialSearch$Space" "waysBelow" "[[J") (by decide +kernel)) rfl rfl dX3_sumOfWays_18 ?_
      refine lv_iload_n hx hb dX3_sumOfWays_21 rfl (lv_at hl 1 rfl) ?_
      obtain ⟨hi_3, hw⟩ := hw
      refine u_aald (b := 48) hx hb K U (k := 12) (by decide) (by decide) rfl rfl hi_3 dX3_sumOfWays_22 ?_
      refine lv_iload hx hb dX3_sumOfWays_23 (lv_at hl 3 rfl) ?_
      obtain ⟨hi_4, hw⟩ := hw
      refine u_lald (k := (48 + v1.toNatClampNeg)) (v := (B (48 + v1.toNatClampNeg) v4.toNatClampNeg)) hx hb K U (urow_48 hi_3).1 (urow_48 hi_3).2.1 (urow_48 hi_3).2.2 hi_4 rfl dX3_sumOfWays_25 ?_
      refine lv_ladd hx hb dX3_sumOfWays_26 ?_
      refine lv_topl (fun x_5 ex_5 => ?_)
      have hw := hw x_5 ex_5
      refine lv_lstore_n (lv' := [(2, .long x_5), (0, .ref (g.2.1 1)), (1, .int v1), (4, .int v4)]) hx hb dX3_sumOfWays_27 rfl hl (by decide) rfl (fun ls hl => ?_)
      obtain ⟨v4_6, ev4_6⟩ : ∃ y : Int32, y = v4 + 1 := ⟨_, rfl⟩
      have hw := hw v4_6 ev4_6
      refine lv_iinc (v := v4_6) (lv' := [(4, .int v4_6), (2, .long x_5), (0, .ref (g.2.1 1)), (1, .int v1)]) hx hb dX3_sumOfWays_28 hl (k := 3) rfl (by rw [ev4_6]; rfl) (by decide) rfl (fun ls hl => ?_)
      refine lv_goto (tgt := 5) hx hb dX3_sumOfWays_31 (by decide) ?_
      exact ih hw U (lv_sub hl [2, 3, 1, 0] rfl) h34
set_option maxHeartbeats 4000000 in
set_option maxRecDepth 100000 in
theorem c_X3_sumOfWays {l : Launch} {g : uG} {a0 : Int32} {A : SA} {B : SB} {Q : Int64 → Prop} (hw : wp_X3_sumOfWays a0 A B Q) : ML l yX3_sumOfWays wsX3_sumOfWays rmX3_sumOfWays g A B [.ref (g.2.1 1), .int a0] (fun r A1 B1 => A1 = A ∧ B1 = B ∧ Q r ) := by
  refine u_of (cc := cX3_sumOfWays) (maxL := 5) (ret := (some .long)) (by decide) rfl (Nat.le_of_ble_eq_true rfl) ?_
  intro p e s m below meth c ls C K U hl
  obtain ⟨hx, hb, hml, hown, hts, hr, hlocks⟩ := id C
  have S : CallFix p m c cX3_sumOfWays 5 s ([.ref (g.2.1 1), .int a0] : List Value).toArray wsX3_sumOfWays RX3 := ⟨hx, hb, hml, hown, hts⟩
  have hl : lv_has ls 5 [(0, .ref (g.2.1 1)), (1, .int a0)] := hl
  refine lv_lconst (v := 0) hx hb dX3_sumOfWays_0 (by decide) ?_
  refine lv_lstore_n (lv' := [(2, .long (0 : Int64)), (0, .ref (g.2.1 1)), (1, .int a0)]) hx hb dX3_sumOfWays_1 rfl hl (by decide) rfl (fun ls hl => ?_)
  refine lv_iconst (v := 0) hx hb dX3_sumOfWays_2 (by decide) ?_
  refine lv_istore (lv' := [(4, .int (0 : Int32)), (2, .long (0 : Int64)), (0, .ref (g.2.1 1)), (1, .int a0)]) hx hb dX3_sumOfWays_3 hl (by decide) rfl (fun ls hl => ?_)
  obtain ⟨n_7, hw⟩ := hw
  refine t_X3_sumOfWays_5 C K hw U (lv_sub hl [2, 3, 1, 0] rfl) (fun v2_8 H locs ls U hl hw => ?_)
  refine lv_lload_n hx hb dX3_sumOfWays_34 rfl (lv_at hl 0 rfl) ?_
  exact u_lret hx hb hr hlocks U ⟨rfl, rfl, hw⟩ dX3_sumOfWays_35
set_option maxHeartbeats 4000000 in
set_option maxRecDepth 100000 in
theorem c_X3_hasBit {l : Launch} {g : uG} {a0 : Int32} {a1 : Int32} {A : SA} {B : SB} {Q : Int32 → Prop} (hw : wp_X3_hasBit a0 a1 A B Q) : MI l yX3_hasBit wsX3_hasBit rmX3_hasBit g A B [.int a0, .int a1] (fun r A1 B1 => A1 = A ∧ B1 = B ∧ Q r ) := by
  refine u_of (cc := cX3_hasBit) (maxL := 2) (ret := (some .boolean)) (by decide) rfl (Nat.le_of_ble_eq_true rfl) ?_
  intro p e s m below meth c ls C K U hl
  obtain ⟨hx, hb, hml, hown, hts, hr, hlocks⟩ := id C
  have S : CallFix p m c cX3_hasBit 2 s ([.int a0, .int a1] : List Value).toArray wsX3_hasBit RX3 := ⟨hx, hb, hml, hown, hts⟩
  have hl : lv_has ls 2 [(0, .int a0), (1, .int a1)] := hl
  refine lv_iload_n hx hb dX3_hasBit_0 rfl (lv_at hl 0 rfl) ?_
  refine lv_iload_n hx hb dX3_hasBit_1 rfl (lv_at hl 1 rfl) ?_
  refine lv_iushr hx hb dX3_hasBit_2 rfl ?_
  refine lv_iconst (v := 1) hx hb dX3_hasBit_3 (by decide) ?_
  refine lv_iand hx hb dX3_hasBit_4 ?_
  refine lv_iconst (v := 1) hx hb dX3_hasBit_5 (by decide) ?_
  refine lv_icmp_ne (tgt := 13) hx hb dX3_hasBit_6 (by decide) (fun c_1 => ?_) (fun c_1 => ?_)
  · have hw := hw.1 c_1
    refine lv_iconst (v := 0) hx hb dX3_hasBit_13 (by decide) ?_
    exact u_zret hx hb hr hlocks U (by decide +kernel) ⟨rfl, rfl, hw⟩ dX3_hasBit_14
  · have hw := hw.2 c_1
    refine lv_iconst (v := 1) hx hb dX3_hasBit_9 (by decide) ?_
    refine lv_goto (tgt := 14) hx hb dX3_hasBit_10 (by decide) ?_
    exact u_zret hx hb hr hlocks U (by decide +kernel) ⟨rfl, rfl, hw⟩ dX3_hasBit_14
set_option maxHeartbeats 4000000 in
set_option maxRecDepth 100000 in
theorem t_X3_hang_2 {p : Program} {l : Launch} {e : Env} {s : State} {m : MethodId} {args : Array Value} {below : List Frame} {meth : Method} {c : Code} {g : uG} {E48 : SB → Prop} {Q : SB → Prop} {v1 : Int32} {v2 : Int32} {A : SA} (C : uC p s m args meth c cX3_hang 4 RX3 wsX3_hang none) (K : UK g s) :
    ∀ {n : Nat} {v3 : Int32} {B : SB} {H : Heap} {locs : List Loc} {ls : Array Slot}, wp_X3_hang_2 E48 Q v1 v2 A n v3 B → UU g A B s.heap H locs → lv_has ls 4 [(0, .ref (g.2.1 1)), (1, .int v1), (2, .int v2), (3, .int v3)] → (∀ (B : SB) (H : Heap) (locs : List Loc) (ls : Array Slot), UU g A B s.heap H locs → lv_has ls 4 [] → E48 B → W p l e rmX3_hang s m args below meth c H locs 0 0 (MQ below (uQv g (fun A1 B1 => A1 = A ∧ Q B1)) args s 0 0 (FA g)) (F0 m 48 ls [])) → W p l e rmX3_hang s m args below meth c H locs 0 0 (MQ below (uQv g (fun A1 B1 => A1 = A ∧ Q B1)) args s 0 0 (FA g)) (F0 m 2 ls []) := by
  obtain ⟨hx, hb, hml, hown, hts, hr, hlocks⟩ := id C
  have S : CallFix p m c cX3_hang 4 s args wsX3_hang RX3 := ⟨hx, hb, hml, hown, hts⟩
  intro n
  induction n with
  | zero => intro _ _ _ _ _ hw; exact False.elim hw
  | succ n ih =>
    intro v3 B H locs ls hw U hl h48
    refine lv_iload_n hx hb dX3_hang_2 rfl (lv_at hl 3 rfl) ?_
    refine lv_aload_n hx hb dX3_hang_3 rfl (lv_at hl 0 rfl) ?_
    refine u_get (C := RX3) (T := TX3) (N := 9) (v := .ref (g.2.1 8)) hx hb hts hX3_hang_X3 hown K U 1 2 (by decide) rfl rfl 4 (by decide) (hts (.fieldLink RX3 26 "TrialSearch$Space" "many" "[I") (by decide +kernel)) rfl rfl dX3_hang_4 ?_
    refine lv_iload_n hx hb dX3_hang_7 rfl (lv_at hl 2 rfl) ?_
    obtain ⟨hi_1, hw⟩ := hw
    refine u_iald (k := 8) (v := (A 8 v2.toNatClampNeg)) hx hb K U rfl (by decide) rfl hi_1 rfl dX3_hang_8 ?_
    refine lv_icmp_ge (tgt := 48) hx hb dX3_hang_9 (by decide) (fun c_2 => ?_) (fun c_2 => ?_)
    · have hw := hw.1 c_2
      exact h48 _ _ _ _ U (lv_sub hl [] rfl) hw
    · have hw := hw.2 c_2
      refine lv_aload_n hx hb dX3_hang_12 rfl (lv_at hl 0 rfl) ?_
      refine u_get (C := RX3) (T := TX3) (N := 9) (v := .ref (g.2.1 10)) hx hb hts hX3_hang_X3 hown K U 1 2 (by decide) rfl rfl 6 (by decide) (hts (.fieldLink RX3 32 "TrialSearch$Space" "set" "[I") (by decide +kernel)) rfl rfl dX3_hang_13 ?_
      refine lv_iload_n hx hb dX3_hang_16 rfl (lv_at hl 1 rfl) ?_
      obtain ⟨hi_3, hw⟩ := hw
      refine u_iald (k := 10) (v := (A 10 v1.toNatClampNeg)) hx hb K U rfl (by decide) rfl hi_3 rfl dX3_hang_17 ?_
      refine lv_iload_n hx hb dX3_hang_18 rfl (lv_at hl 3 rfl) ?_
      refine u_ci (u_rS (As := [.int (A 10 v1.toNatClampNeg), .int v3]) (rest := []) S K U (c_X3_hasBit hw) (va_cwS 2 hts gX3_hang_X3_hasBit rfl rfl rfl (by decide +kernel) ⟨Nat.le_of_ble_eq_true rfl, Nat.le_of_ble_eq_true rfl⟩) rfl hl.1 rfl (Nat.le_of_ble_eq_true rfl) dX3_hang_19 ⟨Nat.zero_le _, Nat.zero_le _⟩) U (fun r_4 A_5 B_6 H locs U9 hw => ?_)
      obtain ⟨eA, eB, hw⟩ := hw
      rw [eA, eB] at U9
      have U := U9
      refine lv_if_eq (tgt := 42) hx hb dX3_hang_22 (by decide) (fun c_7 => ?_) (fun c_7 => ?_)
      · have hw := hw.1 c_7
        obtain ⟨v3_8, ev3_8⟩ : ∃ y : Int32, y = v3 + 1 := ⟨_, rfl⟩
        have hw := hw v3_8 ev3_8
        refine lv_iinc (v := v3_8) (lv' := [(3, .int v3_8), (0, .ref (g.2.1 1)), (1, .int v1), (2, .int v2)]) hx hb dX3_hang_42 hl (k := 3) rfl (by rw [ev3_8]; rfl) (by decide) rfl (fun ls hl => ?_)
        refine lv_goto (tgt := 2) hx hb dX3_hang_45 (by decide) ?_
        exact ih hw U (lv_sub hl [1, 2, 3, 0] rfl) h48
      · have hw := hw.2 c_7
        refine lv_aload_n hx hb dX3_hang_25 rfl (lv_at hl 0 rfl) ?_
        refine u_get (C := RX3) (T := TX3) (N := 9) (v := .ref (g.2.1 12)) hx hb hts hX3_hang_X3 hown K U 1 2 (by decide) rfl rfl 8 (by decide) (hts (.fieldLink RX3 41 "TrialSearch$Space" "waysBelow" "[[J") (by decide +kernel)) rfl rfl dX3_hang_26 ?_
        refine lv_iload_n hx hb dX3_hang_29 rfl (lv_at hl 2 rfl) ?_
        obtain ⟨hi_9, hw⟩ := hw
        refine u_aald (b := 48) hx hb K U (k := 12) (by decide) (by decide) rfl rfl hi_9 dX3_hang_30 ?_
        refine lv_iload_n hx hb dX3_hang_31 rfl (lv_at hl 3 rfl) ?_
        refine lv_dup2_11 hx hb dX3_hang_32 rfl rfl ?_
        obtain ⟨hi_10, hw⟩ := hw
        refine u_lald (k := (48 + v2.toNatClampNeg)) (v := (B (48 + v2.toNatClampNeg) v3.toNatClampNeg)) hx hb K U (urow_48 hi_9).1 (urow_48 hi_9).2.1 (urow_48 hi_9).2.2 hi_10 rfl dX3_hang_33 ?_
        refine lv_aload_n hx hb dX3_hang_34 rfl (lv_at hl 0 rfl) ?_
        refine u_get (C := RX3) (T := TX3) (N := 9) (v := .ref (g.2.1 11)) hx hb hts hX3_hang_X3 hown K U 1 2 (by decide) rfl rfl 7 (by decide) (hts (.fieldLink RX3 35 "TrialSearch$Space" "ways" "[J") (by decide +kernel)) rfl rfl dX3_hang_35 ?_
        refine lv_iload_n hx hb dX3_hang_38 rfl (lv_at hl 1 rfl) ?_
        obtain ⟨hi_11, hw⟩ := hw
        refine u_lald (k := 11) (v := (B 11 v1.toNatClampNeg)) hx hb K U rfl (by decide) rfl hi_11 rfl dX3_hang_39 ?_
        refine lv_lmul hx hb dX3_hang_40 ?_
        refine lv_topl (fun x_12 ex_12 => ?_)
        have hw := hw x_12 ex_12
        obtain ⟨hi_13, hw⟩ := hw
        refine u_last (k := (48 + v2.toNatClampNeg)) hx hb K U (urow_48 hi_9).1 (urow_48 hi_9).2.1 (urow_48 hi_9).2.2 hi_13 dX3_hang_41 (fun H locs U => ?_)
        obtain ⟨v3_14, ev3_14⟩ : ∃ y : Int32, y = v3 + 1 := ⟨_, rfl⟩
        have hw := hw v3_14 ev3_14
        refine lv_iinc (v := v3_14) (lv' := [(3, .int v3_14), (0, .ref (g.2.1 1)), (1, .int v1), (2, .int v2)]) hx hb dX3_hang_42 hl (k := 3) rfl (by rw [ev3_14]; rfl) (by decide) rfl (fun ls hl => ?_)
        refine lv_goto (tgt := 2) hx hb dX3_hang_45 (by decide) ?_
        exact ih hw U (lv_sub hl [1, 2, 3, 0] rfl) h48
set_option maxHeartbeats 4000000 in
set_option maxRecDepth 100000 in
theorem c_X3_hang {l : Launch} {g : uG} {a0 : Int32} {a1 : Int32} {A : SA} {B : SB} {Q : SB → Prop} (hw : wp_X3_hang a0 a1 A B Q) : MV l yX3_hang wsX3_hang rmX3_hang g A B [.ref (g.2.1 1), .int a0, .int a1] (fun A1 B1 => A1 = A ∧ Q B1) := by
  refine u_of (cc := cX3_hang) (maxL := 4) (ret := none) (by decide) rfl (Nat.le_of_ble_eq_true rfl) ?_
  intro p e s m below meth c ls C K U hl
  obtain ⟨hx, hb, hml, hown, hts, hr, hlocks⟩ := id C
  have S : CallFix p m c cX3_hang 4 s ([.ref (g.2.1 1), .int a0, .int a1] : List Value).toArray wsX3_hang RX3 := ⟨hx, hb, hml, hown, hts⟩
  have hl : lv_has ls 4 [(0, .ref (g.2.1 1)), (1, .int a0), (2, .int a1)] := hl
  refine lv_iconst (v := 0) hx hb dX3_hang_0 (by decide) ?_
  refine lv_istore_n (lv' := [(3, .int (0 : Int32)), (0, .ref (g.2.1 1)), (1, .int a0), (2, .int a1)]) hx hb dX3_hang_1 rfl hl (by decide) rfl (fun ls hl => ?_)
  obtain ⟨n_15, hw⟩ := hw
  refine t_X3_hang_2 C K hw U (lv_sub hl [1, 2, 3, 0] rfl) (fun B_16 H locs ls U hl hw => ?_)
  exact u_vret hx hb hr hlocks U ⟨rfl, hw⟩ dX3_hang_48
set_option maxHeartbeats 4000000 in
set_option maxRecDepth 100000 in
theorem t_X3_countWays_7 {p : Program} {l : Launch} {e : Env} {s : State} {m : MethodId} {args : Array Value} {below : List Frame} {meth : Method} {c : Code} {g : uG} {E31 : SB → Prop} {Q : SB → Prop} {A : SA} (C : uC p s m args meth c cX3_countWays 2 RX3 wsX3_countWays none) (K : UK g s) :
    ∀ {n : Nat} {v1 : Int32} {B : SB} {H : Heap} {locs : List Loc} {ls : Array Slot}, wp_X3_countWays_7 E31 Q A n v1 B → UU g A B s.heap H locs → lv_has ls 2 [(0, .ref (g.2.1 1)), (1, .int v1)] → (∀ (B : SB) (H : Heap) (locs : List Loc) (ls : Array Slot), UU g A B s.heap H locs → lv_has ls 2 [(0, .ref (g.2.1 1))] → E31 B → W p l e rmX3_countWays s m args below meth c H locs 0 0 (MQ below (uQv g (fun A1 B1 => A1 = A ∧ Q B1)) args s 0 0 (FA g)) (F0 m 31 ls [])) → W p l e rmX3_countWays s m args below meth c H locs 0 0 (MQ below (uQv g (fun A1 B1 => A1 = A ∧ Q B1)) args s 0 0 (FA g)) (F0 m 7 ls []) := by
  obtain ⟨hx, hb, hml, hown, hts, hr, hlocks⟩ := id C
  have S : CallFix p m c cX3_countWays 2 s args wsX3_countWays RX3 := ⟨hx, hb, hml, hown, hts⟩
  intro n
  induction n with
  | zero => intro _ _ _ _ _ hw; exact False.elim hw
  | succ n ih =>
    intro v1 B H locs ls hw U hl h31
    refine lv_iload_n hx hb dX3_countWays_7 rfl (lv_at hl 1 rfl) ?_
    refine lv_aload_n hx hb dX3_countWays_8 rfl (lv_at hl 0 rfl) ?_
    refine u_get (C := RX3) (T := TX3) (N := 9) (v := .int (A 1 0)) hx hb hts hX3_countWays_X3 hown K U 1 2 (by decide) rfl rfl 0 (by decide) (hts (.fieldLink RX3 9 "TrialSearch$Space" "names" "I") (by decide +kernel)) rfl rfl dX3_countWays_9 ?_
    refine lv_icmp_ge (tgt := 31) hx hb dX3_countWays_12 (by decide) (fun c_1 => ?_) (fun c_1 => ?_)
    · have hw := hw.1 c_1
      exact h31 _ _ _ _ U (lv_sub hl [0] rfl) hw
    · have hw := hw.2 c_1
      refine lv_aload_n hx hb dX3_countWays_15 rfl (lv_at hl 0 rfl) ?_
      refine u_get (C := RX3) (T := TX3) (N := 9) (v := .ref (g.2.1 12)) hx hb hts hX3_countWays_X3 hown K U 1 2 (by decide) rfl rfl 8 (by decide) (hts (.fieldLink RX3 41 "TrialSearch$Space" "waysBelow" "[[J") (by decide +kernel)) rfl rfl dX3_countWays_16 ?_
      refine lv_iload_n hx hb dX3_countWays_19 rfl (lv_at hl 1 rfl) ?_
      obtain ⟨hi_2, hw⟩ := hw
      refine u_aald (b := 48) hx hb K U (k := 12) (by decide) (by decide) rfl rfl hi_2 dX3_countWays_20 ?_
      refine lv_lconst (v := 1) hx hb dX3_countWays_21 (by decide) ?_
      refine u_cv (u_rS (As := [.ref (g.2.1 (48 + v1.toNatClampNeg)), .long (1 : Int64)]) (rest := []) S K U (c_J7_fill_d0a16 hw) (va_cwS 2 hts gX3_countWays_J7_fill_d0a16 rfl rfl rfl (by decide +kernel) ⟨Nat.le_of_ble_eq_true rfl, Nat.le_of_ble_eq_true rfl⟩) rfl hl.1 rfl (Nat.le_of_ble_eq_true rfl) dX3_countWays_22 ⟨Nat.zero_le _, Nat.zero_le _⟩) U (fun A_4 B_5 H locs U9 hw => ?_)
      obtain ⟨eA, hw⟩ := hw
      rw [eA] at U9
      have U := U9
      obtain ⟨v1_6, ev1_6⟩ : ∃ y : Int32, y = v1 + 1 := ⟨_, rfl⟩
      have hw := hw v1_6 ev1_6
      refine lv_iinc (v := v1_6) (lv' := [(1, .int v1_6), (0, .ref (g.2.1 1))]) hx hb dX3_countWays_25 hl (k := 1) rfl (by rw [ev1_6]; rfl) (by decide) rfl (fun ls hl => ?_)
      refine lv_goto (tgt := 7) hx hb dX3_countWays_28 (by decide) ?_
      exact ih hw U (lv_sub hl [1, 0] rfl) h31
set_option maxHeartbeats 4000000 in
set_option maxRecDepth 100000 in
theorem t_X3_countWays_38 {p : Program} {l : Launch} {e : Env} {s : State} {m : MethodId} {args : Array Value} {below : List Frame} {meth : Method} {c : Code} {g : uG} {E97 : SB → Prop} {Q : SB → Prop} {A : SA} (C : uC p s m args meth c cX3_countWays 2 RX3 wsX3_countWays none) (K : UK g s) :
    ∀ {n : Nat} {v1 : Int32} {B : SB} {H : Heap} {locs : List Loc} {ls : Array Slot}, wp_X3_countWays_38 E97 Q A n v1 B → UU g A B s.heap H locs → lv_has ls 2 [(0, .ref (g.2.1 1)), (1, .int v1)] → (∀ (B : SB) (H : Heap) (locs : List Loc) (ls : Array Slot), UU g A B s.heap H locs → lv_has ls 2 [] → E97 B → W p l e rmX3_countWays s m args below meth c H locs 0 0 (MQ below (uQv g (fun A1 B1 => A1 = A ∧ Q B1)) args s 0 0 (FA g)) (F0 m 97 ls [])) → W p l e rmX3_countWays s m args below meth c H locs 0 0 (MQ below (uQv g (fun A1 B1 => A1 = A ∧ Q B1)) args s 0 0 (FA g)) (F0 m 38 ls []) := by
  obtain ⟨hx, hb, hml, hown, hts, hr, hlocks⟩ := id C
  have S : CallFix p m c cX3_countWays 2 s args wsX3_countWays RX3 := ⟨hx, hb, hml, hown, hts⟩
  intro n
  induction n with
  | zero => intro _ _ _ _ _ hw; exact False.elim hw
  | succ n ih =>
    intro v1 B H locs ls hw U hl h97
    refine lv_iload_n hx hb dX3_countWays_38 rfl (lv_at hl 1 rfl) ?_
    refine lv_if_lt (tgt := 97) hx hb dX3_countWays_39 (by decide) (fun c_10 => ?_) (fun c_10 => ?_)
    · have hw := hw.1 c_10
      exact h97 _ _ _ _ U (lv_sub hl [] rfl) hw
    · have hw := hw.2 c_10
      refine lv_aload_n hx hb dX3_countWays_42 rfl (lv_at hl 0 rfl) ?_
      refine u_get (C := RX3) (T := TX3) (N := 9) (v := .ref (g.2.1 11)) hx hb hts hX3_countWays_X3 hown K U 1 2 (by decide) rfl rfl 7 (by decide) (hts (.fieldLink RX3 35 "TrialSearch$Space" "ways" "[J") (by decide +kernel)) rfl rfl dX3_countWays_43 ?_
      refine lv_iload_n hx hb dX3_countWays_46 rfl (lv_at hl 1 rfl) ?_
      refine lv_aload_n hx hb dX3_countWays_47 rfl (lv_at hl 0 rfl) ?_
      refine lv_iload_n hx hb dX3_countWays_48 rfl (lv_at hl 1 rfl) ?_
      refine u_cl (u_rV (As := [.int v1]) (rest := [.int v1, .ref (g.2.1 11)]) (C := RX3) S K U 1 2 (by decide) rfl rfl (c_X3_sumOfWays hw) (cwV 1 hts gX3_countWays_X3_sumOfWays rfl rfl rfl (by decide +kernel) ⟨Nat.le_of_ble_eq_true rfl, Nat.le_of_ble_eq_true rfl⟩) rfl hl.1 rfl (Nat.le_of_ble_eq_true rfl) dX3_countWays_49 ⟨Nat.zero_le _, Nat.zero_le _⟩) U (fun r_11 A_12 B_13 H locs U9 hw => ?_)
      obtain ⟨eA, eB, hw⟩ := hw
      rw [eA, eB] at U9
      have U := U9
      obtain ⟨hi_14, hw⟩ := hw
      refine u_last (k := 11) hx hb K U rfl (by decide) rfl hi_14 dX3_countWays_52 (fun H locs U => ?_)
      refine lv_aload_n hx hb dX3_countWays_53 rfl (lv_at hl 0 rfl) ?_
      refine u_get (C := RX3) (T := TX3) (N := 9) (v := .ref (g.2.1 9)) hx hb hts hX3_countWays_X3 hown K U 1 2 (by decide) rfl rfl 5 (by decide) (hts (.fieldLink RX3 29 "TrialSearch$Space" "on" "[I") (by decide +kernel)) rfl rfl dX3_countWays_54 ?_
      refine lv_iload_n hx hb dX3_countWays_57 rfl (lv_at hl 1 rfl) ?_
      obtain ⟨hi_15, hw⟩ := hw
      refine u_iald (k := 9) (v := (A 9 v1.toNatClampNeg)) hx hb K U rfl (by decide) rfl hi_15 rfl dX3_countWays_58 ?_
      refine lv_if_ge (tgt := 80) hx hb dX3_countWays_59 (by decide) (fun c_16 => ?_) (fun c_16 => ?_)
      · have hw := hw.1 c_16
        refine lv_aload_n hx hb dX3_countWays_80 rfl (lv_at hl 0 rfl) ?_
        refine lv_iload_n hx hb dX3_countWays_81 rfl (lv_at hl 1 rfl) ?_
        refine lv_aload_n hx hb dX3_countWays_82 rfl (lv_at hl 0 rfl) ?_
        refine u_get (C := RX3) (T := TX3) (N := 9) (v := .ref (g.2.1 9)) hx hb hts hX3_countWays_X3 hown K U 1 2 (by decide) rfl rfl 5 (by decide) (hts (.fieldLink RX3 29 "TrialSearch$Space" "on" "[I") (by decide +kernel)) rfl rfl dX3_countWays_83 ?_
        refine lv_iload_n hx hb dX3_countWays_86 rfl (lv_at hl 1 rfl) ?_
        obtain ⟨hi_17, hw⟩ := hw
        refine u_iald (k := 9) (v := (A 9 v1.toNatClampNeg)) hx hb K U rfl (by decide) rfl hi_17 rfl dX3_countWays_87 ?_
        refine u_cv (u_rV (As := [.int v1, .int (A 9 v1.toNatClampNeg)]) (rest := []) (C := RX3) S K U 1 2 (by decide) rfl rfl (c_X3_hang hw) (cwV 2 hts gX3_countWays_X3_hang rfl rfl rfl (by decide +kernel) ⟨Nat.le_of_ble_eq_true rfl, Nat.le_of_ble_eq_true rfl⟩) rfl hl.1 rfl (Nat.le_of_ble_eq_true rfl) dX3_countWays_88 ⟨Nat.zero_le _, Nat.zero_le _⟩) U (fun A_19 B_20 H locs U9 hw => ?_)
        obtain ⟨eA, hw⟩ := hw
        rw [eA] at U9
        have U := U9
        obtain ⟨v1_21, ev1_21⟩ : ∃ y : Int32, y = v1 + (-1) := ⟨_, rfl⟩
        have hw := hw v1_21 ev1_21
        refine lv_iinc (v := v1_21) (lv' := [(1, .int v1_21), (0, .ref (g.2.1 1))]) hx hb dX3_countWays_91 hl (k := 1) rfl (by rw [ev1_21]; rfl) (by decide) rfl (fun ls hl => ?_)
        refine lv_goto (tgt := 38) hx hb dX3_countWays_94 (by decide) ?_
        exact ih hw U (lv_sub hl [1, 0] rfl) h97
      · have hw := hw.2 c_16
        refine lv_aload_n hx hb dX3_countWays_62 rfl (lv_at hl 0 rfl) ?_
        refine lv_dup hx hb dX3_countWays_63 rfl ?_
        refine u_get (C := RX3) (T := TX3) (N := 9) (v := .long (B 1 1)) hx hb hts hX3_countWays_X3 hown K U 1 2 (by decide) rfl rfl 1 (by decide) (hts (.fieldLink RX3 15 "TrialSearch$Space" "all" "J") (by decide +kernel)) rfl rfl dX3_countWays_64 ?_
        refine lv_aload_n hx hb dX3_countWays_67 rfl (lv_at hl 0 rfl) ?_
        refine u_get (C := RX3) (T := TX3) (N := 9) (v := .ref (g.2.1 11)) hx hb hts hX3_countWays_X3 hown K U 1 2 (by decide) rfl rfl 7 (by decide) (hts (.fieldLink RX3 35 "TrialSearch$Space" "ways" "[J") (by decide +kernel)) rfl rfl dX3_countWays_68 ?_
        refine lv_iload_n hx hb dX3_countWays_71 rfl (lv_at hl 1 rfl) ?_
        obtain ⟨hi_22, hw⟩ := hw
        refine u_lald (k := 11) (v := ((u2L B 11 v1.toNatClampNeg r_11) 11 v1.toNatClampNeg)) hx hb K U rfl (by decide) rfl hi_22 rfl dX3_countWays_72 ?_
        refine lv_lmul hx hb dX3_countWays_73 ?_
        refine lv_topl (fun x_23 ex_23 => ?_)
        have hw := hw x_23 ex_23
        refine u_putl (ty := .long) (C := RX3) (T := TX3) (N := 9) hx hb hts hX3_countWays_X3 tyX3 tyX3_ok nmX3 hown K U 1 2 (by decide) rfl rfl 1 (by decide) (hts (.fieldLink RX3 15 "TrialSearch$Space" "all" "J") (by decide +kernel)) rfl rfl (by decide +kernel) rfl rfl (Nat.le_of_ble_eq_true rfl) rfl dX3_countWays_74 (fun H locs U => ?_)
        refine lv_goto (tgt := 91) hx hb dX3_countWays_77 (by decide) ?_
        obtain ⟨v1_24, ev1_24⟩ : ∃ y : Int32, y = v1 + (-1) := ⟨_, rfl⟩
        have hw := hw v1_24 ev1_24
        refine lv_iinc (v := v1_24) (lv' := [(1, .int v1_24), (0, .ref (g.2.1 1))]) hx hb dX3_countWays_91 hl (k := 1) rfl (by rw [ev1_24]; rfl) (by decide) rfl (fun ls hl => ?_)
        refine lv_goto (tgt := 38) hx hb dX3_countWays_94 (by decide) ?_
        exact ih hw U (lv_sub hl [1, 0] rfl) h97
set_option maxHeartbeats 4000000 in
set_option maxRecDepth 100000 in
theorem c_X3_countWays {l : Launch} {g : uG}  {A : SA} {B : SB} {Q : SB → Prop} (hw : wp_X3_countWays  A B Q) : MV l yX3_countWays wsX3_countWays rmX3_countWays g A B [.ref (g.2.1 1)] (fun A1 B1 => A1 = A ∧ Q B1) := by
  refine u_of (cc := cX3_countWays) (maxL := 2) (ret := none) (by decide) rfl (Nat.le_of_ble_eq_true rfl) ?_
  intro p e s m below meth c ls C K U hl
  obtain ⟨hx, hb, hml, hown, hts, hr, hlocks⟩ := id C
  have S : CallFix p m c cX3_countWays 2 s ([.ref (g.2.1 1)] : List Value).toArray wsX3_countWays RX3 := ⟨hx, hb, hml, hown, hts⟩
  have hl : lv_has ls 2 [(0, .ref (g.2.1 1))] := hl
  refine lv_aload_n hx hb dX3_countWays_0 rfl (lv_at hl 0 rfl) ?_
  refine lv_lconst (v := 1) hx hb dX3_countWays_1 (by decide) ?_
  refine u_putl (ty := .long) (C := RX3) (T := TX3) (N := 9) hx hb hts hX3_countWays_X3 tyX3 tyX3_ok nmX3 hown K U 1 2 (by decide) rfl rfl 1 (by decide) (hts (.fieldLink RX3 15 "TrialSearch$Space" "all" "J") (by decide +kernel)) rfl rfl (by decide +kernel) rfl rfl (Nat.le_of_ble_eq_true rfl) rfl dX3_countWays_2 (fun H locs U => ?_)
  refine lv_iconst (v := 0) hx hb dX3_countWays_5 (by decide) ?_
  refine lv_istore_n (lv' := [(1, .int (0 : Int32)), (0, .ref (g.2.1 1))]) hx hb dX3_countWays_6 rfl hl (by decide) rfl (fun ls hl => ?_)
  obtain ⟨n_7, hw⟩ := hw
  refine t_X3_countWays_7 C K hw U (lv_sub hl [1, 0] rfl) (fun B_8 H locs ls U hl hw => ?_)
  refine lv_aload_n hx hb dX3_countWays_31 rfl (lv_at hl 0 rfl) ?_
  refine u_get (C := RX3) (T := TX3) (N := 9) (v := .int (A 1 0)) hx hb hts hX3_countWays_X3 hown K U 1 2 (by decide) rfl rfl 0 (by decide) (hts (.fieldLink RX3 9 "TrialSearch$Space" "names" "I") (by decide +kernel)) rfl rfl dX3_countWays_32 ?_
  refine lv_iconst (v := 1) hx hb dX3_countWays_35 (by decide) ?_
  refine lv_isub hx hb dX3_countWays_36 ?_
  refine lv_topi (fun x_9 ex_9 => ?_)
  have hw := hw x_9 ex_9
  refine lv_istore_n (lv' := [(1, .int x_9), (0, .ref (g.2.1 1))]) hx hb dX3_countWays_37 rfl hl (by decide) rfl (fun ls hl => ?_)
  obtain ⟨n_25, hw⟩ := hw
  refine t_X3_countWays_38 C K hw U (lv_sub hl [1, 0] rfl) (fun B_26 H locs ls U hl hw => ?_)
  exact u_vret hx hb hr hlocks U ⟨rfl, hw⟩ dX3_countWays_97
set_option maxHeartbeats 4000000 in
set_option maxRecDepth 100000 in
theorem c_X3_add {l : Launch} {g : uG} {a0 : Int32} {a1 : Int32} {a2 : Int32} {A : SA} {B : SB} {Q : Int32 → SA → SB → Prop} (hw : wp_X3_add a0 a1 a2 A B Q) : MI l yX3_add wsX3_add rmX3_add g A B [.ref (g.2.1 1), .int a0, .int a1, .int a2] Q := by
  refine u_of (cc := cX3_add) (maxL := 5) (ret := (some .int)) (by decide) rfl (Nat.le_of_ble_eq_true rfl) ?_
  intro p e s m below meth c ls C K U hl
  obtain ⟨hx, hb, hml, hown, hts, hr, hlocks⟩ := id C
  have S : CallFix p m c cX3_add 5 s ([.ref (g.2.1 1), .int a0, .int a1, .int a2] : List Value).toArray wsX3_add RX3 := ⟨hx, hb, hml, hown, hts⟩
  have hl : lv_has ls 5 [(0, .ref (g.2.1 1)), (1, .int a0), (2, .int a1), (3, .int a2)] := hl
  refine lv_aload_n hx hb dX3_add_0 rfl (lv_at hl 0 rfl) ?_
  refine u_get (C := RX3) (T := TX3) (N := 9) (v := .int (A 1 0)) hx hb hts hX3_add_X3 hown K U 1 2 (by decide) rfl rfl 0 (by decide) (hts (.fieldLink RX3 9 "TrialSearch$Space" "names" "I") (by decide +kernel)) rfl rfl dX3_add_1 ?_
  refine lv_topi (fun x_1 ex_1 => ?_)
  have hw := hw x_1 ex_1
  refine lv_istore (lv' := [(4, .int x_1), (0, .ref (g.2.1 1)), (1, .int a0), (2, .int a1), (3, .int a2)]) hx hb dX3_add_4 hl (by decide) rfl (fun ls hl => ?_)
  refine lv_aload_n hx hb dX3_add_6 rfl (lv_at hl 1 rfl) ?_
  refine u_get (C := RX3) (T := TX3) (N := 9) (v := .ref (g.2.1 8)) hx hb hts hX3_add_X3 hown K U 1 2 (by decide) rfl rfl 4 (by decide) (hts (.fieldLink RX3 26 "TrialSearch$Space" "many" "[I") (by decide +kernel)) rfl rfl dX3_add_7 ?_
  refine lv_iload hx hb dX3_add_10 (lv_at hl 0 rfl) ?_
  refine lv_iload_n hx hb dX3_add_12 rfl (lv_at hl 2 rfl) ?_
  obtain ⟨hi_2, hw⟩ := hw
  refine u_iast (k := 8) hx hb K U rfl (by decide) rfl hi_2 dX3_add_13 (fun H locs U => ?_)
  refine lv_aload_n hx hb dX3_add_14 rfl (lv_at hl 1 rfl) ?_
  refine u_get (C := RX3) (T := TX3) (N := 9) (v := .ref (g.2.1 9)) hx hb hts hX3_add_X3 hown K U 1 2 (by decide) rfl rfl 5 (by decide) (hts (.fieldLink RX3 29 "TrialSearch$Space" "on" "[I") (by decide +kernel)) rfl rfl dX3_add_15 ?_
  refine lv_iload hx hb dX3_add_18 (lv_at hl 0 rfl) ?_
  refine lv_iload_n hx hb dX3_add_20 rfl (lv_at hl 3 rfl) ?_
  obtain ⟨hi_3, hw⟩ := hw
  refine u_iast (k := 9) hx hb K U rfl (by decide) rfl hi_3 dX3_add_21 (fun H locs U => ?_)
  refine lv_aload_n hx hb dX3_add_22 rfl (lv_at hl 1 rfl) ?_
  refine u_get (C := RX3) (T := TX3) (N := 9) (v := .ref (g.2.1 10)) hx hb hts hX3_add_X3 hown K U 1 2 (by decide) rfl rfl 6 (by decide) (hts (.fieldLink RX3 32 "TrialSearch$Space" "set" "[I") (by decide +kernel)) rfl rfl dX3_add_23 ?_
  refine lv_iload hx hb dX3_add_26 (lv_at hl 0 rfl) ?_
  refine lv_iload_n hx hb dX3_add_28 rfl (lv_at hl 4 rfl) ?_
  obtain ⟨hi_4, hw⟩ := hw
  refine u_iast (k := 10) hx hb K U rfl (by decide) rfl hi_4 dX3_add_29 (fun H locs U => ?_)
  refine lv_aload_n hx hb dX3_add_30 rfl (lv_at hl 1 rfl) ?_
  refine lv_dup hx hb dX3_add_31 rfl ?_
  refine u_get (C := RX3) (T := TX3) (N := 9) (v := .int (A 1 0)) hx hb hts hX3_add_X3 hown K U 1 2 (by decide) rfl rfl 0 (by decide) (hts (.fieldLink RX3 9 "TrialSearch$Space" "names" "I") (by decide +kernel)) rfl rfl dX3_add_32 ?_
  refine lv_iconst (v := 1) hx hb dX3_add_35 (by decide) ?_
  refine lv_iadd hx hb dX3_add_36 ?_
  refine lv_topi (fun x_5 ex_5 => ?_)
  have hw := hw x_5 ex_5
  refine u_puti (ty := .int) (C := RX3) (T := TX3) (N := 9) hx hb hts hX3_add_X3 tyX3 tyX3_ok nmX3 hown K U 1 2 (by decide) rfl rfl 0 (by decide) (hts (.fieldLink RX3 9 "TrialSearch$Space" "names" "I") (by decide +kernel)) rfl rfl (by decide +kernel) rfl rfl (Nat.le_of_ble_eq_true rfl) rfl dX3_add_37 (fun H locs U => ?_)
  refine lv_aload_n hx hb dX3_add_40 rfl (lv_at hl 1 rfl) ?_
  refine u_cv (u_rV (As := []) (rest := []) (C := RX3) S K U 1 2 (by decide) rfl rfl (c_X3_countWays hw) (cwV 0 hts gX3_add_X3_countWays rfl rfl rfl (by decide +kernel) ⟨Nat.le_of_ble_eq_true rfl, Nat.le_of_ble_eq_true rfl⟩) rfl hl.1 rfl (Nat.le_of_ble_eq_true rfl) dX3_add_41 ⟨Nat.zero_le _, Nat.zero_le _⟩) U (fun A_7 B_8 H locs U9 hw => ?_)
  obtain ⟨eA, hw⟩ := hw
  rw [eA] at U9
  have U := U9
  refine lv_iload hx hb dX3_add_44 (lv_at hl 0 rfl) ?_
  exact u_iret hx hb hr hlocks U hw dX3_add_46
set_option maxHeartbeats 4000000 in
set_option maxRecDepth 100000 in
theorem c_X3_isThere {l : Launch} {g : uG} {a0 : Int32} {a1 : Nat} {A : SA} {B : SB} {Q : Int32 → Prop} (hw : wp_X3_isThere a0 a1 A B Q) : MI l yX3_isThere wsX3_isThere rmX3_isThere g A B [.ref (g.2.1 1), .int a0, .ref (g.2.1 a1)] (fun r A1 B1 => A1 = A ∧ B1 = B ∧ Q r ) := by
  refine u_of (cc := cX3_isThere) (maxL := 4) (ret := (some .boolean)) (by decide) rfl (Nat.le_of_ble_eq_true rfl) ?_
  intro p e s m below meth c ls C K U hl
  obtain ⟨hx, hb, hml, hown, hts, hr, hlocks⟩ := id C
  have S : CallFix p m c cX3_isThere 4 s ([.ref (g.2.1 1), .int a0, .ref (g.2.1 a1)] : List Value).toArray wsX3_isThere RX3 := ⟨hx, hb, hml, hown, hts⟩
  have hl : lv_has ls 4 [(0, .ref (g.2.1 1)), (1, .int a0), (2, .ref (g.2.1 a1))] := hl
  refine lv_aload_n hx hb dX3_isThere_0 rfl (lv_at hl 0 rfl) ?_
  refine u_get (C := RX3) (T := TX3) (N := 9) (v := .ref (g.2.1 9)) hx hb hts hX3_isThere_X3 hown K U 1 2 (by decide) rfl rfl 5 (by decide) (hts (.fieldLink RX3 29 "TrialSearch$Space" "on" "[I") (by decide +kernel)) rfl rfl dX3_isThere_1 ?_
  refine lv_iload_n hx hb dX3_isThere_4 rfl (lv_at hl 1 rfl) ?_
  obtain ⟨hi_1, hw⟩ := hw
  refine u_iald (k := 9) (v := (A 9 a0.toNatClampNeg)) hx hb K U rfl (by decide) rfl hi_1 rfl dX3_isThere_5 ?_
  refine lv_topi (fun x_2 ex_2 => ?_)
  have hw := hw x_2 ex_2
  refine lv_istore_n (lv' := [(3, .int x_2), (0, .ref (g.2.1 1)), (1, .int a0), (2, .ref (g.2.1 a1))]) hx hb dX3_isThere_6 rfl hl (by decide) rfl (fun ls hl => ?_)
  refine lv_iload_n hx hb dX3_isThere_7 rfl (lv_at hl 0 rfl) ?_
  refine lv_if_lt (tgt := 32) hx hb dX3_isThere_8 (by decide) (fun c_3 => ?_) (fun c_3 => ?_)
  · have hw := hw.1 c_3
    refine lv_iconst (v := 1) hx hb dX3_isThere_32 (by decide) ?_
    refine lv_goto (tgt := 37) hx hb dX3_isThere_33 (by decide) ?_
    exact u_zret hx hb hr hlocks U (by decide +kernel) ⟨rfl, rfl, hw⟩ dX3_isThere_37
  · have hw := hw.2 c_3
    refine lv_aload_n hx hb dX3_isThere_11 rfl (lv_at hl 3 rfl) ?_
    refine lv_iload_n hx hb dX3_isThere_12 rfl (lv_at hl 0 rfl) ?_
    obtain ⟨⟨hk_5, hk_6, hi_4⟩, hw⟩ := hw
    refine u_iald (k := a1) (v := (A a1 x_2.toNatClampNeg)) hx hb K U hk_5 hk_6 rfl hi_4 rfl dX3_isThere_13 ?_
    refine lv_if_lt (tgt := 36) hx hb dX3_isThere_14 (by decide) (fun c_7 => ?_) (fun c_7 => ?_)
    · have hw := hw.1 c_7
      refine lv_iconst (v := 0) hx hb dX3_isThere_36 (by decide) ?_
      exact u_zret hx hb hr hlocks U (by decide +kernel) ⟨rfl, rfl, hw⟩ dX3_isThere_37
    · have hw := hw.2 c_7
      refine lv_aload_n hx hb dX3_isThere_17 rfl (lv_at hl 1 rfl) ?_
      refine u_get (C := RX3) (T := TX3) (N := 9) (v := .ref (g.2.1 10)) hx hb hts hX3_isThere_X3 hown K U 1 2 (by decide) rfl rfl 6 (by decide) (hts (.fieldLink RX3 32 "TrialSearch$Space" "set" "[I") (by decide +kernel)) rfl rfl dX3_isThere_18 ?_
      refine lv_iload_n hx hb dX3_isThere_21 rfl (lv_at hl 2 rfl) ?_
      obtain ⟨hi_8, hw⟩ := hw
      refine u_iald (k := 10) (v := (A 10 a0.toNatClampNeg)) hx hb K U rfl (by decide) rfl hi_8 rfl dX3_isThere_22 ?_
      refine lv_aload_n hx hb dX3_isThere_23 rfl (lv_at hl 3 rfl) ?_
      refine lv_iload_n hx hb dX3_isThere_24 rfl (lv_at hl 0 rfl) ?_
      obtain ⟨⟨hk_10, hk_11, hi_9⟩, hw⟩ := hw
      refine u_iald (k := a1) (v := (A a1 x_2.toNatClampNeg)) hx hb K U hk_10 hk_11 rfl hi_9 rfl dX3_isThere_25 ?_
      refine u_ci (u_rS (As := [.int (A 10 a0.toNatClampNeg), .int (A a1 x_2.toNatClampNeg)]) (rest := []) S K U (c_X3_hasBit hw) (va_cwS 2 hts gX3_isThere_X3_hasBit rfl rfl rfl (by decide +kernel) ⟨Nat.le_of_ble_eq_true rfl, Nat.le_of_ble_eq_true rfl⟩) rfl hl.1 rfl (Nat.le_of_ble_eq_true rfl) dX3_isThere_26 ⟨Nat.zero_le _, Nat.zero_le _⟩) U (fun r_12 A_13 B_14 H locs U9 hw => ?_)
      obtain ⟨eA, eB, hw⟩ := hw
      rw [eA, eB] at U9
      have U := U9
      refine lv_if_eq (tgt := 36) hx hb dX3_isThere_29 (by decide) (fun c_15 => ?_) (fun c_15 => ?_)
      · have hw := hw.1 c_15
        refine lv_iconst (v := 0) hx hb dX3_isThere_36 (by decide) ?_
        exact u_zret hx hb hr hlocks U (by decide +kernel) ⟨rfl, rfl, hw⟩ dX3_isThere_37
      · have hw := hw.2 c_15
        refine lv_iconst (v := 1) hx hb dX3_isThere_32 (by decide) ?_
        refine lv_goto (tgt := 37) hx hb dX3_isThere_33 (by decide) ?_
        exact u_zret hx hb hr hlocks U (by decide +kernel) ⟨rfl, rfl, hw⟩ dX3_isThere_37
set_option maxHeartbeats 4000000 in
set_option maxRecDepth 100000 in
theorem t_X3_read_54 {p : Program} {l : Launch} {e : Env} {s : State} {m : MethodId} {args : Array Value} {below : List Frame} {meth : Method} {c : Code} {g : uG} {E111 : Int64 → Int32 → Prop} {Q : SA → Prop} {v3 : Nat} {v6 : Int64} {v8 : Int32} {A : SA} {B : SB} (C : uC p s m args meth c cX3_read 10 RX3 wsX3_read none) (K : UK g s) :
    ∀ {n : Nat} {v4 : Int64} {v9 : Int32} {H : Heap} {locs : List Loc} {ls : Array Slot}, wp_X3_read_54 E111 Q v3 v6 v8 A B n v4 v9 → UU g A B s.heap H locs → lv_has ls 10 [(0, .ref (g.2.1 1)), (3, .ref (g.2.1 v3)), (4, .long v4), (6, .long v6), (8, .int v8), (9, .int v9)] → (∀ (v4 : Int64) (v9 : Int32) (H : Heap) (locs : List Loc) (ls : Array Slot), UU g A B s.heap H locs → lv_has ls 10 [(0, .ref (g.2.1 1)), (3, .ref (g.2.1 v3)), (4, .long v4), (6, .long v6), (8, .int v8), (9, .int v9)] → E111 v4 v9 → W p l e rmX3_read s m args below meth c H locs 0 0 (MQ below (uQv g (fun A1 B1 => B1 = B ∧ Q A1 )) args s 0 0 (FA g)) (F0 m 111 ls [])) → W p l e rmX3_read s m args below meth c H locs 0 0 (MQ below (uQv g (fun A1 B1 => B1 = B ∧ Q A1 )) args s 0 0 (FA g)) (F0 m 54 ls []) := by
  obtain ⟨hx, hb, hml, hown, hts, hr, hlocks⟩ := id C
  have S : CallFix p m c cX3_read 10 s args wsX3_read RX3 := ⟨hx, hb, hml, hown, hts⟩
  intro n
  induction n with
  | zero => intro _ _ _ _ _ hw; exact False.elim hw
  | succ n ih =>
    intro v4 v9 H locs ls hw U hl h111
    refine lv_iload hx hb dX3_read_54 (lv_at hl 5 rfl) ?_
    refine lv_aload_n hx hb dX3_read_56 rfl (lv_at hl 0 rfl) ?_
    refine u_get (C := RX3) (T := TX3) (N := 9) (v := .ref (g.2.1 8)) hx hb hts hX3_read_X3 hown K U 1 2 (by decide) rfl rfl 4 (by decide) (hts (.fieldLink RX3 26 "TrialSearch$Space" "many" "[I") (by decide +kernel)) rfl rfl dX3_read_57 ?_
    refine lv_iload hx hb dX3_read_60 (lv_at hl 4 rfl) ?_
    obtain ⟨hi_15, hw⟩ := hw
    refine u_iald (k := 8) (v := (A 8 v8.toNatClampNeg)) hx hb K U rfl (by decide) rfl hi_15 rfl dX3_read_62 ?_
    refine lv_iconst (v := 1) hx hb dX3_read_63 (by decide) ?_
    refine lv_isub hx hb dX3_read_64 ?_
    refine lv_icmp_ge (tgt := 111) hx hb dX3_read_65 (by decide) (fun c_16 => ?_) (fun c_16 => ?_)
    · have hw := hw.1 c_16
      exact h111 _ _ _ _ _ U (lv_sub hl [0, 1, 2, 3, 4, 5] rfl) hw
    · have hw := hw.2 c_16
      refine lv_lload hx hb dX3_read_68 (lv_at hl 2 rfl) ?_
      refine lv_lload hx hb dX3_read_70 (lv_at hl 3 rfl) ?_
      refine lv_aload_n hx hb dX3_read_72 rfl (lv_at hl 0 rfl) ?_
      refine u_get (C := RX3) (T := TX3) (N := 9) (v := .ref (g.2.1 12)) hx hb hts hX3_read_X3 hown K U 1 2 (by decide) rfl rfl 8 (by decide) (hts (.fieldLink RX3 41 "TrialSearch$Space" "waysBelow" "[[J") (by decide +kernel)) rfl rfl dX3_read_73 ?_
      refine lv_iload hx hb dX3_read_76 (lv_at hl 4 rfl) ?_
      obtain ⟨hi_17, hw⟩ := hw
      refine u_aald (b := 48) hx hb K U (k := 12) (by decide) (by decide) rfl rfl hi_17 dX3_read_78 ?_
      refine lv_iload hx hb dX3_read_79 (lv_at hl 5 rfl) ?_
      obtain ⟨hi_18, hw⟩ := hw
      refine u_lald (k := (48 + v8.toNatClampNeg)) (v := (B (48 + v8.toNatClampNeg) v9.toNatClampNeg)) hx hb K U (urow_48 hi_17).1 (urow_48 hi_17).2.1 (urow_48 hi_17).2.2 hi_18 rfl dX3_read_81 ?_
      refine lv_lmul hx hb dX3_read_82 ?_
      refine u_lc_lt (tgt := 111) hx hb dX3_read_83 dX3_read_84 (by decide) (fun c_19 => ?_) (fun c_19 => ?_)
      · have hw := hw.1 c_19
        exact h111 _ _ _ _ _ U (lv_sub hl [0, 1, 2, 3, 4, 5] rfl) hw
      · have hw := hw.2 c_19
        refine lv_lload hx hb dX3_read_87 (lv_at hl 2 rfl) ?_
        refine lv_lload hx hb dX3_read_89 (lv_at hl 3 rfl) ?_
        refine lv_aload_n hx hb dX3_read_91 rfl (lv_at hl 0 rfl) ?_
        refine u_get (C := RX3) (T := TX3) (N := 9) (v := .ref (g.2.1 12)) hx hb hts hX3_read_X3 hown K U 1 2 (by decide) rfl rfl 8 (by decide) (hts (.fieldLink RX3 41 "TrialSearch$Space" "waysBelow" "[[J") (by decide +kernel)) rfl rfl dX3_read_92 ?_
        refine lv_iload hx hb dX3_read_95 (lv_at hl 4 rfl) ?_
        obtain ⟨hi_20, hw⟩ := hw
        refine u_aald (b := 48) hx hb K U (k := 12) (by decide) (by decide) rfl rfl hi_20 dX3_read_97 ?_
        refine lv_iload hx hb dX3_read_98 (lv_at hl 5 rfl) ?_
        obtain ⟨hi_21, hw⟩ := hw
        refine u_lald (k := (48 + v8.toNatClampNeg)) (v := (B (48 + v8.toNatClampNeg) v9.toNatClampNeg)) hx hb K U (urow_48 hi_20).1 (urow_48 hi_20).2.1 (urow_48 hi_20).2.2 hi_21 rfl dX3_read_100 ?_
        refine lv_lmul hx hb dX3_read_101 ?_
        refine lv_lsub hx hb dX3_read_102 ?_
        refine lv_topl (fun x_22 ex_22 => ?_)
        have hw := hw x_22 ex_22
        refine lv_lstore (lv' := [(4, .long x_22), (0, .ref (g.2.1 1)), (3, .ref (g.2.1 v3)), (6, .long v6), (8, .int v8), (9, .int v9)]) hx hb dX3_read_103 hl (by decide) rfl (fun ls hl => ?_)
        obtain ⟨v9_23, ev9_23⟩ : ∃ y : Int32, y = v9 + 1 := ⟨_, rfl⟩
        have hw := hw v9_23 ev9_23
        refine lv_iinc (v := v9_23) (lv' := [(9, .int v9_23), (4, .long x_22), (0, .ref (g.2.1 1)), (3, .ref (g.2.1 v3)), (6, .long v6), (8, .int v8)]) hx hb dX3_read_105 hl (k := 5) rfl (by rw [ev9_23]; rfl) (by decide) rfl (fun ls hl => ?_)
        refine lv_goto (tgt := 54) hx hb dX3_read_108 (by decide) ?_
        exact ih hw U (lv_sub hl [2, 3, 1, 4, 5, 0] rfl) h111
set_option maxHeartbeats 4000000 in
set_option maxRecDepth 100000 in
theorem t_X3_read_12 {p : Program} {l : Launch} {e : Env} {s : State} {m : MethodId} {args : Array Value} {below : List Frame} {meth : Method} {c : Code} {g : uG} {E138 : SA → Prop} {Q : SA → Prop} {v3 : Nat} {B : SB} (C : uC p s m args meth c cX3_read 10 RX3 wsX3_read none) (K : UK g s) :
    ∀ {n : Nat} {v4 : Int64} {v6 : Int64} {v8 : Int32} {A : SA} {H : Heap} {locs : List Loc} {ls : Array Slot}, wp_X3_read_12 E138 Q v3 B n v4 v6 v8 A → UU g A B s.heap H locs → lv_has ls 10 [(0, .ref (g.2.1 1)), (3, .ref (g.2.1 v3)), (4, .long v4), (6, .long v6), (8, .int v8)] → (∀ (A : SA) (H : Heap) (locs : List Loc) (ls : Array Slot), UU g A B s.heap H locs → lv_has ls 10 [] → E138 A → W p l e rmX3_read s m args below meth c H locs 0 0 (MQ below (uQv g (fun A1 B1 => B1 = B ∧ Q A1 )) args s 0 0 (FA g)) (F0 m 138 ls [])) → W p l e rmX3_read s m args below meth c H locs 0 0 (MQ below (uQv g (fun A1 B1 => B1 = B ∧ Q A1 )) args s 0 0 (FA g)) (F0 m 12 ls []) := by
  obtain ⟨hx, hb, hml, hown, hts, hr, hlocks⟩ := id C
  have S : CallFix p m c cX3_read 10 s args wsX3_read RX3 := ⟨hx, hb, hml, hown, hts⟩
  intro n
  induction n with
  | zero => intro _ _ _ _ _ _ _ hw; exact False.elim hw
  | succ n ih =>
    intro v4 v6 v8 A H locs ls hw U hl h138
    refine lv_iload hx hb dX3_read_12 (lv_at hl 4 rfl) ?_
    refine lv_aload_n hx hb dX3_read_14 rfl (lv_at hl 0 rfl) ?_
    refine u_get (C := RX3) (T := TX3) (N := 9) (v := .int (A 1 0)) hx hb hts hX3_read_X3 hown K U 1 2 (by decide) rfl rfl 0 (by decide) (hts (.fieldLink RX3 9 "TrialSearch$Space" "names" "I") (by decide +kernel)) rfl rfl dX3_read_15 ?_
    refine lv_icmp_ge (tgt := 138) hx hb dX3_read_18 (by decide) (fun c_2 => ?_) (fun c_2 => ?_)
    · have hw := hw.1 c_2
      exact h138 _ _ _ _ U (lv_sub hl [] rfl) hw
    · have hw := hw.2 c_2
      refine lv_aload_n hx hb dX3_read_21 rfl (lv_at hl 1 rfl) ?_
      refine lv_iload hx hb dX3_read_22 (lv_at hl 4 rfl) ?_
      refine lv_bipush (v := -2) hx hb dX3_read_24 (by decide) ?_
      obtain ⟨⟨hk_4, hk_5, hi_3⟩, hw⟩ := hw
      refine u_iast (k := v3) hx hb K U hk_4 hk_5 rfl hi_3 dX3_read_26 (fun H locs U => ?_)
      refine lv_aload_n hx hb dX3_read_27 rfl (lv_at hl 0 rfl) ?_
      refine lv_iload hx hb dX3_read_28 (lv_at hl 4 rfl) ?_
      refine lv_aload_n hx hb dX3_read_30 rfl (lv_at hl 1 rfl) ?_
      refine u_ci (u_rV (As := [.int v8, .ref (g.2.1 v3)]) (rest := []) (C := RX3) S K U 1 2 (by decide) rfl rfl (c_X3_isThere hw) (cwV 2 hts gX3_read_X3_isThere rfl rfl rfl (by decide +kernel) ⟨Nat.le_of_ble_eq_true rfl, Nat.le_of_ble_eq_true rfl⟩) rfl hl.1 rfl (Nat.le_of_ble_eq_true rfl) dX3_read_31 ⟨Nat.zero_le _, Nat.zero_le _⟩) U (fun r_6 A_7 B_8 H locs U9 hw => ?_)
      obtain ⟨eA, eB, hw⟩ := hw
      rw [eA, eB] at U9
      have U := U9
      refine lv_if_eq (tgt := 132) hx hb dX3_read_34 (by decide) (fun c_9 => ?_) (fun c_9 => ?_)
      · have hw := hw.1 c_9
        obtain ⟨v8_10, ev8_10⟩ : ∃ y : Int32, y = v8 + 1 := ⟨_, rfl⟩
        have hw := hw v8_10 ev8_10
        refine lv_iinc (v := v8_10) (lv' := [(8, .int v8_10), (0, .ref (g.2.1 1)), (3, .ref (g.2.1 v3)), (4, .long v4), (6, .long v6)]) hx hb dX3_read_132 hl (k := 4) rfl (by rw [ev8_10]; rfl) (by decide) rfl (fun ls hl => ?_)
        refine lv_goto (tgt := 12) hx hb dX3_read_135 (by decide) ?_
        exact ih hw U (lv_sub hl [1, 2, 3, 4, 0] rfl) h138
      · have hw := hw.2 c_9
        refine lv_lload hx hb dX3_read_37 (lv_at hl 3 rfl) ?_
        refine lv_aload_n hx hb dX3_read_39 rfl (lv_at hl 0 rfl) ?_
        refine u_get (C := RX3) (T := TX3) (N := 9) (v := .ref (g.2.1 11)) hx hb hts hX3_read_X3 hown K U 1 2 (by decide) rfl rfl 7 (by decide) (hts (.fieldLink RX3 35 "TrialSearch$Space" "ways" "[J") (by decide +kernel)) rfl rfl dX3_read_40 ?_
        refine lv_iload hx hb dX3_read_43 (lv_at hl 4 rfl) ?_
        obtain ⟨hi_11, hw⟩ := hw
        refine u_lald (k := 11) (v := (B 11 v8.toNatClampNeg)) hx hb K U rfl (by decide) rfl hi_11 rfl dX3_read_45 ?_
        refine u_cl (u_rSN (As := [.long v6, .long (B 11 v8.toNatClampNeg)]) (rest := []) S K U (c_X5_cut hw) ⟨va_cnB (host := "TrialSearch") 2 hts gX3_read_X5_cut_n69 rfl rfl rfl (K.2.2 _ (by decide +kernel)) (hts (.initialized RX5) (by decide +kernel)) (by decide +kernel) ⟨Nat.le_of_ble_eq_true rfl, Nat.le_of_ble_eq_true rfl⟩, hts (.static yX5_cut) (by decide +kernel), trivial⟩ rfl hl.1 rfl (Nat.le_of_ble_eq_true rfl) dX3_read_46 ⟨Nat.zero_le _, Nat.zero_le _⟩) U (fun r_12 A_13 B_14 H locs U9 hw => ?_)
        obtain ⟨eA, eB, hw⟩ := hw
        rw [eA, eB] at U9
        have U := U9
        refine lv_lstore (lv' := [(6, .long r_12), (0, .ref (g.2.1 1)), (3, .ref (g.2.1 v3)), (4, .long v4), (8, .int v8)]) hx hb dX3_read_49 hl (by decide) rfl (fun ls hl => ?_)
        refine lv_iconst (v := 0) hx hb dX3_read_51 (by decide) ?_
        refine lv_istore (lv' := [(9, .int (0 : Int32)), (6, .long r_12), (0, .ref (g.2.1 1)), (3, .ref (g.2.1 v3)), (4, .long v4), (8, .int v8)]) hx hb dX3_read_52 hl (by decide) rfl (fun ls hl => ?_)
        obtain ⟨n_24, hw⟩ := hw
        refine t_X3_read_54 C K hw U (lv_sub hl [2, 3, 4, 1, 5, 0] rfl) (fun v4_25 v9_26 H locs ls U hl hw => ?_)
        refine lv_aload_n hx hb dX3_read_111 rfl (lv_at hl 1 rfl) ?_
        refine lv_iload hx hb dX3_read_112 (lv_at hl 4 rfl) ?_
        refine lv_iload hx hb dX3_read_114 (lv_at hl 5 rfl) ?_
        obtain ⟨⟨hk_28, hk_29, hi_27⟩, hw⟩ := hw
        refine u_iast (k := v3) hx hb K U hk_28 hk_29 rfl hi_27 dX3_read_116 (fun H locs U => ?_)
        refine lv_lload hx hb dX3_read_117 (lv_at hl 3 rfl) ?_
        refine lv_aload_n hx hb dX3_read_119 rfl (lv_at hl 0 rfl) ?_
        refine u_get (C := RX3) (T := TX3) (N := 9) (v := .ref (g.2.1 12)) hx hb hts hX3_read_X3 hown K U 1 2 (by decide) rfl rfl 8 (by decide) (hts (.fieldLink RX3 41 "TrialSearch$Space" "waysBelow" "[[J") (by decide +kernel)) rfl rfl dX3_read_120 ?_
        refine lv_iload hx hb dX3_read_123 (lv_at hl 4 rfl) ?_
        obtain ⟨hi_30, hw⟩ := hw
        refine u_aald (b := 48) hx hb K U (k := 12) (by decide) (by decide) rfl rfl hi_30 dX3_read_125 ?_
        refine lv_iload hx hb dX3_read_126 (lv_at hl 5 rfl) ?_
        obtain ⟨hi_31, hw⟩ := hw
        refine u_lald (k := (48 + v8.toNatClampNeg)) (v := (B (48 + v8.toNatClampNeg) v9_26.toNatClampNeg)) hx hb K U (urow_48 hi_30).1 (urow_48 hi_30).2.1 (urow_48 hi_30).2.2 hi_31 rfl dX3_read_128 ?_
        refine lv_lmul hx hb dX3_read_129 ?_
        refine lv_topl (fun x_32 ex_32 => ?_)
        have hw := hw x_32 ex_32
        refine lv_lstore (lv' := [(6, .long x_32), (0, .ref (g.2.1 1)), (3, .ref (g.2.1 v3)), (4, .long v4_25), (8, .int v8), (9, .int v9_26)]) hx hb dX3_read_130 hl (by decide) rfl (fun ls hl => ?_)
        obtain ⟨v8_33, ev8_33⟩ : ∃ y : Int32, y = v8 + 1 := ⟨_, rfl⟩
        have hw := hw v8_33 ev8_33
        refine lv_iinc (v := v8_33) (lv' := [(8, .int v8_33), (6, .long x_32), (0, .ref (g.2.1 1)), (3, .ref (g.2.1 v3)), (4, .long v4_25), (9, .int v9_26)]) hx hb dX3_read_132 hl (k := 4) rfl (by rw [ev8_33]; rfl) (by decide) rfl (fun ls hl => ?_)
        refine lv_goto (tgt := 12) hx hb dX3_read_135 (by decide) ?_
        exact ih hw U (lv_sub hl [2, 3, 4, 1, 0] rfl) h138
set_option maxHeartbeats 4000000 in
set_option maxRecDepth 100000 in
theorem c_X3_read {l : Launch} {g : uG} {a0 : Int64} {a1 : Nat} {A : SA} {B : SB} {Q : SA → Prop} (hw : wp_X3_read a0 a1 A B Q) : MV l yX3_read wsX3_read rmX3_read g A B [.ref (g.2.1 1), .long a0, .ref (g.2.1 a1)] (fun A1 B1 => B1 = B ∧ Q A1 ) := by
  refine u_of (cc := cX3_read) (maxL := 10) (ret := none) (by decide) rfl (Nat.le_of_ble_eq_true rfl) ?_
  intro p e s m below meth c ls C K U hl
  obtain ⟨hx, hb, hml, hown, hts, hr, hlocks⟩ := id C
  have S : CallFix p m c cX3_read 10 s ([.ref (g.2.1 1), .long a0, .ref (g.2.1 a1)] : List Value).toArray wsX3_read RX3 := ⟨hx, hb, hml, hown, hts⟩
  have hl : lv_has ls 10 [(0, .ref (g.2.1 1)), (1, .long a0), (3, .ref (g.2.1 a1))] := hl
  refine lv_lload_n hx hb dX3_read_0 rfl (lv_at hl 1 rfl) ?_
  refine lv_lstore (lv' := [(4, .long a0), (0, .ref (g.2.1 1)), (1, .long a0), (3, .ref (g.2.1 a1))]) hx hb dX3_read_1 hl (by decide) rfl (fun ls hl => ?_)
  refine lv_aload_n hx hb dX3_read_3 rfl (lv_at hl 1 rfl) ?_
  refine u_get (C := RX3) (T := TX3) (N := 9) (v := .long (B 1 1)) hx hb hts hX3_read_X3 hown K U 1 2 (by decide) rfl rfl 1 (by decide) (hts (.fieldLink RX3 15 "TrialSearch$Space" "all" "J") (by decide +kernel)) rfl rfl dX3_read_4 ?_
  refine lv_topl (fun x_1 ex_1 => ?_)
  have hw := hw x_1 ex_1
  refine lv_lstore (lv' := [(6, .long x_1), (4, .long a0), (0, .ref (g.2.1 1)), (1, .long a0), (3, .ref (g.2.1 a1))]) hx hb dX3_read_7 hl (by decide) rfl (fun ls hl => ?_)
  refine lv_iconst (v := 0) hx hb dX3_read_9 (by decide) ?_
  refine lv_istore (lv' := [(8, .int (0 : Int32)), (6, .long x_1), (4, .long a0), (0, .ref (g.2.1 1)), (1, .long a0), (3, .ref (g.2.1 a1))]) hx hb dX3_read_10 hl (by decide) rfl (fun ls hl => ?_)
  obtain ⟨n_34, hw⟩ := hw
  refine t_X3_read_12 C K hw U (lv_sub hl [3, 5, 2, 1, 0] rfl) (fun A_35 H locs ls U hl hw => ?_)
  exact u_vret hx hb hr hlocks U ⟨rfl, hw⟩ dX3_read_138
set_option maxHeartbeats 4000000 in
set_option maxRecDepth 100000 in
theorem t_X3_place_44 {p : Program} {l : Launch} {e : Env} {s : State} {m : MethodId} {args : Array Value} {below : List Frame} {meth : Method} {c : Code} {g : uG} {E75 : Int64 → Prop} {Q : Int64 → Prop} {v1 : Nat} {v4 : Int64} {v6 : Int32} {A : SA} {B : SB} (C : uC p s m args meth c cX3_place 8 RX3 wsX3_place (some .long)) (K : UK g s) :
    ∀ {n : Nat} {v2 : Int64} {v7 : Int32} {H : Heap} {locs : List Loc} {ls : Array Slot}, wp_X3_place_44 E75 Q v1 v4 v6 A B n v2 v7 → UU g A B s.heap H locs → lv_has ls 8 [(0, .ref (g.2.1 1)), (1, .ref (g.2.1 v1)), (2, .long v2), (4, .long v4), (6, .int v6), (7, .int v7)] → (∀ (v2 : Int64) (H : Heap) (locs : List Loc) (ls : Array Slot), UU g A B s.heap H locs → lv_has ls 8 [(0, .ref (g.2.1 1)), (1, .ref (g.2.1 v1)), (2, .long v2), (4, .long v4), (6, .int v6)] → E75 v2 → W p l e rmX3_place s m args below meth c H locs 0 0 (MQ below (uQl g (fun r A1 B1 => A1 = A ∧ B1 = B ∧ Q r )) args s 0 0 (FA g)) (F0 m 75 ls [])) → W p l e rmX3_place s m args below meth c H locs 0 0 (MQ below (uQl g (fun r A1 B1 => A1 = A ∧ B1 = B ∧ Q r )) args s 0 0 (FA g)) (F0 m 44 ls []) := by
  obtain ⟨hx, hb, hml, hown, hts, hr, hlocks⟩ := id C
  have S : CallFix p m c cX3_place 8 s args wsX3_place RX3 := ⟨hx, hb, hml, hown, hts⟩
  intro n
  induction n with
  | zero => intro _ _ _ _ _ hw; exact False.elim hw
  | succ n ih =>
    intro v2 v7 H locs ls hw U hl h75
    refine lv_iload hx hb dX3_place_44 (lv_at hl 5 rfl) ?_
    refine lv_aload_n hx hb dX3_place_46 rfl (lv_at hl 1 rfl) ?_
    refine lv_iload hx hb dX3_place_47 (lv_at hl 4 rfl) ?_
    obtain ⟨⟨hk_13, hk_14, hi_12⟩, hw⟩ := hw
    refine u_iald (k := v1) (v := (A v1 v6.toNatClampNeg)) hx hb K U hk_13 hk_14 rfl hi_12 rfl dX3_place_49 ?_
    refine lv_icmp_ge (tgt := 75) hx hb dX3_place_50 (by decide) (fun c_15 => ?_) (fun c_15 => ?_)
    · have hw := hw.1 c_15
      exact h75 _ _ _ _ U (lv_sub hl [0, 1, 2, 3, 4] rfl) hw
    · have hw := hw.2 c_15
      refine lv_lload_n hx hb dX3_place_53 rfl (lv_at hl 2 rfl) ?_
      refine lv_lload hx hb dX3_place_54 (lv_at hl 3 rfl) ?_
      refine lv_aload_n hx hb dX3_place_56 rfl (lv_at hl 0 rfl) ?_
      refine u_get (C := RX3) (T := TX3) (N := 9) (v := .ref (g.2.1 12)) hx hb hts hX3_place_X3 hown K U 1 2 (by decide) rfl rfl 8 (by decide) (hts (.fieldLink RX3 41 "TrialSearch$Space" "waysBelow" "[[J") (by decide +kernel)) rfl rfl dX3_place_57 ?_
      refine lv_iload hx hb dX3_place_60 (lv_at hl 4 rfl) ?_
      obtain ⟨hi_16, hw⟩ := hw
      refine u_aald (b := 48) hx hb K U (k := 12) (by decide) (by decide) rfl rfl hi_16 dX3_place_62 ?_
      refine lv_iload hx hb dX3_place_63 (lv_at hl 5 rfl) ?_
      obtain ⟨hi_17, hw⟩ := hw
      refine u_lald (k := (48 + v6.toNatClampNeg)) (v := (B (48 + v6.toNatClampNeg) v7.toNatClampNeg)) hx hb K U (urow_48 hi_16).1 (urow_48 hi_16).2.1 (urow_48 hi_16).2.2 hi_17 rfl dX3_place_65 ?_
      refine lv_lmul hx hb dX3_place_66 ?_
      refine lv_ladd hx hb dX3_place_67 ?_
      refine lv_topl (fun x_18 ex_18 => ?_)
      have hw := hw x_18 ex_18
      refine lv_lstore_n (lv' := [(2, .long x_18), (0, .ref (g.2.1 1)), (1, .ref (g.2.1 v1)), (4, .long v4), (6, .int v6), (7, .int v7)]) hx hb dX3_place_68 rfl hl (by decide) rfl (fun ls hl => ?_)
      obtain ⟨v7_19, ev7_19⟩ : ∃ y : Int32, y = v7 + 1 := ⟨_, rfl⟩
      have hw := hw v7_19 ev7_19
      refine lv_iinc (v := v7_19) (lv' := [(7, .int v7_19), (2, .long x_18), (0, .ref (g.2.1 1)), (1, .ref (g.2.1 v1)), (4, .long v4), (6, .int v6)]) hx hb dX3_place_69 hl (k := 5) rfl (by rw [ev7_19]; rfl) (by decide) rfl (fun ls hl => ?_)
      refine lv_goto (tgt := 44) hx hb dX3_place_72 (by decide) ?_
      exact ih hw U (lv_sub hl [2, 3, 1, 4, 5, 0] rfl) h75
set_option maxHeartbeats 4000000 in
set_option maxRecDepth 100000 in
theorem t_X3_place_11 {p : Program} {l : Launch} {e : Env} {s : State} {m : MethodId} {args : Array Value} {below : List Frame} {meth : Method} {c : Code} {g : uG} {E98 : Int64 → Prop} {Q : Int64 → Prop} {v1 : Nat} {A : SA} {B : SB} (C : uC p s m args meth c cX3_place 8 RX3 wsX3_place (some .long)) (K : UK g s) :
    ∀ {n : Nat} {v2 : Int64} {v4 : Int64} {v6 : Int32} {H : Heap} {locs : List Loc} {ls : Array Slot}, wp_X3_place_11 E98 Q v1 A B n v2 v4 v6 → UU g A B s.heap H locs → lv_has ls 8 [(0, .ref (g.2.1 1)), (1, .ref (g.2.1 v1)), (2, .long v2), (4, .long v4), (6, .int v6)] → (∀ (v2 : Int64) (H : Heap) (locs : List Loc) (ls : Array Slot), UU g A B s.heap H locs → lv_has ls 8 [(2, .long v2)] → E98 v2 → W p l e rmX3_place s m args below meth c H locs 0 0 (MQ below (uQl g (fun r A1 B1 => A1 = A ∧ B1 = B ∧ Q r )) args s 0 0 (FA g)) (F0 m 98 ls [])) → W p l e rmX3_place s m args below meth c H locs 0 0 (MQ below (uQl g (fun r A1 B1 => A1 = A ∧ B1 = B ∧ Q r )) args s 0 0 (FA g)) (F0 m 11 ls []) := by
  obtain ⟨hx, hb, hml, hown, hts, hr, hlocks⟩ := id C
  have S : CallFix p m c cX3_place 8 s args wsX3_place RX3 := ⟨hx, hb, hml, hown, hts⟩
  intro n
  induction n with
  | zero => intro _ _ _ _ _ _ hw; exact False.elim hw
  | succ n ih =>
    intro v2 v4 v6 H locs ls hw U hl h98
    refine lv_iload hx hb dX3_place_11 (lv_at hl 4 rfl) ?_
    refine lv_aload_n hx hb dX3_place_13 rfl (lv_at hl 0 rfl) ?_
    refine u_get (C := RX3) (T := TX3) (N := 9) (v := .int (A 1 0)) hx hb hts hX3_place_X3 hown K U 1 2 (by decide) rfl rfl 0 (by decide) (hts (.fieldLink RX3 9 "TrialSearch$Space" "names" "I") (by decide +kernel)) rfl rfl dX3_place_14 ?_
    refine lv_icmp_ge (tgt := 98) hx hb dX3_place_17 (by decide) (fun c_2 => ?_) (fun c_2 => ?_)
    · have hw := hw.1 c_2
      exact h98 _ _ _ _ U (lv_sub hl [2] rfl) hw
    · have hw := hw.2 c_2
      refine lv_aload_n hx hb dX3_place_20 rfl (lv_at hl 1 rfl) ?_
      refine lv_iload hx hb dX3_place_21 (lv_at hl 4 rfl) ?_
      obtain ⟨⟨hk_4, hk_5, hi_3⟩, hw⟩ := hw
      refine u_iald (k := v1) (v := (A v1 v6.toNatClampNeg)) hx hb K U hk_4 hk_5 rfl hi_3 rfl dX3_place_23 ?_
      refine lv_if_lt (tgt := 92) hx hb dX3_place_24 (by decide) (fun c_6 => ?_) (fun c_6 => ?_)
      · have hw := hw.1 c_6
        obtain ⟨v6_7, ev6_7⟩ : ∃ y : Int32, y = v6 + 1 := ⟨_, rfl⟩
        have hw := hw v6_7 ev6_7
        refine lv_iinc (v := v6_7) (lv' := [(6, .int v6_7), (0, .ref (g.2.1 1)), (1, .ref (g.2.1 v1)), (2, .long v2), (4, .long v4)]) hx hb dX3_place_92 hl (k := 4) rfl (by rw [ev6_7]; rfl) (by decide) rfl (fun ls hl => ?_)
        refine lv_goto (tgt := 11) hx hb dX3_place_95 (by decide) ?_
        exact ih hw U (lv_sub hl [1, 2, 3, 4, 0] rfl) h98
      · have hw := hw.2 c_6
        refine lv_lload hx hb dX3_place_27 (lv_at hl 3 rfl) ?_
        refine lv_aload_n hx hb dX3_place_29 rfl (lv_at hl 0 rfl) ?_
        refine u_get (C := RX3) (T := TX3) (N := 9) (v := .ref (g.2.1 11)) hx hb hts hX3_place_X3 hown K U 1 2 (by decide) rfl rfl 7 (by decide) (hts (.fieldLink RX3 35 "TrialSearch$Space" "ways" "[J") (by decide +kernel)) rfl rfl dX3_place_30 ?_
        refine lv_iload hx hb dX3_place_33 (lv_at hl 4 rfl) ?_
        obtain ⟨hi_8, hw⟩ := hw
        refine u_lald (k := 11) (v := (B 11 v6.toNatClampNeg)) hx hb K U rfl (by decide) rfl hi_8 rfl dX3_place_35 ?_
        refine u_cl (u_rSN (As := [.long v4, .long (B 11 v6.toNatClampNeg)]) (rest := []) S K U (c_X5_cut hw) ⟨va_cnB (host := "TrialSearch") 2 hts gX3_place_X5_cut_n69 rfl rfl rfl (K.2.2 _ (by decide +kernel)) (hts (.initialized RX5) (by decide +kernel)) (by decide +kernel) ⟨Nat.le_of_ble_eq_true rfl, Nat.le_of_ble_eq_true rfl⟩, hts (.static yX5_cut) (by decide +kernel), trivial⟩ rfl hl.1 rfl (Nat.le_of_ble_eq_true rfl) dX3_place_36 ⟨Nat.zero_le _, Nat.zero_le _⟩) U (fun r_9 A_10 B_11 H locs U9 hw => ?_)
        obtain ⟨eA, eB, hw⟩ := hw
        rw [eA, eB] at U9
        have U := U9
        refine lv_lstore (lv' := [(4, .long r_9), (0, .ref (g.2.1 1)), (1, .ref (g.2.1 v1)), (2, .long v2), (6, .int v6)]) hx hb dX3_place_39 hl (by decide) rfl (fun ls hl => ?_)
        refine lv_iconst (v := 0) hx hb dX3_place_41 (by decide) ?_
        refine lv_istore (lv' := [(7, .int (0 : Int32)), (4, .long r_9), (0, .ref (g.2.1 1)), (1, .ref (g.2.1 v1)), (2, .long v2), (6, .int v6)]) hx hb dX3_place_42 hl (by decide) rfl (fun ls hl => ?_)
        obtain ⟨n_20, hw⟩ := hw
        refine t_X3_place_44 C K hw U (lv_sub hl [2, 3, 4, 1, 5, 0] rfl) (fun v2_21 H locs ls U hl hw => ?_)
        refine lv_lload hx hb dX3_place_75 (lv_at hl 3 rfl) ?_
        refine lv_aload_n hx hb dX3_place_77 rfl (lv_at hl 0 rfl) ?_
        refine u_get (C := RX3) (T := TX3) (N := 9) (v := .ref (g.2.1 12)) hx hb hts hX3_place_X3 hown K U 1 2 (by decide) rfl rfl 8 (by decide) (hts (.fieldLink RX3 41 "TrialSearch$Space" "waysBelow" "[[J") (by decide +kernel)) rfl rfl dX3_place_78 ?_
        refine lv_iload hx hb dX3_place_81 (lv_at hl 4 rfl) ?_
        obtain ⟨hi_22, hw⟩ := hw
        refine u_aald (b := 48) hx hb K U (k := 12) (by decide) (by decide) rfl rfl hi_22 dX3_place_83 ?_
        refine lv_aload_n hx hb dX3_place_84 rfl (lv_at hl 1 rfl) ?_
        refine lv_iload hx hb dX3_place_85 (lv_at hl 4 rfl) ?_
        obtain ⟨⟨hk_24, hk_25, hi_23⟩, hw⟩ := hw
        refine u_iald (k := v1) (v := (A v1 v6.toNatClampNeg)) hx hb K U hk_24 hk_25 rfl hi_23 rfl dX3_place_87 ?_
        refine lv_topi (fun x_26 ex_26 => ?_)
        have hw := hw x_26 ex_26
        obtain ⟨hi_27, hw⟩ := hw
        refine u_lald (k := (48 + v6.toNatClampNeg)) (v := (B (48 + v6.toNatClampNeg) x_26.toNatClampNeg)) hx hb K U (urow_48 hi_22).1 (urow_48 hi_22).2.1 (urow_48 hi_22).2.2 hi_27 rfl dX3_place_88 ?_
        refine lv_lmul hx hb dX3_place_89 ?_
        refine lv_topl (fun x_28 ex_28 => ?_)
        have hw := hw x_28 ex_28
        refine lv_lstore (lv' := [(4, .long x_28), (0, .ref (g.2.1 1)), (1, .ref (g.2.1 v1)), (2, .long v2_21), (6, .int v6)]) hx hb dX3_place_90 hl (by decide) rfl (fun ls hl => ?_)
        obtain ⟨v6_29, ev6_29⟩ : ∃ y : Int32, y = v6 + 1 := ⟨_, rfl⟩
        have hw := hw v6_29 ev6_29
        refine lv_iinc (v := v6_29) (lv' := [(6, .int v6_29), (4, .long x_28), (0, .ref (g.2.1 1)), (1, .ref (g.2.1 v1)), (2, .long v2_21)]) hx hb dX3_place_92 hl (k := 4) rfl (by rw [ev6_29]; rfl) (by decide) rfl (fun ls hl => ?_)
        refine lv_goto (tgt := 11) hx hb dX3_place_95 (by decide) ?_
        exact ih hw U (lv_sub hl [2, 3, 4, 1, 0] rfl) h98
set_option maxHeartbeats 4000000 in
set_option maxRecDepth 100000 in
theorem c_X3_place {l : Launch} {g : uG} {a0 : Nat} {A : SA} {B : SB} {Q : Int64 → Prop} (hw : wp_X3_place a0 A B Q) : ML l yX3_place wsX3_place rmX3_place g A B [.ref (g.2.1 1), .ref (g.2.1 a0)] (fun r A1 B1 => A1 = A ∧ B1 = B ∧ Q r ) := by
  refine u_of (cc := cX3_place) (maxL := 8) (ret := (some .long)) (by decide) rfl (Nat.le_of_ble_eq_true rfl) ?_
  intro p e s m below meth c ls C K U hl
  obtain ⟨hx, hb, hml, hown, hts, hr, hlocks⟩ := id C
  have S : CallFix p m c cX3_place 8 s ([.ref (g.2.1 1), .ref (g.2.1 a0)] : List Value).toArray wsX3_place RX3 := ⟨hx, hb, hml, hown, hts⟩
  have hl : lv_has ls 8 [(0, .ref (g.2.1 1)), (1, .ref (g.2.1 a0))] := hl
  refine lv_lconst (v := 0) hx hb dX3_place_0 (by decide) ?_
  refine lv_lstore_n (lv' := [(2, .long (0 : Int64)), (0, .ref (g.2.1 1)), (1, .ref (g.2.1 a0))]) hx hb dX3_place_1 rfl hl (by decide) rfl (fun ls hl => ?_)
  refine lv_aload_n hx hb dX3_place_2 rfl (lv_at hl 1 rfl) ?_
  refine u_get (C := RX3) (T := TX3) (N := 9) (v := .long (B 1 1)) hx hb hts hX3_place_X3 hown K U 1 2 (by decide) rfl rfl 1 (by decide) (hts (.fieldLink RX3 15 "TrialSearch$Space" "all" "J") (by decide +kernel)) rfl rfl dX3_place_3 ?_
  refine lv_topl (fun x_1 ex_1 => ?_)
  have hw := hw x_1 ex_1
  refine lv_lstore (lv' := [(4, .long x_1), (2, .long (0 : Int64)), (0, .ref (g.2.1 1)), (1, .ref (g.2.1 a0))]) hx hb dX3_place_6 hl (by decide) rfl (fun ls hl => ?_)
  refine lv_iconst (v := 0) hx hb dX3_place_8 (by decide) ?_
  refine lv_istore (lv' := [(6, .int (0 : Int32)), (4, .long x_1), (2, .long (0 : Int64)), (0, .ref (g.2.1 1)), (1, .ref (g.2.1 a0))]) hx hb dX3_place_9 hl (by decide) rfl (fun ls hl => ?_)
  obtain ⟨n_30, hw⟩ := hw
  refine t_X3_place_11 C K hw U (lv_sub hl [3, 4, 2, 1, 0] rfl) (fun v2_31 H locs ls U hl hw => ?_)
  refine lv_lload_n hx hb dX3_place_98 rfl (lv_at hl 0 rfl) ?_
  exact u_lret hx hb hr hlocks U ⟨rfl, rfl, hw⟩ dX3_place_99
set_option maxHeartbeats 4000000 in
set_option maxRecDepth 100000 in
theorem t_X3_takeBits_3 {p : Program} {l : Launch} {e : Env} {s : State} {m : MethodId} {args : Array Value} {below : List Frame} {meth : Method} {c : Code} {g : uG}  {Q : Int32 → SA → Prop} {v1 : Int64} {v3 : Nat} {B : SB} (C : uC p s m args meth c cX3_takeBits 6 RX3 wsX3_takeBits (some .boolean)) (K : UK g s) :
    ∀ {n : Nat} {v4 : Int32} {A : SA} {H : Heap} {locs : List Loc} {ls : Array Slot}, wp_X3_takeBits_3  Q v1 v3 B n v4 A → UU g A B s.heap H locs → lv_has ls 6 [(0, .ref (g.2.1 1)), (1, .long v1), (3, .ref (g.2.1 v3)), (4, .int v4)] →  W p l e rmX3_takeBits s m args below meth c H locs 0 0 (MQ below (uQi g (fun r A1 B1 => B1 = B ∧ Q r A1 )) args s 0 0 (FA g)) (F0 m 3 ls []) := by
  obtain ⟨hx, hb, hml, hown, hts, hr, hlocks⟩ := id C
  have S : CallFix p m c cX3_takeBits 6 s args wsX3_takeBits RX3 := ⟨hx, hb, hml, hown, hts⟩
  intro n
  induction n with
  | zero => intro _ _ _ _ _ hw; exact False.elim hw
  | succ n ih =>
    intro v4 A H locs ls hw U hl 
    refine lv_iload hx hb dX3_takeBits_3 (lv_at hl 3 rfl) ?_
    refine lv_aload_n hx hb dX3_takeBits_5 rfl (lv_at hl 0 rfl) ?_
    refine u_get (C := RX3) (T := TX3) (N := 9) (v := .int (A 1 0)) hx hb hts hX3_takeBits_X3 hown K U 1 2 (by decide) rfl rfl 0 (by decide) (hts (.fieldLink RX3 9 "TrialSearch$Space" "names" "I") (by decide +kernel)) rfl rfl dX3_takeBits_6 ?_
    refine lv_icmp_ge (tgt := 66) hx hb dX3_takeBits_9 (by decide) (fun c_1 => ?_) (fun c_1 => ?_)
    · have hw := hw.1 c_1
      refine lv_iconst (v := 1) hx hb dX3_takeBits_66 (by decide) ?_
      exact u_zret hx hb hr hlocks U (by decide +kernel) ⟨rfl, hw⟩ dX3_takeBits_67
    · have hw := hw.2 c_1
      refine lv_aload_n hx hb dX3_takeBits_12 rfl (lv_at hl 2 rfl) ?_
      refine lv_iload hx hb dX3_takeBits_13 (lv_at hl 3 rfl) ?_
      refine lv_bipush (v := -2) hx hb dX3_takeBits_15 (by decide) ?_
      obtain ⟨⟨hk_3, hk_4, hi_2⟩, hw⟩ := hw
      refine u_iast (k := v3) hx hb K U hk_3 hk_4 rfl hi_2 dX3_takeBits_17 (fun H locs U => ?_)
      refine lv_aload_n hx hb dX3_takeBits_18 rfl (lv_at hl 0 rfl) ?_
      refine lv_iload hx hb dX3_takeBits_19 (lv_at hl 3 rfl) ?_
      refine lv_aload_n hx hb dX3_takeBits_21 rfl (lv_at hl 2 rfl) ?_
      refine u_ci (u_rV (As := [.int v4, .ref (g.2.1 v3)]) (rest := []) (C := RX3) S K U 1 2 (by decide) rfl rfl (c_X3_isThere hw) (cwV 2 hts gX3_takeBits_X3_isThere rfl rfl rfl (by decide +kernel) ⟨Nat.le_of_ble_eq_true rfl, Nat.le_of_ble_eq_true rfl⟩) rfl hl.1 rfl (Nat.le_of_ble_eq_true rfl) dX3_takeBits_22 ⟨Nat.zero_le _, Nat.zero_le _⟩) U (fun r_5 A_6 B_7 H locs U9 hw => ?_)
      obtain ⟨eA, eB, hw⟩ := hw
      rw [eA, eB] at U9
      have U := U9
      refine lv_if_eq (tgt := 60) hx hb dX3_takeBits_25 (by decide) (fun c_8 => ?_) (fun c_8 => ?_)
      · have hw := hw.1 c_8
        obtain ⟨v4_9, ev4_9⟩ : ∃ y : Int32, y = v4 + 1 := ⟨_, rfl⟩
        have hw := hw v4_9 ev4_9
        refine lv_iinc (v := v4_9) (lv' := [(4, .int v4_9), (0, .ref (g.2.1 1)), (1, .long v1), (3, .ref (g.2.1 v3))]) hx hb dX3_takeBits_60 hl (k := 3) rfl (by rw [ev4_9]; rfl) (by decide) rfl (fun ls hl => ?_)
        refine lv_goto (tgt := 3) hx hb dX3_takeBits_63 (by decide) ?_
        exact ih hw U (lv_sub hl [1, 2, 3, 0] rfl) 
      · have hw := hw.2 c_8
        refine lv_lload_n hx hb dX3_takeBits_28 rfl (lv_at hl 1 rfl) ?_
        refine lv_iconst (v := 5) hx hb dX3_takeBits_29 (by decide) ?_
        refine lv_iload hx hb dX3_takeBits_30 (lv_at hl 3 rfl) ?_
        refine lv_imul hx hb dX3_takeBits_32 ?_
        refine lv_lushr hx hb dX3_takeBits_33 rfl ?_
        refine lv_l2i hx hb dX3_takeBits_34 rfl ?_
        refine lv_bipush (v := 31) hx hb dX3_takeBits_35 (by decide) ?_
        refine lv_iand hx hb dX3_takeBits_37 ?_
        refine lv_topi (fun x_10 ex_10 => ?_)
        have hw := hw x_10 ex_10
        refine lv_istore (lv' := [(5, .int x_10), (0, .ref (g.2.1 1)), (1, .long v1), (3, .ref (g.2.1 v3)), (4, .int v4)]) hx hb dX3_takeBits_38 hl (by decide) rfl (fun ls hl => ?_)
        refine lv_iload hx hb dX3_takeBits_40 (lv_at hl 0 rfl) ?_
        refine lv_aload_n hx hb dX3_takeBits_42 rfl (lv_at hl 1 rfl) ?_
        refine u_get (C := RX3) (T := TX3) (N := 9) (v := .ref (g.2.1 8)) hx hb hts hX3_takeBits_X3 hown K U 1 2 (by decide) rfl rfl 4 (by decide) (hts (.fieldLink RX3 26 "TrialSearch$Space" "many" "[I") (by decide +kernel)) rfl rfl dX3_takeBits_43 ?_
        refine lv_iload hx hb dX3_takeBits_46 (lv_at hl 4 rfl) ?_
        obtain ⟨hi_11, hw⟩ := hw
        refine u_iald (k := 8) (v := ((u2 A v3 v4.toNatClampNeg (-2 : Int32)) 8 v4.toNatClampNeg)) hx hb K U rfl (by decide) rfl hi_11 rfl dX3_takeBits_48 ?_
        refine lv_icmp_lt (tgt := 54) hx hb dX3_takeBits_49 (by decide) (fun c_12 => ?_) (fun c_12 => ?_)
        · have hw := hw.1 c_12
          refine lv_aload_n hx hb dX3_takeBits_54 rfl (lv_at hl 3 rfl) ?_
          refine lv_iload hx hb dX3_takeBits_55 (lv_at hl 4 rfl) ?_
          refine lv_iload hx hb dX3_takeBits_57 (lv_at hl 0 rfl) ?_
          obtain ⟨⟨hk_14, hk_15, hi_13⟩, hw⟩ := hw
          refine u_iast (k := v3) hx hb K U hk_14 hk_15 rfl hi_13 dX3_takeBits_59 (fun H locs U => ?_)
          obtain ⟨v4_16, ev4_16⟩ : ∃ y : Int32, y = v4 + 1 := ⟨_, rfl⟩
          have hw := hw v4_16 ev4_16
          refine lv_iinc (v := v4_16) (lv' := [(4, .int v4_16), (5, .int x_10), (0, .ref (g.2.1 1)), (1, .long v1), (3, .ref (g.2.1 v3))]) hx hb dX3_takeBits_60 hl (k := 4) rfl (by rw [ev4_16]; rfl) (by decide) rfl (fun ls hl => ?_)
          refine lv_goto (tgt := 3) hx hb dX3_takeBits_63 (by decide) ?_
          exact ih hw U (lv_sub hl [2, 3, 4, 0] rfl) 
        · have hw := hw.2 c_12
          refine lv_iconst (v := 0) hx hb dX3_takeBits_52 (by decide) ?_
          exact u_zret hx hb hr hlocks U (by decide +kernel) ⟨rfl, hw⟩ dX3_takeBits_53
set_option maxHeartbeats 4000000 in
set_option maxRecDepth 100000 in
theorem c_X3_takeBits {l : Launch} {g : uG} {a0 : Int64} {a1 : Nat} {A : SA} {B : SB} {Q : Int32 → SA → Prop} (hw : wp_X3_takeBits a0 a1 A B Q) : MI l yX3_takeBits wsX3_takeBits rmX3_takeBits g A B [.ref (g.2.1 1), .long a0, .ref (g.2.1 a1)] (fun r A1 B1 => B1 = B ∧ Q r A1 ) := by
  refine u_of (cc := cX3_takeBits) (maxL := 6) (ret := (some .boolean)) (by decide) rfl (Nat.le_of_ble_eq_true rfl) ?_
  intro p e s m below meth c ls C K U hl
  obtain ⟨hx, hb, hml, hown, hts, hr, hlocks⟩ := id C
  have S : CallFix p m c cX3_takeBits 6 s ([.ref (g.2.1 1), .long a0, .ref (g.2.1 a1)] : List Value).toArray wsX3_takeBits RX3 := ⟨hx, hb, hml, hown, hts⟩
  have hl : lv_has ls 6 [(0, .ref (g.2.1 1)), (1, .long a0), (3, .ref (g.2.1 a1))] := hl
  refine lv_iconst (v := 0) hx hb dX3_takeBits_0 (by decide) ?_
  refine lv_istore (lv' := [(4, .int (0 : Int32)), (0, .ref (g.2.1 1)), (1, .long a0), (3, .ref (g.2.1 a1))]) hx hb dX3_takeBits_1 hl (by decide) rfl (fun ls hl => ?_)
  obtain ⟨n_17, hw⟩ := hw
  refine t_X3_takeBits_3 C K hw U (lv_sub hl [1, 2, 3, 0] rfl) 
set_option maxHeartbeats 4000000 in
set_option maxRecDepth 100000 in
theorem t_X3_pickEach_2 {p : Program} {l : Launch} {e : Env} {s : State} {m : MethodId} {args : Array Value} {below : List Frame} {meth : Method} {c : Code} {g : uG} {E49 : SA → Prop} {Q : SA → Prop} {v1 : Int32} {v2 : Nat} {B : SB} (C : uC p s m args meth c cX3_pickEach 4 RX3 wsX3_pickEach none) (K : UK g s) :
    ∀ {n : Nat} {v3 : Int32} {A : SA} {H : Heap} {locs : List Loc} {ls : Array Slot}, wp_X3_pickEach_2 E49 Q v1 v2 B n v3 A → UU g A B s.heap H locs → lv_has ls 4 [(0, .ref (g.2.1 1)), (1, .int v1), (2, .ref (g.2.1 v2)), (3, .int v3)] → (∀ (A : SA) (H : Heap) (locs : List Loc) (ls : Array Slot), UU g A B s.heap H locs → lv_has ls 4 [] → E49 A → W p l e rmX3_pickEach s m args below meth c H locs 0 0 (MQ below (uQv g (fun A1 B1 => B1 = B ∧ Q A1 )) args s 0 0 (FA g)) (F0 m 49 ls [])) → W p l e rmX3_pickEach s m args below meth c H locs 0 0 (MQ below (uQv g (fun A1 B1 => B1 = B ∧ Q A1 )) args s 0 0 (FA g)) (F0 m 2 ls []) := by
  obtain ⟨hx, hb, hml, hown, hts, hr, hlocks⟩ := id C
  have S : CallFix p m c cX3_pickEach 4 s args wsX3_pickEach RX3 := ⟨hx, hb, hml, hown, hts⟩
  intro n
  induction n with
  | zero => intro _ _ _ _ _ hw; exact False.elim hw
  | succ n ih =>
    intro v3 A H locs ls hw U hl h49
    refine lv_iload_n hx hb dX3_pickEach_2 rfl (lv_at hl 3 rfl) ?_
    refine lv_aload_n hx hb dX3_pickEach_3 rfl (lv_at hl 0 rfl) ?_
    refine u_get (C := RX3) (T := TX3) (N := 9) (v := .int (A 1 0)) hx hb hts hX3_pickEach_X3 hown K U 1 2 (by decide) rfl rfl 0 (by decide) (hts (.fieldLink RX3 9 "TrialSearch$Space" "names" "I") (by decide +kernel)) rfl rfl dX3_pickEach_4 ?_
    refine lv_icmp_ge (tgt := 49) hx hb dX3_pickEach_7 (by decide) (fun c_1 => ?_) (fun c_1 => ?_)
    · have hw := hw.1 c_1
      exact h49 _ _ _ _ U (lv_sub hl [] rfl) hw
    · have hw := hw.2 c_1
      refine lv_aload_n hx hb dX3_pickEach_10 rfl (lv_at hl 2 rfl) ?_
      refine lv_iload_n hx hb dX3_pickEach_11 rfl (lv_at hl 3 rfl) ?_
      refine lv_bipush (v := -2) hx hb dX3_pickEach_12 (by decide) ?_
      obtain ⟨⟨hk_3, hk_4, hi_2⟩, hw⟩ := hw
      refine u_iast (k := v2) hx hb K U hk_3 hk_4 rfl hi_2 dX3_pickEach_14 (fun H locs U => ?_)
      refine lv_aload_n hx hb dX3_pickEach_15 rfl (lv_at hl 0 rfl) ?_
      refine lv_iload_n hx hb dX3_pickEach_16 rfl (lv_at hl 3 rfl) ?_
      refine lv_aload_n hx hb dX3_pickEach_17 rfl (lv_at hl 2 rfl) ?_
      refine u_ci (u_rV (As := [.int v3, .ref (g.2.1 v2)]) (rest := []) (C := RX3) S K U 1 2 (by decide) rfl rfl (c_X3_isThere hw) (cwV 2 hts gX3_pickEach_X3_isThere rfl rfl rfl (by decide +kernel) ⟨Nat.le_of_ble_eq_true rfl, Nat.le_of_ble_eq_true rfl⟩) rfl hl.1 rfl (Nat.le_of_ble_eq_true rfl) dX3_pickEach_18 ⟨Nat.zero_le _, Nat.zero_le _⟩) U (fun r_5 A_6 B_7 H locs U9 hw => ?_)
      obtain ⟨eA, eB, hw⟩ := hw
      rw [eA, eB] at U9
      have U := U9
      refine lv_if_eq (tgt := 43) hx hb dX3_pickEach_21 (by decide) (fun c_8 => ?_) (fun c_8 => ?_)
      · have hw := hw.1 c_8
        obtain ⟨v3_9, ev3_9⟩ : ∃ y : Int32, y = v3 + 1 := ⟨_, rfl⟩
        have hw := hw v3_9 ev3_9
        refine lv_iinc (v := v3_9) (lv' := [(3, .int v3_9), (0, .ref (g.2.1 1)), (1, .int v1), (2, .ref (g.2.1 v2))]) hx hb dX3_pickEach_43 hl (k := 3) rfl (by rw [ev3_9]; rfl) (by decide) rfl (fun ls hl => ?_)
        refine lv_goto (tgt := 2) hx hb dX3_pickEach_46 (by decide) ?_
        exact ih hw U (lv_sub hl [1, 2, 3, 0] rfl) h49
      · have hw := hw.2 c_8
        refine lv_aload_n hx hb dX3_pickEach_24 rfl (lv_at hl 2 rfl) ?_
        refine lv_iload_n hx hb dX3_pickEach_25 rfl (lv_at hl 3 rfl) ?_
        refine lv_aload_n hx hb dX3_pickEach_26 rfl (lv_at hl 0 rfl) ?_
        refine u_get (C := RX3) (T := TX3) (N := 9) (v := .ref (g.2.1 8)) hx hb hts hX3_pickEach_X3 hown K U 1 2 (by decide) rfl rfl 4 (by decide) (hts (.fieldLink RX3 26 "TrialSearch$Space" "many" "[I") (by decide +kernel)) rfl rfl dX3_pickEach_27 ?_
        refine lv_iload_n hx hb dX3_pickEach_30 rfl (lv_at hl 3 rfl) ?_
        obtain ⟨hi_10, hw⟩ := hw
        refine u_iald (k := 8) (v := ((u2 A v2 v3.toNatClampNeg (-2 : Int32)) 8 v3.toNatClampNeg)) hx hb K U rfl (by decide) rfl hi_10 rfl dX3_pickEach_31 ?_
        refine lv_i2l hx hb dX3_pickEach_32 rfl ?_
        refine lv_iload_n hx hb dX3_pickEach_33 rfl (lv_at hl 1 rfl) ?_
        refine lv_iload_n hx hb dX3_pickEach_34 rfl (lv_at hl 3 rfl) ?_
        refine u_ci (u_rS (As := [.int v1, .int v3]) (rest := [.long ((u2 A v2 v3.toNatClampNeg (-2 : Int32)) 8 v3.toNatClampNeg).toInt64, .int v3, .ref (g.2.1 v2)]) S K U (c_X2_hash hw) (va_cwS 2 hts gX3_pickEach_X2_hash rfl rfl rfl (by decide +kernel) ⟨Nat.le_of_ble_eq_true rfl, Nat.le_of_ble_eq_true rfl⟩) rfl hl.1 rfl (Nat.le_of_ble_eq_true rfl) dX3_pickEach_35 ⟨Nat.zero_le _, Nat.zero_le _⟩) U (fun r_11 A_12 B_13 H locs U9 hw => ?_)
        obtain ⟨eA, eB, hw⟩ := hw
        rw [eA, eB] at U9
        have U := U9
        refine u_cl (u_rS (As := [.long ((u2 A v2 v3.toNatClampNeg (-2 : Int32)) 8 v3.toNatClampNeg).toInt64, .int r_11]) (rest := [.int v3, .ref (g.2.1 v2)]) S K U (c_X2_pick hw) (va_cwS 2 hts gX3_pickEach_X2_pick rfl rfl rfl (by decide +kernel) ⟨Nat.le_of_ble_eq_true rfl, Nat.le_of_ble_eq_true rfl⟩) rfl hl.1 rfl (Nat.le_of_ble_eq_true rfl) dX3_pickEach_38 ⟨Nat.zero_le _, Nat.zero_le _⟩) U (fun r_14 A_15 B_16 H locs U9 hw => ?_)
        obtain ⟨eA, eB, hw⟩ := hw
        rw [eA, eB] at U9
        have U := U9
        refine lv_l2i hx hb dX3_pickEach_41 rfl ?_
        refine lv_topi (fun x_17 ex_17 => ?_)
        have hw := hw x_17 ex_17
        obtain ⟨⟨hk_19, hk_20, hi_18⟩, hw⟩ := hw
        refine u_iast (k := v2) hx hb K U hk_19 hk_20 rfl hi_18 dX3_pickEach_42 (fun H locs U => ?_)
        obtain ⟨v3_21, ev3_21⟩ : ∃ y : Int32, y = v3 + 1 := ⟨_, rfl⟩
        have hw := hw v3_21 ev3_21
        refine lv_iinc (v := v3_21) (lv' := [(3, .int v3_21), (0, .ref (g.2.1 1)), (1, .int v1), (2, .ref (g.2.1 v2))]) hx hb dX3_pickEach_43 hl (k := 3) rfl (by rw [ev3_21]; rfl) (by decide) rfl (fun ls hl => ?_)
        refine lv_goto (tgt := 2) hx hb dX3_pickEach_46 (by decide) ?_
        exact ih hw U (lv_sub hl [1, 2, 3, 0] rfl) h49
set_option maxHeartbeats 4000000 in
set_option maxRecDepth 100000 in
theorem c_X3_pickEach {l : Launch} {g : uG} {a0 : Int32} {a1 : Nat} {A : SA} {B : SB} {Q : SA → Prop} (hw : wp_X3_pickEach a0 a1 A B Q) : MV l yX3_pickEach wsX3_pickEach rmX3_pickEach g A B [.ref (g.2.1 1), .int a0, .ref (g.2.1 a1)] (fun A1 B1 => B1 = B ∧ Q A1 ) := by
  refine u_of (cc := cX3_pickEach) (maxL := 4) (ret := none) (by decide) rfl (Nat.le_of_ble_eq_true rfl) ?_
  intro p e s m below meth c ls C K U hl
  obtain ⟨hx, hb, hml, hown, hts, hr, hlocks⟩ := id C
  have S : CallFix p m c cX3_pickEach 4 s ([.ref (g.2.1 1), .int a0, .ref (g.2.1 a1)] : List Value).toArray wsX3_pickEach RX3 := ⟨hx, hb, hml, hown, hts⟩
  have hl : lv_has ls 4 [(0, .ref (g.2.1 1)), (1, .int a0), (2, .ref (g.2.1 a1))] := hl
  refine lv_iconst (v := 0) hx hb dX3_pickEach_0 (by decide) ?_
  refine lv_istore_n (lv' := [(3, .int (0 : Int32)), (0, .ref (g.2.1 1)), (1, .int a0), (2, .ref (g.2.1 a1))]) hx hb dX3_pickEach_1 rfl hl (by decide) rfl (fun ls hl => ?_)
  obtain ⟨n_22, hw⟩ := hw
  refine t_X3_pickEach_2 C K hw U (lv_sub hl [1, 2, 3, 0] rfl) (fun A_23 H locs ls U hl hw => ?_)
  exact u_vret hx hb hr hlocks U ⟨rfl, hw⟩ dX3_pickEach_49
set_option maxHeartbeats 4000000 in
set_option maxRecDepth 100000 in
theorem c_X3_apartAt {l : Launch} {g : uG} {a0 : Int32} {a1 : Int32} {a2 : Int32} {A : SA} {B : SB} {Q : Int32 → Prop} (hw : wp_X3_apartAt a0 a1 a2 A B Q) : MI l yX3_apartAt wsX3_apartAt rmX3_apartAt g A B [.ref (g.2.1 1), .int a0, .int a1, .int a2] (fun r A1 B1 => A1 = A ∧ B1 = B ∧ Q r ) := by
  refine u_of (cc := cX3_apartAt) (maxL := 4) (ret := (some .int)) (by decide) rfl (Nat.le_of_ble_eq_true rfl) ?_
  intro p e s m below meth c ls C K U hl
  obtain ⟨hx, hb, hml, hown, hts, hr, hlocks⟩ := id C
  have S : CallFix p m c cX3_apartAt 4 s ([.ref (g.2.1 1), .int a0, .int a1, .int a2] : List Value).toArray wsX3_apartAt RX3 := ⟨hx, hb, hml, hown, hts⟩
  have hl : lv_has ls 4 [(0, .ref (g.2.1 1)), (1, .int a0), (2, .int a1), (3, .int a2)] := hl
  refine lv_iload_n hx hb dX3_apartAt_0 rfl (lv_at hl 2 rfl) ?_
  refine lv_iload_n hx hb dX3_apartAt_1 rfl (lv_at hl 3 rfl) ?_
  refine lv_icmp_ne (tgt := 7) hx hb dX3_apartAt_2 (by decide) (fun c_1 => ?_) (fun c_1 => ?_)
  · have hw := hw.1 c_1
    refine lv_iload_n hx hb dX3_apartAt_7 rfl (lv_at hl 2 rfl) ?_
    refine lv_if_lt (tgt := 15) hx hb dX3_apartAt_8 (by decide) (fun c_2 => ?_) (fun c_2 => ?_)
    · have hw := hw.1 c_2
      refine lv_bipush (v := 30) hx hb dX3_apartAt_15 (by decide) ?_
      exact u_iret hx hb hr hlocks U ⟨rfl, rfl, hw⟩ dX3_apartAt_17
    · have hw := hw.2 c_2
      refine lv_iload_n hx hb dX3_apartAt_11 rfl (lv_at hl 3 rfl) ?_
      refine lv_if_ge (tgt := 18) hx hb dX3_apartAt_12 (by decide) (fun c_3 => ?_) (fun c_3 => ?_)
      · have hw := hw.1 c_3
        refine lv_iload_n hx hb dX3_apartAt_18 rfl (lv_at hl 2 rfl) ?_
        refine lv_iload_n hx hb dX3_apartAt_19 rfl (lv_at hl 3 rfl) ?_
        refine lv_isub hx hb dX3_apartAt_20 ?_
        refine va_mabs (rest := []) hx hb (hml.trans hl.1.symm) hown (hts (.methodLink RX3 87 Lib.Math.abs.name) (by decide +kernel)) (hts (.static Lib.Math.abs.name) (by decide +kernel)) (hts (.initialized "java/lang/Math") (by decide +kernel)) (hts (.code Lib.Math.abs.name Lib.Math.abs.code 1 (some .int)) (by decide +kernel)) (Nat.le_of_ble_eq_true rfl) (Nat.le_of_ble_eq_true rfl) (Nat.zero_le _) (Nat.zero_le _) dX3_apartAt_21 ?_
        refine lv_bipush (v := 30) hx hb dX3_apartAt_24 (by decide) ?_
        refine lv_imul hx hb dX3_apartAt_26 ?_
        refine lv_i2l hx hb dX3_apartAt_27 rfl ?_
        refine lv_aload_n hx hb dX3_apartAt_28 rfl (lv_at hl 0 rfl) ?_
        refine u_get (C := RX3) (T := TX3) (N := 9) (v := .ref (g.2.1 8)) hx hb hts hX3_apartAt_X3 hown K U 1 2 (by decide) rfl rfl 4 (by decide) (hts (.fieldLink RX3 26 "TrialSearch$Space" "many" "[I") (by decide +kernel)) rfl rfl dX3_apartAt_29 ?_
        refine lv_iload_n hx hb dX3_apartAt_32 rfl (lv_at hl 1 rfl) ?_
        obtain ⟨hi_4, hw⟩ := hw
        refine u_iald (k := 8) (v := (A 8 a0.toNatClampNeg)) hx hb K U rfl (by decide) rfl hi_4 rfl dX3_apartAt_33 ?_
        refine lv_i2l hx hb dX3_apartAt_34 rfl ?_
        refine u_cl (u_rSN (As := [.long ((if 0 ≤ (a1 - a2) then (a1 - a2) else 0 - (a1 - a2)) * (30 : Int32)).toInt64, .long (A 8 a0.toNatClampNeg).toInt64]) (rest := []) S K U (c_X5_cut hw) ⟨va_cnB (host := "TrialSearch") 2 hts gX3_apartAt_X5_cut_n69 rfl rfl rfl (K.2.2 _ (by decide +kernel)) (hts (.initialized RX5) (by decide +kernel)) (by decide +kernel) ⟨Nat.le_of_ble_eq_true rfl, Nat.le_of_ble_eq_true rfl⟩, hts (.static yX5_cut) (by decide +kernel), trivial⟩ rfl hl.1 rfl (Nat.le_of_ble_eq_true rfl) dX3_apartAt_35 ⟨Nat.zero_le _, Nat.zero_le _⟩) U (fun r_5 A_6 B_7 H locs U9 hw => ?_)
        obtain ⟨eA, eB, hw⟩ := hw
        rw [eA, eB] at U9
        have U := U9
        refine lv_l2i hx hb dX3_apartAt_38 rfl ?_
        exact u_iret hx hb hr hlocks U ⟨rfl, rfl, hw⟩ dX3_apartAt_39
      · have hw := hw.2 c_3
        refine lv_bipush (v := 30) hx hb dX3_apartAt_15 (by decide) ?_
        exact u_iret hx hb hr hlocks U ⟨rfl, rfl, hw⟩ dX3_apartAt_17
  · have hw := hw.2 c_1
    refine lv_iconst (v := 0) hx hb dX3_apartAt_5 (by decide) ?_
    exact u_iret hx hb hr hlocks U ⟨rfl, rfl, hw⟩ dX3_apartAt_6
set_option maxHeartbeats 4000000 in
set_option maxRecDepth 100000 in
theorem t_X3_apart_5 {p : Program} {l : Launch} {e : Env} {s : State} {m : MethodId} {args : Array Value} {below : List Frame} {meth : Method} {c : Code} {g : uG} {E37 : Int32 → Prop} {Q : Int32 → Prop} {v1 : Nat} {v2 : Nat} {A : SA} {B : SB} (C : uC p s m args meth c cX3_apart 5 RX3 wsX3_apart (some .int)) (K : UK g s) :
    ∀ {n : Nat} {v3 : Int32} {v4 : Int32} {H : Heap} {locs : List Loc} {ls : Array Slot}, wp_X3_apart_5 E37 Q v1 v2 A B n v3 v4 → UU g A B s.heap H locs → lv_has ls 5 [(0, .ref (g.2.1 1)), (1, .ref (g.2.1 v1)), (2, .ref (g.2.1 v2)), (3, .int v3), (4, .int v4)] → (∀ (v3 : Int32) (H : Heap) (locs : List Loc) (ls : Array Slot), UU g A B s.heap H locs → lv_has ls 5 [(3, .int v3)] → E37 v3 → W p l e rmX3_apart s m args below meth c H locs 0 0 (MQ below (uQi g (fun r A1 B1 => A1 = A ∧ B1 = B ∧ Q r )) args s 0 0 (FA g)) (F0 m 37 ls [])) → W p l e rmX3_apart s m args below meth c H locs 0 0 (MQ below (uQi g (fun r A1 B1 => A1 = A ∧ B1 = B ∧ Q r )) args s 0 0 (FA g)) (F0 m 5 ls []) := by
  obtain ⟨hx, hb, hml, hown, hts, hr, hlocks⟩ := id C
  have S : CallFix p m c cX3_apart 5 s args wsX3_apart RX3 := ⟨hx, hb, hml, hown, hts⟩
  intro n
  induction n with
  | zero => intro _ _ _ _ _ hw; exact False.elim hw
  | succ n ih =>
    intro v3 v4 H locs ls hw U hl h37
    refine lv_iload hx hb dX3_apart_5 (lv_at hl 4 rfl) ?_
    refine lv_aload_n hx hb dX3_apart_7 rfl (lv_at hl 0 rfl) ?_
    refine u_get (C := RX3) (T := TX3) (N := 9) (v := .int (A 1 0)) hx hb hts hX3_apart_X3 hown K U 1 2 (by decide) rfl rfl 0 (by decide) (hts (.fieldLink RX3 9 "TrialSearch$Space" "names" "I") (by decide +kernel)) rfl rfl dX3_apart_8 ?_
    refine lv_icmp_ge (tgt := 37) hx hb dX3_apart_11 (by decide) (fun c_1 => ?_) (fun c_1 => ?_)
    · have hw := hw.1 c_1
      exact h37 _ _ _ _ U (lv_sub hl [3] rfl) hw
    · have hw := hw.2 c_1
      refine lv_iload_n hx hb dX3_apart_14 rfl (lv_at hl 3 rfl) ?_
      refine lv_aload_n hx hb dX3_apart_15 rfl (lv_at hl 0 rfl) ?_
      refine lv_iload hx hb dX3_apart_16 (lv_at hl 4 rfl) ?_
      refine lv_aload_n hx hb dX3_apart_18 rfl (lv_at hl 1 rfl) ?_
      refine lv_iload hx hb dX3_apart_19 (lv_at hl 4 rfl) ?_
      obtain ⟨⟨hk_3, hk_4, hi_2⟩, hw⟩ := hw
      refine u_iald (k := v1) (v := (A v1 v4.toNatClampNeg)) hx hb K U hk_3 hk_4 rfl hi_2 rfl dX3_apart_21 ?_
      refine lv_aload_n hx hb dX3_apart_22 rfl (lv_at hl 2 rfl) ?_
      refine lv_iload hx hb dX3_apart_23 (lv_at hl 4 rfl) ?_
      obtain ⟨⟨hk_6, hk_7, hi_5⟩, hw⟩ := hw
      refine u_iald (k := v2) (v := (A v2 v4.toNatClampNeg)) hx hb K U hk_6 hk_7 rfl hi_5 rfl dX3_apart_25 ?_
      refine u_ci (u_rV (As := [.int v4, .int (A v1 v4.toNatClampNeg), .int (A v2 v4.toNatClampNeg)]) (rest := [.int v3]) (C := RX3) S K U 1 2 (by decide) rfl rfl (c_X3_apartAt hw) (cwV 3 hts gX3_apart_X3_apartAt rfl rfl rfl (by decide +kernel) ⟨Nat.le_of_ble_eq_true rfl, Nat.le_of_ble_eq_true rfl⟩) rfl hl.1 rfl (Nat.le_of_ble_eq_true rfl) dX3_apart_26 ⟨Nat.zero_le _, Nat.zero_le _⟩) U (fun r_8 A_9 B_10 H locs U9 hw => ?_)
      obtain ⟨eA, eB, hw⟩ := hw
      rw [eA, eB] at U9
      have U := U9
      refine lv_iadd hx hb dX3_apart_29 ?_
      refine lv_topi (fun x_11 ex_11 => ?_)
      have hw := hw x_11 ex_11
      refine lv_istore_n (lv' := [(3, .int x_11), (0, .ref (g.2.1 1)), (1, .ref (g.2.1 v1)), (2, .ref (g.2.1 v2)), (4, .int v4)]) hx hb dX3_apart_30 rfl hl (by decide) rfl (fun ls hl => ?_)
      obtain ⟨v4_12, ev4_12⟩ : ∃ y : Int32, y = v4 + 1 := ⟨_, rfl⟩
      have hw := hw v4_12 ev4_12
      refine lv_iinc (v := v4_12) (lv' := [(4, .int v4_12), (3, .int x_11), (0, .ref (g.2.1 1)), (1, .ref (g.2.1 v1)), (2, .ref (g.2.1 v2))]) hx hb dX3_apart_31 hl (k := 4) rfl (by rw [ev4_12]; rfl) (by decide) rfl (fun ls hl => ?_)
      refine lv_goto (tgt := 5) hx hb dX3_apart_34 (by decide) ?_
      exact ih hw U (lv_sub hl [2, 3, 4, 1, 0] rfl) h37
set_option maxHeartbeats 4000000 in
set_option maxRecDepth 100000 in
theorem c_X3_apart {l : Launch} {g : uG} {a0 : Nat} {a1 : Nat} {A : SA} {B : SB} {Q : Int32 → Prop} (hw : wp_X3_apart a0 a1 A B Q) : MI l yX3_apart wsX3_apart rmX3_apart g A B [.ref (g.2.1 1), .ref (g.2.1 a0), .ref (g.2.1 a1)] (fun r A1 B1 => A1 = A ∧ B1 = B ∧ Q r ) := by
  refine u_of (cc := cX3_apart) (maxL := 5) (ret := (some .int)) (by decide) rfl (Nat.le_of_ble_eq_true rfl) ?_
  intro p e s m below meth c ls C K U hl
  obtain ⟨hx, hb, hml, hown, hts, hr, hlocks⟩ := id C
  have S : CallFix p m c cX3_apart 5 s ([.ref (g.2.1 1), .ref (g.2.1 a0), .ref (g.2.1 a1)] : List Value).toArray wsX3_apart RX3 := ⟨hx, hb, hml, hown, hts⟩
  have hl : lv_has ls 5 [(0, .ref (g.2.1 1)), (1, .ref (g.2.1 a0)), (2, .ref (g.2.1 a1))] := hl
  refine lv_iconst (v := 0) hx hb dX3_apart_0 (by decide) ?_
  refine lv_istore_n (lv' := [(3, .int (0 : Int32)), (0, .ref (g.2.1 1)), (1, .ref (g.2.1 a0)), (2, .ref (g.2.1 a1))]) hx hb dX3_apart_1 rfl hl (by decide) rfl (fun ls hl => ?_)
  refine lv_iconst (v := 0) hx hb dX3_apart_2 (by decide) ?_
  refine lv_istore (lv' := [(4, .int (0 : Int32)), (3, .int (0 : Int32)), (0, .ref (g.2.1 1)), (1, .ref (g.2.1 a0)), (2, .ref (g.2.1 a1))]) hx hb dX3_apart_3 hl (by decide) rfl (fun ls hl => ?_)
  obtain ⟨n_13, hw⟩ := hw
  refine t_X3_apart_5 C K hw U (lv_sub hl [2, 3, 4, 1, 0] rfl) (fun v3_14 H locs ls U hl hw => ?_)
  refine lv_iload_n hx hb dX3_apart_37 rfl (lv_at hl 0 rfl) ?_
  exact u_iret hx hb hr hlocks U ⟨rfl, rfl, hw⟩ dX3_apart_38
