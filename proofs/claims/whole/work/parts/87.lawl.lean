/-! the law's loop -/
set_option maxHeartbeats 4000000 in
set_option maxRecDepth 100000 in
theorem law_loop {p : Program} {l : Launch} {e : Env} {s : State} {m : MethodId} {below : List Frame} {meth : Method} {c : Code} {g : uG} {b L : Nat} {xs : Nat → Int32} (hL : L ≤ 2560) (C0 : lw_At p s m meth c b L xs) (K : UK g s) (hF : ∀ q, FA g q → s.heap.size ≤ q) :
    ∀ (n i : Nat), i ≤ L → L + 1 ≤ i + n → ∀ (A : SA) (B : SB) (H : Heap) (locs : List Loc) (v3 : Int32) (ls : Array Slot), v3 = nI i → UU g A B s.heap H locs → Inv A B → lv_has ls 4 [(0, .ref b), (1, .ref (g.2.1 0)), (2, .ref (g.2.1 5)), (3, .int v3)] → W p l e room_1 s m #[Value.ref b] below meth c H locs 600000 7302250 (lw_Z below #[Value.ref b] s) (F0 m 18 ls []) := by
  have C1 := C0
  obtain ⟨hx, hb, hr, hml, hown, hts0, hX, hbl, hlocks, hgv⟩ := C0
  have hbA : ¬ FA g b := fun h => Nat.not_le.mpr hbl (hF b h)
  intro n
  induction n with
  | zero =>
    intro i h1 h2
    exact absurd h2 (by omega)
  | succ n ih =>
    intro i hi hin A B H locs v3 ls e3 U hI hl
    refine lv_iload_n hx hb dL_law_18 rfl (lv_at hl 3 rfl) ?_
    refine lv_aload_n hx hb dL_law_19 rfl (lv_at hl 0 rfl) ?_
    refine va_slen hx hb hX hbl hbA U.2 dL_law_20 ?_
    refine lv_iconst (v := 5) hx hb dL_law_21 (by decide) ?_
    refine lv_isub hx hb dL_law_22 ?_
    refine lv_icmp_gt (tgt := 1149) hx hb dL_law_23 (by decide) (fun c1 => ?_) (fun c1 => ?_)
    · refine lv_iconst (v := 1) hx hb dL_law_1149 (by decide) ?_
      refine va_forget (fun q hq => hF _ (U.2.2.2 q hq)) ?_
      exact lw_ret hx hb hr hlocks dL_law_1150
    · have hlt : i + 5 ≤ L := by
        have h1 : (nI L - nI 5).toInt = (L : Int) - 5 := pk_sub_toInt (by omega) (by omega)
        have h2 : ¬ (nI L - nI 5) < nI i := by rw [← e3]; exact c1
        rw [Int32.lt_iff_toInt_lt, h1, nI_toInt (by omega)] at h2
        omega
      have h0 : vp_in v3 L := by rw [e3]; exact pk_in i L (by omega)
      have h1 : vp_in (v3 + 1) L := by rw [e3, show (1 : Int32) = nI 1 from rfl, nI_add]; exact pk_in (i + 1) L (by omega)
      have h2 : vp_in (v3 + 2) L := by rw [e3, show (2 : Int32) = nI 2 from rfl, nI_add]; exact pk_in (i + 2) L (by omega)
      have h3 : vp_in (v3 + 3) L := by rw [e3, show (3 : Int32) = nI 3 from rfl, nI_add]; exact pk_in (i + 3) L (by omega)
      have h4 : vp_in (v3 + 4) L := by rw [e3, show (4 : Int32) = nI 4 from rfl, nI_add]; exact pk_in (i + 4) L (by omega)
      have nx : ∀ (A : SA) (B : SB) (H : Heap) (locs : List Loc), UU g A B s.heap H locs → Inv A B → W p l e room_1 s m #[Value.ref b] below meth c H locs 600000 7302250 (lw_Z below #[Value.ref b] s) (F0 m 1143 ls []) := by
        intro A B H locs U hI
        obtain ⟨y3, ey⟩ : ∃ y : Int32, y = v3 + 5 := ⟨_, rfl⟩
        refine lv_iinc (v := y3) (lv' := [(3, .int y3), (0, .ref b), (1, .ref (g.2.1 0)), (2, .ref (g.2.1 5))]) hx hb dL_law_1143 hl (k := 3) rfl (by rw [ey]; rfl) (by decide) rfl (fun ls hl => ?_)
        refine lv_goto (tgt := 18) hx hb dL_law_1146 (by decide) ?_
        exact ih (i + 5) (by omega) (by omega) A B H locs y3 ls (by rw [ey, e3, show (5 : Int32) = nI 5 from rfl, nI_add]) U hI (lv_sub hl [1, 2, 3, 0] rfl)
      refine lv_aload_n hx hb dL_law_26 rfl (lv_at hl 0 rfl) ?_
      refine lv_iload_n hx hb dL_law_27 rfl (lv_at hl 3 rfl) ?_
      refine va_sld hx hb hX hbl hbA U.2 h0 dL_law_28 ?_
      refine lv_bipush (v := 31) hx hb dL_law_29 (by decide) ?_
      refine lv_iand hx hb dL_law_31 ?_
      refine lv_topi (fun x ex => ?_)
      by_cases z0 : x = 0
      · refine lv_tableIn (off := 112) (tgt := 144) hx hb dL_law_32 (by rw [z0]; decide) (by rw [z0]; decide) (by rw [z0]; rfl) (by decide) ?_
        exact law_name C1 K hF h1 h2 h3 h4 U hI hl nx
      by_cases z1 : x = 1
      · refine lv_tableIn (off := 155) (tgt := 187) hx hb dL_law_32 (by rw [z1]; decide) (by rw [z1]; decide) (by rw [z1]; rfl) (by decide) ?_
        exact law_points C1 K hF h1 h2 h3 h4 U hI hl nx
      by_cases z2 : x = 2
      · refine lv_tableIn (off := 169) (tgt := 201) hx hb dL_law_32 (by rw [z2]; decide) (by rw [z2]; decide) (by rw [z2]; rfl) (by decide) ?_
        exact law_value C1 K hF h1 h2 h3 h4 U hI hl nx
      by_cases z3 : x = 3
      · refine lv_tableIn (off := 232) (tgt := 264) hx hb dL_law_32 (by rw [z3]; decide) (by rw [z3]; decide) (by rw [z3]; rfl) (by decide) ?_
        exact law_number C1 K hF h1 h2 h3 h4 U hI hl nx
      by_cases z4 : x = 4
      · refine lv_tableIn (off := 286) (tgt := 318) hx hb dL_law_32 (by rw [z4]; decide) (by rw [z4]; decide) (by rw [z4]; rfl) (by decide) ?_
        exact law_distance C1 K hF h1 h2 h3 h4 U hI hl nx
      by_cases z5 : x = 5
      · refine lv_tableIn (off := 379) (tgt := 411) hx hb dL_law_32 (by rw [z5]; decide) (by rw [z5]; decide) (by rw [z5]; rfl) (by decide) ?_
        exact law_trial C1 K hF h1 h2 h3 h4 U hI hl nx
      by_cases z6 : x = 6
      · refine lv_tableIn (off := 412) (tgt := 444) hx hb dL_law_32 (by rw [z6]; decide) (by rw [z6]; decide) (by rw [z6]; rfl) (by decide) ?_
        exact law_guess C1 K hF h1 h2 h3 h4 U hI hl nx
      by_cases z7 : x = 7
      · refine lv_tableIn (off := 455) (tgt := 487) hx hb dL_law_32 (by rw [z7]; decide) (by rw [z7]; decide) (by rw [z7]; rfl) (by decide) ?_
        exact law_forecast C1 K hF h1 h2 h3 h4 U hI hl nx
      by_cases z8 : x = 8
      · refine lv_tableIn (off := 529) (tgt := 561) hx hb dL_law_32 (by rw [z8]; decide) (by rw [z8]; decide) (by rw [z8]; rfl) (by decide) ?_
        exact law_score C1 K hF h1 h2 h3 h4 U hI hl nx
      by_cases z9 : x = 9
      · refine lv_tableIn (off := 588) (tgt := 620) hx hb dL_law_32 (by rw [z9]; decide) (by rw [z9]; decide) (by rw [z9]; rfl) (by decide) ?_
        exact law_report C1 K hF h1 h2 h3 h4 U hI hl nx
      by_cases z10 : x = 10
      · refine lv_tableIn (off := 631) (tgt := 663) hx hb dL_law_32 (by rw [z10]; decide) (by rw [z10]; decide) (by rw [z10]; rfl) (by decide) ?_
        exact law_told C1 K hF h1 h2 h3 h4 U hI hl nx
      by_cases z11 : x = 11
      · refine lv_tableIn (off := 664) (tgt := 696) hx hb dL_law_32 (by rw [z11]; decide) (by rw [z11]; decide) (by rw [z11]; rfl) (by decide) ?_
        exact law_point C1 K hF h1 h2 h3 h4 U hI hl nx
      by_cases z12 : x = 12
      · refine lv_tableIn (off := 688) (tgt := 720) hx hb dL_law_32 (by rw [z12]; decide) (by rw [z12]; decide) (by rw [z12]; rfl) (by decide) ?_
        exact law_reported C1 K hF h1 h2 h3 h4 U hI hl nx
      by_cases z13 : x = 13
      · refine lv_tableIn (off := 721) (tgt := 753) hx hb dL_law_32 (by rw [z13]; decide) (by rw [z13]; decide) (by rw [z13]; rfl) (by decide) ?_
        exact law_best C1 K hF h1 h2 h3 h4 U hI hl nx
      by_cases z14 : x = 14
      · refine lv_tableIn (off := 734) (tgt := 766) hx hb dL_law_32 (by rw [z14]; decide) (by rw [z14]; decide) (by rw [z14]; rfl) (by decide) ?_
        exact law_bracket C1 K hF h1 h2 h3 h4 U hI hl nx
      by_cases z15 : x = 15
      · refine lv_tableIn (off := 787) (tgt := 819) hx hb dL_law_32 (by rw [z15]; decide) (by rw [z15]; decide) (by rw [z15]; rfl) (by decide) ?_
        exact law_result C1 K hF h1 h2 h3 h4 U hI hl nx
      by_cases z16 : x = 16
      · refine lv_tableIn (off := 846) (tgt := 878) hx hb dL_law_32 (by rw [z16]; decide) (by rw [z16]; decide) (by rw [z16]; rfl) (by decide) ?_
        exact law_halve C1 K hF h1 h2 h3 h4 U hI hl nx
      by_cases z17 : x = 17
      · refine lv_tableIn (off := 859) (tgt := 891) hx hb dL_law_32 (by rw [z17]; decide) (by rw [z17]; decide) (by rw [z17]; rfl) (by decide) ?_
        exact law_round C1 K hF h1 h2 h3 h4 U hI hl nx
      by_cases z18 : x = 18
      · refine lv_tableIn (off := 882) (tgt := 914) hx hb dL_law_32 (by rw [z18]; decide) (by rw [z18]; decide) (by rw [z18]; rfl) (by decide) ?_
        exact law_cost C1 K hF h1 h2 h3 h4 U hI hl nx
      by_cases z19 : x = 19
      · refine lv_tableIn (off := 896) (tgt := 928) hx hb dL_law_32 (by rw [z19]; decide) (by rw [z19]; decide) (by rw [z19]; rfl) (by decide) ?_
        exact law_plan C1 K hF h1 h2 h3 h4 U hI hl nx
      by_cases z20 : x = 20
      · refine lv_tableIn (off := 949) (tgt := 981) hx hb dL_law_32 (by rw [z20]; decide) (by rw [z20]; decide) (by rw [z20]; rfl) (by decide) ?_
        exact law_folds C1 K hF h1 h2 h3 h4 U hI hl nx
      by_cases z21 : x = 21
      · refine lv_tableIn (off := 1002) (tgt := 1034) hx hb dL_law_32 (by rw [z21]; decide) (by rw [z21]; decide) (by rw [z21]; rfl) (by decide) ?_
        exact law_fold C1 K hF h1 h2 h3 h4 U hI hl nx
      by_cases z22 : x = 22
      · refine lv_tableIn (off := 1035) (tgt := 1067) hx hb dL_law_32 (by rw [z22]; decide) (by rw [z22]; decide) (by rw [z22]; rfl) (by decide) ?_
        exact law_use C1 K hF h1 h2 h3 h4 U hI hl nx
      by_cases z23 : x = 23
      · refine lv_tableIn (off := 1068) (tgt := 1100) hx hb dL_law_32 (by rw [z23]; decide) (by rw [z23]; decide) (by rw [z23]; rfl) (by decide) ?_
        exact law_used C1 K hF h1 h2 h3 h4 U hI hl nx
      have nz0 := lv_neT (a := 0) z0 (by decide)
      have nz1 := lv_neT (a := 1) z1 (by decide)
      have nz2 := lv_neT (a := 2) z2 (by decide)
      have nz3 := lv_neT (a := 3) z3 (by decide)
      have nz4 := lv_neT (a := 4) z4 (by decide)
      have nz5 := lv_neT (a := 5) z5 (by decide)
      have nz6 := lv_neT (a := 6) z6 (by decide)
      have nz7 := lv_neT (a := 7) z7 (by decide)
      have nz8 := lv_neT (a := 8) z8 (by decide)
      have nz9 := lv_neT (a := 9) z9 (by decide)
      have nz10 := lv_neT (a := 10) z10 (by decide)
      have nz11 := lv_neT (a := 11) z11 (by decide)
      have nz12 := lv_neT (a := 12) z12 (by decide)
      have nz13 := lv_neT (a := 13) z13 (by decide)
      have nz14 := lv_neT (a := 14) z14 (by decide)
      have nz15 := lv_neT (a := 15) z15 (by decide)
      have nz16 := lv_neT (a := 16) z16 (by decide)
      have nz17 := lv_neT (a := 17) z17 (by decide)
      have nz18 := lv_neT (a := 18) z18 (by decide)
      have nz19 := lv_neT (a := 19) z19 (by decide)
      have nz20 := lv_neT (a := 20) z20 (by decide)
      have nz21 := lv_neT (a := 21) z21 (by decide)
      have nz22 := lv_neT (a := 22) z22 (by decide)
      have nz23 := lv_neT (a := 23) z23 (by decide)
      refine lv_tableOut (tgt := 1143) hx hb dL_law_32 (by omega) (by decide) ?_
      exact nx _ _ _ _ U hI
