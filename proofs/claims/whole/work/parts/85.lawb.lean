/-! the law, case by case -/
set_option maxHeartbeats 4000000 in
set_option maxRecDepth 100000 in
theorem law_score {p : Program} {l : Launch} {e : Env} {s : State} {m : MethodId} {below : List Frame} {meth : Method} {c : Code} {g : uG} {b L : Nat} {xs : Nat → Int32} (C0 : lw_At p s m meth c b L xs) (K : UK g s) (hF : ∀ q, FA g q → s.heap.size ≤ q) {v3 : Int32} (h1 : vp_in (v3 + 1) L) (h2 : vp_in (v3 + 2) L) (h3 : vp_in (v3 + 3) L) (h4 : vp_in (v3 + 4) L) {A : SA} {B : SB} {H : Heap} {locs : List Loc} {ls : Array Slot} (U : UU g A B s.heap H locs) (hI : Inv A B) (hl : lv_has ls 4 [(0, .ref b), (1, .ref (g.2.1 0)), (2, .ref (g.2.1 5)), (3, .int v3)])
    (hn : ∀ (A : SA) (B : SB) (H : Heap) (locs : List Loc), UU g A B s.heap H locs → Inv A B → W p l e room_1 s m #[Value.ref b] below meth c H locs 600000 7302250 (lw_Z below #[Value.ref b] s) (F0 m 1143 ls [])) : W p l e room_1 s m #[Value.ref b] below meth c H locs 600000 7302250 (lw_Z below #[Value.ref b] s) (F0 m 561 ls []) := by
  obtain ⟨hx, hb, hr, hml, hown, hts0, hX, hbl, hlocks, hgv⟩ := C0
  have hts : ∀ w ∈ wsL_law, w.before #[Value.ref b] s = true := fun w h => hts0 w (wsL_law_in w h)
  have S : CallFix p m c cL_law 4 s #[Value.ref b] wsL_law RL := ⟨hx, hb, hml, hown, hts⟩
  have hbA : ¬ FA g b := fun h => Nat.not_le.mpr hbl (hF b h)
  obtain ⟨x1, ex1⟩ : ∃ x, x = xs (v3 + 1).toNatClampNeg := ⟨_, rfl⟩
  obtain ⟨x2, ex2⟩ : ∃ x, x = xs (v3 + 2).toNatClampNeg := ⟨_, rfl⟩
  obtain ⟨x3, ex3⟩ : ∃ x, x = xs (v3 + 3).toNatClampNeg := ⟨_, rfl⟩
  refine lv_aload_n hx hb dL_law_561 rfl (lv_at hl 1 rfl) ?_
  refine lv_aload_n hx hb dL_law_562 rfl (lv_at hl 0 rfl) ?_
  refine lv_iload_n hx hb dL_law_563 rfl (lv_at hl 3 rfl) ?_
  refine lv_iconst (v := 1) hx hb dL_law_564 (by decide) ?_
  refine lv_iadd hx hb dL_law_565 ?_
  refine va_sld hx hb hX hbl hbA U.2 h1 dL_law_566 ?_
  rw [← ex1]
  refine lv_aload_n hx hb dL_law_567 rfl (lv_at hl 0 rfl) ?_
  refine lv_iload_n hx hb dL_law_568 rfl (lv_at hl 3 rfl) ?_
  refine lv_iconst (v := 2) hx hb dL_law_569 (by decide) ?_
  refine lv_iadd hx hb dL_law_570 ?_
  refine va_sld hx hb hX hbl hbA U.2 h2 dL_law_571 ?_
  rw [← ex2]
  refine lv_aload_n hx hb dL_law_572 rfl (lv_at hl 0 rfl) ?_
  refine lv_iload_n hx hb dL_law_573 rfl (lv_at hl 3 rfl) ?_
  refine lv_iconst (v := 3) hx hb dL_law_574 (by decide) ?_
  refine lv_iadd hx hb dL_law_575 ?_
  refine va_sld hx hb hX hbl hbA U.2 h3 dL_law_576 ?_
  rw [← ex3]
  refine lv_if_eq (tgt := 584) hx hb dL_law_577 (by decide) (fun c1 => ?_) (fun c1 => ?_)
  · skip
    refine lv_iconst (v := 0) hx hb dL_law_584 (by decide) ?_
    have hw : wp_X5_score x1 x2 (0 : Int32) A B (fun r A1 => wp_X6_score x1 x2 (0 : Int32) A1 B (fun r2 A2 => r = r2 ∧ Inv A2 B)) := st_score hI (K := (fun r r2 A2 => r = r2 ∧ Inv A2 B)) (fun _ _ h => ⟨rfl, h⟩)
    refine u_ci (u_rV (As := [.int x1, .int x2, .int (0 : Int32)]) (rest := []) (C := RX5) S K U 0 4 (by decide) rfl rfl (c_X5_score hw) (cwV 3 hts gL_law_X5_score rfl rfl rfl (by decide +kernel) ⟨Nat.le_of_ble_eq_true rfl, Nat.le_of_ble_eq_true rfl⟩) rfl hl.1 rfl (Nat.le_of_ble_eq_true rfl) dL_law_585 ⟨Nat.le_refl _, Nat.le_refl _⟩) U (fun r1 A1 B1 H locs U9 hw => ?_)
    obtain ⟨eB, hw⟩ := hw
    rw [eB] at U9
    have U := U9
    refine lv_aload_n hx hb dL_law_588 rfl (lv_at hl 2 rfl) ?_
    refine lv_aload_n hx hb dL_law_589 rfl (lv_at hl 0 rfl) ?_
    refine lv_iload_n hx hb dL_law_590 rfl (lv_at hl 3 rfl) ?_
    refine lv_iconst (v := 1) hx hb dL_law_591 (by decide) ?_
    refine lv_iadd hx hb dL_law_592 ?_
    refine va_sld hx hb hX hbl hbA U.2 h1 dL_law_593 ?_
    rw [← ex1]
    refine lv_aload_n hx hb dL_law_594 rfl (lv_at hl 0 rfl) ?_
    refine lv_iload_n hx hb dL_law_595 rfl (lv_at hl 3 rfl) ?_
    refine lv_iconst (v := 2) hx hb dL_law_596 (by decide) ?_
    refine lv_iadd hx hb dL_law_597 ?_
    refine va_sld hx hb hX hbl hbA U.2 h2 dL_law_598 ?_
    rw [← ex2]
    refine lv_aload_n hx hb dL_law_599 rfl (lv_at hl 0 rfl) ?_
    refine lv_iload_n hx hb dL_law_600 rfl (lv_at hl 3 rfl) ?_
    refine lv_iconst (v := 3) hx hb dL_law_601 (by decide) ?_
    refine lv_iadd hx hb dL_law_602 ?_
    refine va_sld hx hb hX hbl hbA U.2 h3 dL_law_603 ?_
    rw [← ex3]
    refine lv_if_eq (tgt := 611) hx hb dL_law_604 (by decide) (fun c2 => ?_) (fun c2 => absurd c1 c2)
    refine lv_iconst (v := 0) hx hb dL_law_611 (by decide) ?_
    refine u_ci (u_rV (As := [.int x1, .int x2, .int (0 : Int32)]) (rest := [.int r1]) (C := RX6) S K U 5 5 (by decide) rfl rfl (c_X6_score hw) (cwV 3 hts gL_law_X6_score rfl rfl rfl (by decide +kernel) ⟨Nat.le_of_ble_eq_true rfl, Nat.le_of_ble_eq_true rfl⟩) rfl hl.1 rfl (Nat.le_of_ble_eq_true rfl) dL_law_612 ⟨Nat.le_refl _, Nat.le_refl _⟩) U (fun r2 A2 B2 H locs U9 hw => ?_)
    obtain ⟨eB, hw⟩ := hw
    rw [eB] at U9
    have U := U9
    refine lv_icmp_eq (tgt := 1143) hx hb dL_law_615 (by decide) (fun c9 => ?_) (fun c9 => absurd hw.1 c9)
    exact hn _ _ _ _ U hw.2
  · skip
    refine lv_iconst (v := 1) hx hb dL_law_580 (by decide) ?_
    refine lv_goto (tgt := 585) hx hb dL_law_581 (by decide) ?_
    have hw : wp_X5_score x1 x2 (1 : Int32) A B (fun r A1 => wp_X6_score x1 x2 (1 : Int32) A1 B (fun r2 A2 => r = r2 ∧ Inv A2 B)) := st_score hI (K := (fun r r2 A2 => r = r2 ∧ Inv A2 B)) (fun _ _ h => ⟨rfl, h⟩)
    refine u_ci (u_rV (As := [.int x1, .int x2, .int (1 : Int32)]) (rest := []) (C := RX5) S K U 0 4 (by decide) rfl rfl (c_X5_score hw) (cwV 3 hts gL_law_X5_score rfl rfl rfl (by decide +kernel) ⟨Nat.le_of_ble_eq_true rfl, Nat.le_of_ble_eq_true rfl⟩) rfl hl.1 rfl (Nat.le_of_ble_eq_true rfl) dL_law_585 ⟨Nat.le_refl _, Nat.le_refl _⟩) U (fun r1 A1 B1 H locs U9 hw => ?_)
    obtain ⟨eB, hw⟩ := hw
    rw [eB] at U9
    have U := U9
    refine lv_aload_n hx hb dL_law_588 rfl (lv_at hl 2 rfl) ?_
    refine lv_aload_n hx hb dL_law_589 rfl (lv_at hl 0 rfl) ?_
    refine lv_iload_n hx hb dL_law_590 rfl (lv_at hl 3 rfl) ?_
    refine lv_iconst (v := 1) hx hb dL_law_591 (by decide) ?_
    refine lv_iadd hx hb dL_law_592 ?_
    refine va_sld hx hb hX hbl hbA U.2 h1 dL_law_593 ?_
    rw [← ex1]
    refine lv_aload_n hx hb dL_law_594 rfl (lv_at hl 0 rfl) ?_
    refine lv_iload_n hx hb dL_law_595 rfl (lv_at hl 3 rfl) ?_
    refine lv_iconst (v := 2) hx hb dL_law_596 (by decide) ?_
    refine lv_iadd hx hb dL_law_597 ?_
    refine va_sld hx hb hX hbl hbA U.2 h2 dL_law_598 ?_
    rw [← ex2]
    refine lv_aload_n hx hb dL_law_599 rfl (lv_at hl 0 rfl) ?_
    refine lv_iload_n hx hb dL_law_600 rfl (lv_at hl 3 rfl) ?_
    refine lv_iconst (v := 3) hx hb dL_law_601 (by decide) ?_
    refine lv_iadd hx hb dL_law_602 ?_
    refine va_sld hx hb hX hbl hbA U.2 h3 dL_law_603 ?_
    rw [← ex3]
    refine lv_if_eq (tgt := 611) hx hb dL_law_604 (by decide) (fun c2 => absurd c2 c1) (fun c2 => ?_)
    refine lv_iconst (v := 1) hx hb dL_law_607 (by decide) ?_
    refine lv_goto (tgt := 612) hx hb dL_law_608 (by decide) ?_
    refine u_ci (u_rV (As := [.int x1, .int x2, .int (1 : Int32)]) (rest := [.int r1]) (C := RX6) S K U 5 5 (by decide) rfl rfl (c_X6_score hw) (cwV 3 hts gL_law_X6_score rfl rfl rfl (by decide +kernel) ⟨Nat.le_of_ble_eq_true rfl, Nat.le_of_ble_eq_true rfl⟩) rfl hl.1 rfl (Nat.le_of_ble_eq_true rfl) dL_law_612 ⟨Nat.le_refl _, Nat.le_refl _⟩) U (fun r2 A2 B2 H locs U9 hw => ?_)
    obtain ⟨eB, hw⟩ := hw
    rw [eB] at U9
    have U := U9
    refine lv_icmp_eq (tgt := 1143) hx hb dL_law_615 (by decide) (fun c9 => ?_) (fun c9 => absurd hw.1 c9)
    exact hn _ _ _ _ U hw.2
set_option maxHeartbeats 4000000 in
set_option maxRecDepth 100000 in
theorem law_report {p : Program} {l : Launch} {e : Env} {s : State} {m : MethodId} {below : List Frame} {meth : Method} {c : Code} {g : uG} {b L : Nat} {xs : Nat → Int32} (C0 : lw_At p s m meth c b L xs) (K : UK g s) (hF : ∀ q, FA g q → s.heap.size ≤ q) {v3 : Int32} (h1 : vp_in (v3 + 1) L) (h2 : vp_in (v3 + 2) L) (h3 : vp_in (v3 + 3) L) (h4 : vp_in (v3 + 4) L) {A : SA} {B : SB} {H : Heap} {locs : List Loc} {ls : Array Slot} (U : UU g A B s.heap H locs) (hI : Inv A B) (hl : lv_has ls 4 [(0, .ref b), (1, .ref (g.2.1 0)), (2, .ref (g.2.1 5)), (3, .int v3)])
    (hn : ∀ (A : SA) (B : SB) (H : Heap) (locs : List Loc), UU g A B s.heap H locs → Inv A B → W p l e room_1 s m #[Value.ref b] below meth c H locs 600000 7302250 (lw_Z below #[Value.ref b] s) (F0 m 1143 ls [])) : W p l e room_1 s m #[Value.ref b] below meth c H locs 600000 7302250 (lw_Z below #[Value.ref b] s) (F0 m 620 ls []) := by
  obtain ⟨hx, hb, hr, hml, hown, hts0, hX, hbl, hlocks, hgv⟩ := C0
  have hts : ∀ w ∈ wsL_law, w.before #[Value.ref b] s = true := fun w h => hts0 w (wsL_law_in w h)
  have S : CallFix p m c cL_law 4 s #[Value.ref b] wsL_law RL := ⟨hx, hb, hml, hown, hts⟩
  have hbA : ¬ FA g b := fun h => Nat.not_le.mpr hbl (hF b h)
  obtain ⟨x1, ex1⟩ : ∃ x, x = xs (v3 + 1).toNatClampNeg := ⟨_, rfl⟩
  obtain ⟨x2, ex2⟩ : ∃ x, x = xs (v3 + 2).toNatClampNeg := ⟨_, rfl⟩
  obtain ⟨x3, ex3⟩ : ∃ x, x = xs (v3 + 3).toNatClampNeg := ⟨_, rfl⟩
  refine lv_aload_n hx hb dL_law_620 rfl (lv_at hl 1 rfl) ?_
  refine lv_aload_n hx hb dL_law_621 rfl (lv_at hl 0 rfl) ?_
  refine lv_iload_n hx hb dL_law_622 rfl (lv_at hl 3 rfl) ?_
  refine lv_iconst (v := 1) hx hb dL_law_623 (by decide) ?_
  refine lv_iadd hx hb dL_law_624 ?_
  refine va_sld hx hb hX hbl hbA U.2 h1 dL_law_625 ?_
  rw [← ex1]
  refine lv_aload_n hx hb dL_law_626 rfl (lv_at hl 0 rfl) ?_
  refine lv_iload_n hx hb dL_law_627 rfl (lv_at hl 3 rfl) ?_
  refine lv_iconst (v := 2) hx hb dL_law_628 (by decide) ?_
  refine lv_iadd hx hb dL_law_629 ?_
  refine va_sld hx hb hX hbl hbA U.2 h2 dL_law_630 ?_
  rw [← ex2]
  refine lv_aload_n hx hb dL_law_631 rfl (lv_at hl 0 rfl) ?_
  refine lv_iload_n hx hb dL_law_632 rfl (lv_at hl 3 rfl) ?_
  refine lv_iconst (v := 3) hx hb dL_law_633 (by decide) ?_
  refine lv_iadd hx hb dL_law_634 ?_
  refine va_sld hx hb hX hbl hbA U.2 h3 dL_law_635 ?_
  rw [← ex3]
  have hw : wp_X5_report x1 x2 x3 A B (fun r A1 => wp_X6_report x1 x2 x3 A1 B (fun r2 A2 => r = r2 ∧ Inv A2 B)) := st_report hI (K := (fun r r2 A2 => r = r2 ∧ Inv A2 B)) (fun _ _ h => ⟨rfl, h⟩)
  refine u_ci (u_rV (As := [.int x1, .int x2, .int x3]) (rest := []) (C := RX5) S K U 0 4 (by decide) rfl rfl (c_X5_report hw) (cwV 3 hts gL_law_X5_report rfl rfl rfl (by decide +kernel) ⟨Nat.le_of_ble_eq_true rfl, Nat.le_of_ble_eq_true rfl⟩) rfl hl.1 rfl (Nat.le_of_ble_eq_true rfl) dL_law_636 ⟨Nat.le_refl _, Nat.le_refl _⟩) U (fun r1 A1 B1 H locs U9 hw => ?_)
  obtain ⟨eB, hw⟩ := hw
  rw [eB] at U9
  have U := U9
  refine lv_aload_n hx hb dL_law_639 rfl (lv_at hl 2 rfl) ?_
  refine lv_aload_n hx hb dL_law_640 rfl (lv_at hl 0 rfl) ?_
  refine lv_iload_n hx hb dL_law_641 rfl (lv_at hl 3 rfl) ?_
  refine lv_iconst (v := 1) hx hb dL_law_642 (by decide) ?_
  refine lv_iadd hx hb dL_law_643 ?_
  refine va_sld hx hb hX hbl hbA U.2 h1 dL_law_644 ?_
  rw [← ex1]
  refine lv_aload_n hx hb dL_law_645 rfl (lv_at hl 0 rfl) ?_
  refine lv_iload_n hx hb dL_law_646 rfl (lv_at hl 3 rfl) ?_
  refine lv_iconst (v := 2) hx hb dL_law_647 (by decide) ?_
  refine lv_iadd hx hb dL_law_648 ?_
  refine va_sld hx hb hX hbl hbA U.2 h2 dL_law_649 ?_
  rw [← ex2]
  refine lv_aload_n hx hb dL_law_650 rfl (lv_at hl 0 rfl) ?_
  refine lv_iload_n hx hb dL_law_651 rfl (lv_at hl 3 rfl) ?_
  refine lv_iconst (v := 3) hx hb dL_law_652 (by decide) ?_
  refine lv_iadd hx hb dL_law_653 ?_
  refine va_sld hx hb hX hbl hbA U.2 h3 dL_law_654 ?_
  rw [← ex3]
  refine u_ci (u_rV (As := [.int x1, .int x2, .int x3]) (rest := [.int r1]) (C := RX6) S K U 5 5 (by decide) rfl rfl (c_X6_report hw) (cwV 3 hts gL_law_X6_report rfl rfl rfl (by decide +kernel) ⟨Nat.le_of_ble_eq_true rfl, Nat.le_of_ble_eq_true rfl⟩) rfl hl.1 rfl (Nat.le_of_ble_eq_true rfl) dL_law_655 ⟨Nat.le_refl _, Nat.le_refl _⟩) U (fun r2 A2 B2 H locs U9 hw => ?_)
  obtain ⟨eB, hw⟩ := hw
  rw [eB] at U9
  have U := U9
  refine lv_icmp_eq (tgt := 1143) hx hb dL_law_658 (by decide) (fun c9 => ?_) (fun c9 => absurd hw.1 c9)
  exact hn _ _ _ _ U hw.2
set_option maxHeartbeats 4000000 in
set_option maxRecDepth 100000 in
theorem law_told {p : Program} {l : Launch} {e : Env} {s : State} {m : MethodId} {below : List Frame} {meth : Method} {c : Code} {g : uG} {b L : Nat} {xs : Nat → Int32} (C0 : lw_At p s m meth c b L xs) (K : UK g s) (hF : ∀ q, FA g q → s.heap.size ≤ q) {v3 : Int32} (h1 : vp_in (v3 + 1) L) (h2 : vp_in (v3 + 2) L) (h3 : vp_in (v3 + 3) L) (h4 : vp_in (v3 + 4) L) {A : SA} {B : SB} {H : Heap} {locs : List Loc} {ls : Array Slot} (U : UU g A B s.heap H locs) (hI : Inv A B) (hl : lv_has ls 4 [(0, .ref b), (1, .ref (g.2.1 0)), (2, .ref (g.2.1 5)), (3, .int v3)])
    (hn : ∀ (A : SA) (B : SB) (H : Heap) (locs : List Loc), UU g A B s.heap H locs → Inv A B → W p l e room_1 s m #[Value.ref b] below meth c H locs 600000 7302250 (lw_Z below #[Value.ref b] s) (F0 m 1143 ls [])) : W p l e room_1 s m #[Value.ref b] below meth c H locs 600000 7302250 (lw_Z below #[Value.ref b] s) (F0 m 663 ls []) := by
  obtain ⟨hx, hb, hr, hml, hown, hts0, hX, hbl, hlocks, hgv⟩ := C0
  have hts : ∀ w ∈ wsL_law, w.before #[Value.ref b] s = true := fun w h => hts0 w (wsL_law_in w h)
  have S : CallFix p m c cL_law 4 s #[Value.ref b] wsL_law RL := ⟨hx, hb, hml, hown, hts⟩
  have hbA : ¬ FA g b := fun h => Nat.not_le.mpr hbl (hF b h)
  obtain ⟨x1, ex1⟩ : ∃ x, x = xs (v3 + 1).toNatClampNeg := ⟨_, rfl⟩
  obtain ⟨x2, ex2⟩ : ∃ x, x = xs (v3 + 2).toNatClampNeg := ⟨_, rfl⟩
  refine lv_aload_n hx hb dL_law_663 rfl (lv_at hl 1 rfl) ?_
  refine lv_aload_n hx hb dL_law_664 rfl (lv_at hl 0 rfl) ?_
  refine lv_iload_n hx hb dL_law_665 rfl (lv_at hl 3 rfl) ?_
  refine lv_iconst (v := 1) hx hb dL_law_666 (by decide) ?_
  refine lv_iadd hx hb dL_law_667 ?_
  refine va_sld hx hb hX hbl hbA U.2 h1 dL_law_668 ?_
  rw [← ex1]
  refine lv_aload_n hx hb dL_law_669 rfl (lv_at hl 0 rfl) ?_
  refine lv_iload_n hx hb dL_law_670 rfl (lv_at hl 3 rfl) ?_
  refine lv_iconst (v := 2) hx hb dL_law_671 (by decide) ?_
  refine lv_iadd hx hb dL_law_672 ?_
  refine va_sld hx hb hX hbl hbA U.2 h2 dL_law_673 ?_
  rw [← ex2]
  have hw : wp_X5_told x1 x2 A B (fun r => wp_X6_told x1 x2 A B (fun r2 => r = r2)) := st_told hI (K := (fun r r2 => r = r2)) (fun _ => rfl)
  refine u_ci (u_rV (As := [.int x1, .int x2]) (rest := []) (C := RX5) S K U 0 4 (by decide) rfl rfl (c_X5_told hw) (cwV 2 hts gL_law_X5_told rfl rfl rfl (by decide +kernel) ⟨Nat.le_of_ble_eq_true rfl, Nat.le_of_ble_eq_true rfl⟩) rfl hl.1 rfl (Nat.le_of_ble_eq_true rfl) dL_law_674 ⟨Nat.le_refl _, Nat.le_refl _⟩) U (fun r1 A1 B1 H locs U9 hw => ?_)
  obtain ⟨eA, eB, hw⟩ := hw
  rw [eA, eB] at U9
  have U := U9
  refine lv_aload_n hx hb dL_law_677 rfl (lv_at hl 2 rfl) ?_
  refine lv_aload_n hx hb dL_law_678 rfl (lv_at hl 0 rfl) ?_
  refine lv_iload_n hx hb dL_law_679 rfl (lv_at hl 3 rfl) ?_
  refine lv_iconst (v := 1) hx hb dL_law_680 (by decide) ?_
  refine lv_iadd hx hb dL_law_681 ?_
  refine va_sld hx hb hX hbl hbA U.2 h1 dL_law_682 ?_
  rw [← ex1]
  refine lv_aload_n hx hb dL_law_683 rfl (lv_at hl 0 rfl) ?_
  refine lv_iload_n hx hb dL_law_684 rfl (lv_at hl 3 rfl) ?_
  refine lv_iconst (v := 2) hx hb dL_law_685 (by decide) ?_
  refine lv_iadd hx hb dL_law_686 ?_
  refine va_sld hx hb hX hbl hbA U.2 h2 dL_law_687 ?_
  rw [← ex2]
  refine u_ci (u_rV (As := [.int x1, .int x2]) (rest := [.int r1]) (C := RX6) S K U 5 5 (by decide) rfl rfl (c_X6_told hw) (cwV 2 hts gL_law_X6_told rfl rfl rfl (by decide +kernel) ⟨Nat.le_of_ble_eq_true rfl, Nat.le_of_ble_eq_true rfl⟩) rfl hl.1 rfl (Nat.le_of_ble_eq_true rfl) dL_law_688 ⟨Nat.le_refl _, Nat.le_refl _⟩) U (fun r2 A2 B2 H locs U9 hw => ?_)
  obtain ⟨eA, eB, hw⟩ := hw
  rw [eA, eB] at U9
  have U := U9
  refine lv_icmp_eq (tgt := 1143) hx hb dL_law_691 (by decide) (fun c9 => ?_) (fun c9 => absurd hw c9)
  exact hn _ _ _ _ U hI
set_option maxHeartbeats 4000000 in
set_option maxRecDepth 100000 in
theorem law_point {p : Program} {l : Launch} {e : Env} {s : State} {m : MethodId} {below : List Frame} {meth : Method} {c : Code} {g : uG} {b L : Nat} {xs : Nat → Int32} (C0 : lw_At p s m meth c b L xs) (K : UK g s) (hF : ∀ q, FA g q → s.heap.size ≤ q) {v3 : Int32} (h1 : vp_in (v3 + 1) L) (h2 : vp_in (v3 + 2) L) (h3 : vp_in (v3 + 3) L) (h4 : vp_in (v3 + 4) L) {A : SA} {B : SB} {H : Heap} {locs : List Loc} {ls : Array Slot} (U : UU g A B s.heap H locs) (hI : Inv A B) (hl : lv_has ls 4 [(0, .ref b), (1, .ref (g.2.1 0)), (2, .ref (g.2.1 5)), (3, .int v3)])
    (hn : ∀ (A : SA) (B : SB) (H : Heap) (locs : List Loc), UU g A B s.heap H locs → Inv A B → W p l e room_1 s m #[Value.ref b] below meth c H locs 600000 7302250 (lw_Z below #[Value.ref b] s) (F0 m 1143 ls [])) : W p l e room_1 s m #[Value.ref b] below meth c H locs 600000 7302250 (lw_Z below #[Value.ref b] s) (F0 m 696 ls []) := by
  obtain ⟨hx, hb, hr, hml, hown, hts0, hX, hbl, hlocks, hgv⟩ := C0
  have hts : ∀ w ∈ wsL_law, w.before #[Value.ref b] s = true := fun w h => hts0 w (wsL_law_in w h)
  have S : CallFix p m c cL_law 4 s #[Value.ref b] wsL_law RL := ⟨hx, hb, hml, hown, hts⟩
  have hbA : ¬ FA g b := fun h => Nat.not_le.mpr hbl (hF b h)
  obtain ⟨x1, ex1⟩ : ∃ x, x = xs (v3 + 1).toNatClampNeg := ⟨_, rfl⟩
  refine lv_aload_n hx hb dL_law_696 rfl (lv_at hl 1 rfl) ?_
  refine lv_aload_n hx hb dL_law_697 rfl (lv_at hl 0 rfl) ?_
  refine lv_iload_n hx hb dL_law_698 rfl (lv_at hl 3 rfl) ?_
  refine lv_iconst (v := 1) hx hb dL_law_699 (by decide) ?_
  refine lv_iadd hx hb dL_law_700 ?_
  refine va_sld hx hb hX hbl hbA U.2 h1 dL_law_701 ?_
  rw [← ex1]
  have hw : wp_X5_point x1 A B (fun r => wp_X6_point x1 A B (fun r2 => r = r2)) := st_point hI (K := (fun r r2 => r = r2)) (fun _ => rfl)
  refine u_cl (u_rV (As := [.int x1]) (rest := []) (C := RX5) S K U 0 4 (by decide) rfl rfl (c_X5_point hw) (cwV 1 hts gL_law_X5_point rfl rfl rfl (by decide +kernel) ⟨Nat.le_of_ble_eq_true rfl, Nat.le_of_ble_eq_true rfl⟩) rfl hl.1 rfl (Nat.le_of_ble_eq_true rfl) dL_law_702 ⟨Nat.le_refl _, Nat.le_refl _⟩) U (fun r1 A1 B1 H locs U9 hw => ?_)
  obtain ⟨eA, eB, hw⟩ := hw
  rw [eA, eB] at U9
  have U := U9
  refine lv_aload_n hx hb dL_law_705 rfl (lv_at hl 2 rfl) ?_
  refine lv_aload_n hx hb dL_law_706 rfl (lv_at hl 0 rfl) ?_
  refine lv_iload_n hx hb dL_law_707 rfl (lv_at hl 3 rfl) ?_
  refine lv_iconst (v := 1) hx hb dL_law_708 (by decide) ?_
  refine lv_iadd hx hb dL_law_709 ?_
  refine va_sld hx hb hX hbl hbA U.2 h1 dL_law_710 ?_
  rw [← ex1]
  refine u_cl (u_rV (As := [.int x1]) (rest := [.long r1]) (C := RX6) S K U 5 5 (by decide) rfl rfl (c_X6_point hw) (cwV 1 hts gL_law_X6_point rfl rfl rfl (by decide +kernel) ⟨Nat.le_of_ble_eq_true rfl, Nat.le_of_ble_eq_true rfl⟩) rfl hl.1 rfl (Nat.le_of_ble_eq_true rfl) dL_law_711 ⟨Nat.le_refl _, Nat.le_refl _⟩) U (fun r2 A2 B2 H locs U9 hw => ?_)
  obtain ⟨eA, eB, hw⟩ := hw
  rw [eA, eB] at U9
  have U := U9
  refine u_lc_eq (tgt := 1143) hx hb dL_law_714 dL_law_715 (by decide) (fun c9 => ?_) (fun c9 => absurd hw c9)
  exact hn _ _ _ _ U hI
set_option maxHeartbeats 4000000 in
set_option maxRecDepth 100000 in
theorem law_reported {p : Program} {l : Launch} {e : Env} {s : State} {m : MethodId} {below : List Frame} {meth : Method} {c : Code} {g : uG} {b L : Nat} {xs : Nat → Int32} (C0 : lw_At p s m meth c b L xs) (K : UK g s) (hF : ∀ q, FA g q → s.heap.size ≤ q) {v3 : Int32} (h1 : vp_in (v3 + 1) L) (h2 : vp_in (v3 + 2) L) (h3 : vp_in (v3 + 3) L) (h4 : vp_in (v3 + 4) L) {A : SA} {B : SB} {H : Heap} {locs : List Loc} {ls : Array Slot} (U : UU g A B s.heap H locs) (hI : Inv A B) (hl : lv_has ls 4 [(0, .ref b), (1, .ref (g.2.1 0)), (2, .ref (g.2.1 5)), (3, .int v3)])
    (hn : ∀ (A : SA) (B : SB) (H : Heap) (locs : List Loc), UU g A B s.heap H locs → Inv A B → W p l e room_1 s m #[Value.ref b] below meth c H locs 600000 7302250 (lw_Z below #[Value.ref b] s) (F0 m 1143 ls [])) : W p l e room_1 s m #[Value.ref b] below meth c H locs 600000 7302250 (lw_Z below #[Value.ref b] s) (F0 m 720 ls []) := by
  obtain ⟨hx, hb, hr, hml, hown, hts0, hX, hbl, hlocks, hgv⟩ := C0
  have hts : ∀ w ∈ wsL_law, w.before #[Value.ref b] s = true := fun w h => hts0 w (wsL_law_in w h)
  have S : CallFix p m c cL_law 4 s #[Value.ref b] wsL_law RL := ⟨hx, hb, hml, hown, hts⟩
  have hbA : ¬ FA g b := fun h => Nat.not_le.mpr hbl (hF b h)
  obtain ⟨x1, ex1⟩ : ∃ x, x = xs (v3 + 1).toNatClampNeg := ⟨_, rfl⟩
  obtain ⟨x2, ex2⟩ : ∃ x, x = xs (v3 + 2).toNatClampNeg := ⟨_, rfl⟩
  refine lv_aload_n hx hb dL_law_720 rfl (lv_at hl 1 rfl) ?_
  refine lv_aload_n hx hb dL_law_721 rfl (lv_at hl 0 rfl) ?_
  refine lv_iload_n hx hb dL_law_722 rfl (lv_at hl 3 rfl) ?_
  refine lv_iconst (v := 1) hx hb dL_law_723 (by decide) ?_
  refine lv_iadd hx hb dL_law_724 ?_
  refine va_sld hx hb hX hbl hbA U.2 h1 dL_law_725 ?_
  rw [← ex1]
  refine lv_aload_n hx hb dL_law_726 rfl (lv_at hl 0 rfl) ?_
  refine lv_iload_n hx hb dL_law_727 rfl (lv_at hl 3 rfl) ?_
  refine lv_iconst (v := 2) hx hb dL_law_728 (by decide) ?_
  refine lv_iadd hx hb dL_law_729 ?_
  refine va_sld hx hb hX hbl hbA U.2 h2 dL_law_730 ?_
  rw [← ex2]
  have hw : wp_X5_reported x1 x2 A B (fun r => wp_X6_reported x1 x2 A B (fun r2 => r = r2)) := st_reported hI (K := (fun r r2 => r = r2)) (fun _ => rfl)
  refine u_ci (u_rV (As := [.int x1, .int x2]) (rest := []) (C := RX5) S K U 0 4 (by decide) rfl rfl (c_X5_reported hw) (cwV 2 hts gL_law_X5_reported rfl rfl rfl (by decide +kernel) ⟨Nat.le_of_ble_eq_true rfl, Nat.le_of_ble_eq_true rfl⟩) rfl hl.1 rfl (Nat.le_of_ble_eq_true rfl) dL_law_731 ⟨Nat.le_refl _, Nat.le_refl _⟩) U (fun r1 A1 B1 H locs U9 hw => ?_)
  obtain ⟨eA, eB, hw⟩ := hw
  rw [eA, eB] at U9
  have U := U9
  refine lv_aload_n hx hb dL_law_734 rfl (lv_at hl 2 rfl) ?_
  refine lv_aload_n hx hb dL_law_735 rfl (lv_at hl 0 rfl) ?_
  refine lv_iload_n hx hb dL_law_736 rfl (lv_at hl 3 rfl) ?_
  refine lv_iconst (v := 1) hx hb dL_law_737 (by decide) ?_
  refine lv_iadd hx hb dL_law_738 ?_
  refine va_sld hx hb hX hbl hbA U.2 h1 dL_law_739 ?_
  rw [← ex1]
  refine lv_aload_n hx hb dL_law_740 rfl (lv_at hl 0 rfl) ?_
  refine lv_iload_n hx hb dL_law_741 rfl (lv_at hl 3 rfl) ?_
  refine lv_iconst (v := 2) hx hb dL_law_742 (by decide) ?_
  refine lv_iadd hx hb dL_law_743 ?_
  refine va_sld hx hb hX hbl hbA U.2 h2 dL_law_744 ?_
  rw [← ex2]
  refine u_ci (u_rV (As := [.int x1, .int x2]) (rest := [.int r1]) (C := RX6) S K U 5 5 (by decide) rfl rfl (c_X6_reported hw) (cwV 2 hts gL_law_X6_reported rfl rfl rfl (by decide +kernel) ⟨Nat.le_of_ble_eq_true rfl, Nat.le_of_ble_eq_true rfl⟩) rfl hl.1 rfl (Nat.le_of_ble_eq_true rfl) dL_law_745 ⟨Nat.le_refl _, Nat.le_refl _⟩) U (fun r2 A2 B2 H locs U9 hw => ?_)
  obtain ⟨eA, eB, hw⟩ := hw
  rw [eA, eB] at U9
  have U := U9
  refine lv_icmp_eq (tgt := 1143) hx hb dL_law_748 (by decide) (fun c9 => ?_) (fun c9 => absurd hw c9)
  exact hn _ _ _ _ U hI
set_option maxHeartbeats 4000000 in
set_option maxRecDepth 100000 in
theorem law_best {p : Program} {l : Launch} {e : Env} {s : State} {m : MethodId} {below : List Frame} {meth : Method} {c : Code} {g : uG} {b L : Nat} {xs : Nat → Int32} (C0 : lw_At p s m meth c b L xs) (K : UK g s) (hF : ∀ q, FA g q → s.heap.size ≤ q) {v3 : Int32} (h1 : vp_in (v3 + 1) L) (h2 : vp_in (v3 + 2) L) (h3 : vp_in (v3 + 3) L) (h4 : vp_in (v3 + 4) L) {A : SA} {B : SB} {H : Heap} {locs : List Loc} {ls : Array Slot} (U : UU g A B s.heap H locs) (hI : Inv A B) (hl : lv_has ls 4 [(0, .ref b), (1, .ref (g.2.1 0)), (2, .ref (g.2.1 5)), (3, .int v3)])
    (hn : ∀ (A : SA) (B : SB) (H : Heap) (locs : List Loc), UU g A B s.heap H locs → Inv A B → W p l e room_1 s m #[Value.ref b] below meth c H locs 600000 7302250 (lw_Z below #[Value.ref b] s) (F0 m 1143 ls [])) : W p l e room_1 s m #[Value.ref b] below meth c H locs 600000 7302250 (lw_Z below #[Value.ref b] s) (F0 m 753 ls []) := by
  obtain ⟨hx, hb, hr, hml, hown, hts0, hX, hbl, hlocks, hgv⟩ := C0
  have hts : ∀ w ∈ wsL_law, w.before #[Value.ref b] s = true := fun w h => hts0 w (wsL_law_in w h)
  have S : CallFix p m c cL_law 4 s #[Value.ref b] wsL_law RL := ⟨hx, hb, hml, hown, hts⟩
  have hbA : ¬ FA g b := fun h => Nat.not_le.mpr hbl (hF b h)
  refine lv_aload_n hx hb dL_law_753 rfl (lv_at hl 1 rfl) ?_
  have hw : wp_X5_best  A B (fun r => wp_X6_best  A B (fun r2 => r = r2)) := st_best hI (K := (fun r r2 => r = r2)) (fun _ => rfl)
  refine u_ci (u_rV (As := []) (rest := []) (C := RX5) S K U 0 4 (by decide) rfl rfl (c_X5_best hw) (cwV 0 hts gL_law_X5_best rfl rfl rfl (by decide +kernel) ⟨Nat.le_of_ble_eq_true rfl, Nat.le_of_ble_eq_true rfl⟩) rfl hl.1 rfl (Nat.le_of_ble_eq_true rfl) dL_law_754 ⟨Nat.le_refl _, Nat.le_refl _⟩) U (fun r1 A1 B1 H locs U9 hw => ?_)
  obtain ⟨eA, eB, hw⟩ := hw
  rw [eA, eB] at U9
  have U := U9
  refine lv_aload_n hx hb dL_law_757 rfl (lv_at hl 2 rfl) ?_
  refine u_ci (u_rV (As := []) (rest := [.int r1]) (C := RX6) S K U 5 5 (by decide) rfl rfl (c_X6_best hw) (cwV 0 hts gL_law_X6_best rfl rfl rfl (by decide +kernel) ⟨Nat.le_of_ble_eq_true rfl, Nat.le_of_ble_eq_true rfl⟩) rfl hl.1 rfl (Nat.le_of_ble_eq_true rfl) dL_law_758 ⟨Nat.le_refl _, Nat.le_refl _⟩) U (fun r2 A2 B2 H locs U9 hw => ?_)
  obtain ⟨eA, eB, hw⟩ := hw
  rw [eA, eB] at U9
  have U := U9
  refine lv_icmp_eq (tgt := 1143) hx hb dL_law_761 (by decide) (fun c9 => ?_) (fun c9 => absurd hw c9)
  exact hn _ _ _ _ U hI
set_option maxHeartbeats 4000000 in
set_option maxRecDepth 100000 in
theorem law_bracket {p : Program} {l : Launch} {e : Env} {s : State} {m : MethodId} {below : List Frame} {meth : Method} {c : Code} {g : uG} {b L : Nat} {xs : Nat → Int32} (C0 : lw_At p s m meth c b L xs) (K : UK g s) (hF : ∀ q, FA g q → s.heap.size ≤ q) {v3 : Int32} (h1 : vp_in (v3 + 1) L) (h2 : vp_in (v3 + 2) L) (h3 : vp_in (v3 + 3) L) (h4 : vp_in (v3 + 4) L) {A : SA} {B : SB} {H : Heap} {locs : List Loc} {ls : Array Slot} (U : UU g A B s.heap H locs) (hI : Inv A B) (hl : lv_has ls 4 [(0, .ref b), (1, .ref (g.2.1 0)), (2, .ref (g.2.1 5)), (3, .int v3)])
    (hn : ∀ (A : SA) (B : SB) (H : Heap) (locs : List Loc), UU g A B s.heap H locs → Inv A B → W p l e room_1 s m #[Value.ref b] below meth c H locs 600000 7302250 (lw_Z below #[Value.ref b] s) (F0 m 1143 ls [])) : W p l e room_1 s m #[Value.ref b] below meth c H locs 600000 7302250 (lw_Z below #[Value.ref b] s) (F0 m 766 ls []) := by
  obtain ⟨hx, hb, hr, hml, hown, hts0, hX, hbl, hlocks, hgv⟩ := C0
  have hts : ∀ w ∈ wsL_law, w.before #[Value.ref b] s = true := fun w h => hts0 w (wsL_law_in w h)
  have S : CallFix p m c cL_law 4 s #[Value.ref b] wsL_law RL := ⟨hx, hb, hml, hown, hts⟩
  have hbA : ¬ FA g b := fun h => Nat.not_le.mpr hbl (hF b h)
  obtain ⟨x1, ex1⟩ : ∃ x, x = xs (v3 + 1).toNatClampNeg := ⟨_, rfl⟩
  obtain ⟨x2, ex2⟩ : ∃ x, x = xs (v3 + 2).toNatClampNeg := ⟨_, rfl⟩
  obtain ⟨x3, ex3⟩ : ∃ x, x = xs (v3 + 3).toNatClampNeg := ⟨_, rfl⟩
  obtain ⟨x4, ex4⟩ : ∃ x, x = xs (v3 + 4).toNatClampNeg := ⟨_, rfl⟩
  refine lv_aload_n hx hb dL_law_766 rfl (lv_at hl 1 rfl) ?_
  refine lv_aload_n hx hb dL_law_767 rfl (lv_at hl 0 rfl) ?_
  refine lv_iload_n hx hb dL_law_768 rfl (lv_at hl 3 rfl) ?_
  refine lv_iconst (v := 1) hx hb dL_law_769 (by decide) ?_
  refine lv_iadd hx hb dL_law_770 ?_
  refine va_sld hx hb hX hbl hbA U.2 h1 dL_law_771 ?_
  rw [← ex1]
  refine lv_aload_n hx hb dL_law_772 rfl (lv_at hl 0 rfl) ?_
  refine lv_iload_n hx hb dL_law_773 rfl (lv_at hl 3 rfl) ?_
  refine lv_iconst (v := 2) hx hb dL_law_774 (by decide) ?_
  refine lv_iadd hx hb dL_law_775 ?_
  refine va_sld hx hb hX hbl hbA U.2 h2 dL_law_776 ?_
  rw [← ex2]
  refine lv_aload_n hx hb dL_law_777 rfl (lv_at hl 0 rfl) ?_
  refine lv_iload_n hx hb dL_law_778 rfl (lv_at hl 3 rfl) ?_
  refine lv_iconst (v := 3) hx hb dL_law_779 (by decide) ?_
  refine lv_iadd hx hb dL_law_780 ?_
  refine va_sld hx hb hX hbl hbA U.2 h3 dL_law_781 ?_
  rw [← ex3]
  refine lv_aload_n hx hb dL_law_782 rfl (lv_at hl 0 rfl) ?_
  refine lv_iload_n hx hb dL_law_783 rfl (lv_at hl 3 rfl) ?_
  refine lv_iconst (v := 4) hx hb dL_law_784 (by decide) ?_
  refine lv_iadd hx hb dL_law_785 ?_
  refine va_sld hx hb hX hbl hbA U.2 h4 dL_law_786 ?_
  rw [← ex4]
  have hw : wp_X5_bracket x1 x2 x3 x4 A B (fun r A1 B1 => wp_X6_bracket x1 x2 x3 x4 A1 B1 (fun r2 A2 B2 => r = r2 ∧ Inv A2 B2)) := st_bracket hI (K := (fun r r2 A2 B2 => r = r2 ∧ Inv A2 B2)) (fun _ _ _ h => ⟨rfl, h⟩)
  refine u_ci (u_rV (As := [.int x1, .int x2, .int x3, .int x4]) (rest := []) (C := RX5) S K U 0 4 (by decide) rfl rfl (c_X5_bracket hw) (cwV 4 hts gL_law_X5_bracket rfl rfl rfl (by decide +kernel) ⟨Nat.le_of_ble_eq_true rfl, Nat.le_of_ble_eq_true rfl⟩) rfl hl.1 rfl (Nat.le_of_ble_eq_true rfl) dL_law_787 ⟨Nat.le_refl _, Nat.le_refl _⟩) U (fun r1 A1 B1 H locs U hw => ?_)
  refine lv_aload_n hx hb dL_law_790 rfl (lv_at hl 2 rfl) ?_
  refine lv_aload_n hx hb dL_law_791 rfl (lv_at hl 0 rfl) ?_
  refine lv_iload_n hx hb dL_law_792 rfl (lv_at hl 3 rfl) ?_
  refine lv_iconst (v := 1) hx hb dL_law_793 (by decide) ?_
  refine lv_iadd hx hb dL_law_794 ?_
  refine va_sld hx hb hX hbl hbA U.2 h1 dL_law_795 ?_
  rw [← ex1]
  refine lv_aload_n hx hb dL_law_796 rfl (lv_at hl 0 rfl) ?_
  refine lv_iload_n hx hb dL_law_797 rfl (lv_at hl 3 rfl) ?_
  refine lv_iconst (v := 2) hx hb dL_law_798 (by decide) ?_
  refine lv_iadd hx hb dL_law_799 ?_
  refine va_sld hx hb hX hbl hbA U.2 h2 dL_law_800 ?_
  rw [← ex2]
  refine lv_aload_n hx hb dL_law_801 rfl (lv_at hl 0 rfl) ?_
  refine lv_iload_n hx hb dL_law_802 rfl (lv_at hl 3 rfl) ?_
  refine lv_iconst (v := 3) hx hb dL_law_803 (by decide) ?_
  refine lv_iadd hx hb dL_law_804 ?_
  refine va_sld hx hb hX hbl hbA U.2 h3 dL_law_805 ?_
  rw [← ex3]
  refine lv_aload_n hx hb dL_law_806 rfl (lv_at hl 0 rfl) ?_
  refine lv_iload_n hx hb dL_law_807 rfl (lv_at hl 3 rfl) ?_
  refine lv_iconst (v := 4) hx hb dL_law_808 (by decide) ?_
  refine lv_iadd hx hb dL_law_809 ?_
  refine va_sld hx hb hX hbl hbA U.2 h4 dL_law_810 ?_
  rw [← ex4]
  refine u_ci (u_rV (As := [.int x1, .int x2, .int x3, .int x4]) (rest := [.int r1]) (C := RX6) S K U 5 5 (by decide) rfl rfl (c_X6_bracket hw) (cwV 4 hts gL_law_X6_bracket rfl rfl rfl (by decide +kernel) ⟨Nat.le_of_ble_eq_true rfl, Nat.le_of_ble_eq_true rfl⟩) rfl hl.1 rfl (Nat.le_of_ble_eq_true rfl) dL_law_811 ⟨Nat.le_refl _, Nat.le_refl _⟩) U (fun r2 A2 B2 H locs U hw => ?_)
  refine lv_icmp_eq (tgt := 1143) hx hb dL_law_814 (by decide) (fun c9 => ?_) (fun c9 => absurd hw.1 c9)
  exact hn _ _ _ _ U hw.2
set_option maxHeartbeats 4000000 in
set_option maxRecDepth 100000 in
theorem law_result {p : Program} {l : Launch} {e : Env} {s : State} {m : MethodId} {below : List Frame} {meth : Method} {c : Code} {g : uG} {b L : Nat} {xs : Nat → Int32} (C0 : lw_At p s m meth c b L xs) (K : UK g s) (hF : ∀ q, FA g q → s.heap.size ≤ q) {v3 : Int32} (h1 : vp_in (v3 + 1) L) (h2 : vp_in (v3 + 2) L) (h3 : vp_in (v3 + 3) L) (h4 : vp_in (v3 + 4) L) {A : SA} {B : SB} {H : Heap} {locs : List Loc} {ls : Array Slot} (U : UU g A B s.heap H locs) (hI : Inv A B) (hl : lv_has ls 4 [(0, .ref b), (1, .ref (g.2.1 0)), (2, .ref (g.2.1 5)), (3, .int v3)])
    (hn : ∀ (A : SA) (B : SB) (H : Heap) (locs : List Loc), UU g A B s.heap H locs → Inv A B → W p l e room_1 s m #[Value.ref b] below meth c H locs 600000 7302250 (lw_Z below #[Value.ref b] s) (F0 m 1143 ls [])) : W p l e room_1 s m #[Value.ref b] below meth c H locs 600000 7302250 (lw_Z below #[Value.ref b] s) (F0 m 819 ls []) := by
  obtain ⟨hx, hb, hr, hml, hown, hts0, hX, hbl, hlocks, hgv⟩ := C0
  have hts : ∀ w ∈ wsL_law, w.before #[Value.ref b] s = true := fun w h => hts0 w (wsL_law_in w h)
  have S : CallFix p m c cL_law 4 s #[Value.ref b] wsL_law RL := ⟨hx, hb, hml, hown, hts⟩
  have hbA : ¬ FA g b := fun h => Nat.not_le.mpr hbl (hF b h)
  obtain ⟨x1, ex1⟩ : ∃ x, x = xs (v3 + 1).toNatClampNeg := ⟨_, rfl⟩
  obtain ⟨x2, ex2⟩ : ∃ x, x = xs (v3 + 2).toNatClampNeg := ⟨_, rfl⟩
  obtain ⟨x3, ex3⟩ : ∃ x, x = xs (v3 + 3).toNatClampNeg := ⟨_, rfl⟩
  refine lv_aload_n hx hb dL_law_819 rfl (lv_at hl 1 rfl) ?_
  refine lv_aload_n hx hb dL_law_820 rfl (lv_at hl 0 rfl) ?_
  refine lv_iload_n hx hb dL_law_821 rfl (lv_at hl 3 rfl) ?_
  refine lv_iconst (v := 1) hx hb dL_law_822 (by decide) ?_
  refine lv_iadd hx hb dL_law_823 ?_
  refine va_sld hx hb hX hbl hbA U.2 h1 dL_law_824 ?_
  rw [← ex1]
  refine lv_aload_n hx hb dL_law_825 rfl (lv_at hl 0 rfl) ?_
  refine lv_iload_n hx hb dL_law_826 rfl (lv_at hl 3 rfl) ?_
  refine lv_iconst (v := 2) hx hb dL_law_827 (by decide) ?_
  refine lv_iadd hx hb dL_law_828 ?_
  refine va_sld hx hb hX hbl hbA U.2 h2 dL_law_829 ?_
  rw [← ex2]
  refine lv_aload_n hx hb dL_law_830 rfl (lv_at hl 0 rfl) ?_
  refine lv_iload_n hx hb dL_law_831 rfl (lv_at hl 3 rfl) ?_
  refine lv_iconst (v := 3) hx hb dL_law_832 (by decide) ?_
  refine lv_iadd hx hb dL_law_833 ?_
  refine va_sld hx hb hX hbl hbA U.2 h3 dL_law_834 ?_
  rw [← ex3]
  refine lv_if_eq (tgt := 842) hx hb dL_law_835 (by decide) (fun c1 => ?_) (fun c1 => ?_)
  · skip
    refine lv_iconst (v := 0) hx hb dL_law_842 (by decide) ?_
    have hw : wp_X5_result x1 x2 (0 : Int32) A B (fun r A1 B1 => wp_X6_result x1 x2 (0 : Int32) A1 B1 (fun r2 A2 B2 => r = r2 ∧ Inv A2 B2)) := st_result hI (Or.inl rfl) (K := (fun r r2 A2 B2 => r = r2 ∧ Inv A2 B2)) (fun _ _ _ h => ⟨rfl, h⟩)
    refine u_ci (u_rV (As := [.int x1, .int x2, .int (0 : Int32)]) (rest := []) (C := RX5) S K U 0 4 (by decide) rfl rfl (c_X5_result hw) (cwV 3 hts gL_law_X5_result rfl rfl rfl (by decide +kernel) ⟨Nat.le_of_ble_eq_true rfl, Nat.le_of_ble_eq_true rfl⟩) rfl hl.1 rfl (Nat.le_of_ble_eq_true rfl) dL_law_843 ⟨Nat.le_refl _, Nat.le_refl _⟩) U (fun r1 A1 B1 H locs U hw => ?_)
    refine lv_aload_n hx hb dL_law_846 rfl (lv_at hl 2 rfl) ?_
    refine lv_aload_n hx hb dL_law_847 rfl (lv_at hl 0 rfl) ?_
    refine lv_iload_n hx hb dL_law_848 rfl (lv_at hl 3 rfl) ?_
    refine lv_iconst (v := 1) hx hb dL_law_849 (by decide) ?_
    refine lv_iadd hx hb dL_law_850 ?_
    refine va_sld hx hb hX hbl hbA U.2 h1 dL_law_851 ?_
    rw [← ex1]
    refine lv_aload_n hx hb dL_law_852 rfl (lv_at hl 0 rfl) ?_
    refine lv_iload_n hx hb dL_law_853 rfl (lv_at hl 3 rfl) ?_
    refine lv_iconst (v := 2) hx hb dL_law_854 (by decide) ?_
    refine lv_iadd hx hb dL_law_855 ?_
    refine va_sld hx hb hX hbl hbA U.2 h2 dL_law_856 ?_
    rw [← ex2]
    refine lv_aload_n hx hb dL_law_857 rfl (lv_at hl 0 rfl) ?_
    refine lv_iload_n hx hb dL_law_858 rfl (lv_at hl 3 rfl) ?_
    refine lv_iconst (v := 3) hx hb dL_law_859 (by decide) ?_
    refine lv_iadd hx hb dL_law_860 ?_
    refine va_sld hx hb hX hbl hbA U.2 h3 dL_law_861 ?_
    rw [← ex3]
    refine lv_if_eq (tgt := 869) hx hb dL_law_862 (by decide) (fun c2 => ?_) (fun c2 => absurd c1 c2)
    refine lv_iconst (v := 0) hx hb dL_law_869 (by decide) ?_
    refine u_ci (u_rV (As := [.int x1, .int x2, .int (0 : Int32)]) (rest := [.int r1]) (C := RX6) S K U 5 5 (by decide) rfl rfl (c_X6_result hw) (cwV 3 hts gL_law_X6_result rfl rfl rfl (by decide +kernel) ⟨Nat.le_of_ble_eq_true rfl, Nat.le_of_ble_eq_true rfl⟩) rfl hl.1 rfl (Nat.le_of_ble_eq_true rfl) dL_law_870 ⟨Nat.le_refl _, Nat.le_refl _⟩) U (fun r2 A2 B2 H locs U hw => ?_)
    refine lv_icmp_eq (tgt := 1143) hx hb dL_law_873 (by decide) (fun c9 => ?_) (fun c9 => absurd hw.1 c9)
    exact hn _ _ _ _ U hw.2
  · skip
    refine lv_iconst (v := 1) hx hb dL_law_838 (by decide) ?_
    refine lv_goto (tgt := 843) hx hb dL_law_839 (by decide) ?_
    have hw : wp_X5_result x1 x2 (1 : Int32) A B (fun r A1 B1 => wp_X6_result x1 x2 (1 : Int32) A1 B1 (fun r2 A2 B2 => r = r2 ∧ Inv A2 B2)) := st_result hI (Or.inr rfl) (K := (fun r r2 A2 B2 => r = r2 ∧ Inv A2 B2)) (fun _ _ _ h => ⟨rfl, h⟩)
    refine u_ci (u_rV (As := [.int x1, .int x2, .int (1 : Int32)]) (rest := []) (C := RX5) S K U 0 4 (by decide) rfl rfl (c_X5_result hw) (cwV 3 hts gL_law_X5_result rfl rfl rfl (by decide +kernel) ⟨Nat.le_of_ble_eq_true rfl, Nat.le_of_ble_eq_true rfl⟩) rfl hl.1 rfl (Nat.le_of_ble_eq_true rfl) dL_law_843 ⟨Nat.le_refl _, Nat.le_refl _⟩) U (fun r1 A1 B1 H locs U hw => ?_)
    refine lv_aload_n hx hb dL_law_846 rfl (lv_at hl 2 rfl) ?_
    refine lv_aload_n hx hb dL_law_847 rfl (lv_at hl 0 rfl) ?_
    refine lv_iload_n hx hb dL_law_848 rfl (lv_at hl 3 rfl) ?_
    refine lv_iconst (v := 1) hx hb dL_law_849 (by decide) ?_
    refine lv_iadd hx hb dL_law_850 ?_
    refine va_sld hx hb hX hbl hbA U.2 h1 dL_law_851 ?_
    rw [← ex1]
    refine lv_aload_n hx hb dL_law_852 rfl (lv_at hl 0 rfl) ?_
    refine lv_iload_n hx hb dL_law_853 rfl (lv_at hl 3 rfl) ?_
    refine lv_iconst (v := 2) hx hb dL_law_854 (by decide) ?_
    refine lv_iadd hx hb dL_law_855 ?_
    refine va_sld hx hb hX hbl hbA U.2 h2 dL_law_856 ?_
    rw [← ex2]
    refine lv_aload_n hx hb dL_law_857 rfl (lv_at hl 0 rfl) ?_
    refine lv_iload_n hx hb dL_law_858 rfl (lv_at hl 3 rfl) ?_
    refine lv_iconst (v := 3) hx hb dL_law_859 (by decide) ?_
    refine lv_iadd hx hb dL_law_860 ?_
    refine va_sld hx hb hX hbl hbA U.2 h3 dL_law_861 ?_
    rw [← ex3]
    refine lv_if_eq (tgt := 869) hx hb dL_law_862 (by decide) (fun c2 => absurd c2 c1) (fun c2 => ?_)
    refine lv_iconst (v := 1) hx hb dL_law_865 (by decide) ?_
    refine lv_goto (tgt := 870) hx hb dL_law_866 (by decide) ?_
    refine u_ci (u_rV (As := [.int x1, .int x2, .int (1 : Int32)]) (rest := [.int r1]) (C := RX6) S K U 5 5 (by decide) rfl rfl (c_X6_result hw) (cwV 3 hts gL_law_X6_result rfl rfl rfl (by decide +kernel) ⟨Nat.le_of_ble_eq_true rfl, Nat.le_of_ble_eq_true rfl⟩) rfl hl.1 rfl (Nat.le_of_ble_eq_true rfl) dL_law_870 ⟨Nat.le_refl _, Nat.le_refl _⟩) U (fun r2 A2 B2 H locs U hw => ?_)
    refine lv_icmp_eq (tgt := 1143) hx hb dL_law_873 (by decide) (fun c9 => ?_) (fun c9 => absurd hw.1 c9)
    exact hn _ _ _ _ U hw.2
