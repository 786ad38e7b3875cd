/-! the law, case by case -/
set_option maxHeartbeats 4000000 in
set_option maxRecDepth 100000 in
theorem law_halve {p : Program} {l : Launch} {e : Env} {s : State} {m : MethodId} {below : List Frame} {meth : Method} {c : Code} {g : uG} {b L : Nat} {xs : Nat → Int32} (C0 : lw_At p s m meth c b L xs) (K : UK g s) (hF : ∀ q, FA g q → s.heap.size ≤ q) {v3 : Int32} (h1 : vp_in (v3 + 1) L) (h2 : vp_in (v3 + 2) L) (h3 : vp_in (v3 + 3) L) (h4 : vp_in (v3 + 4) L) {A : SA} {B : SB} {H : Heap} {locs : List Loc} {ls : Array Slot} (U : UU g A B s.heap H locs) (hI : Inv A B) (hl : lv_has ls 4 [(0, .ref b), (1, .ref (g.2.1 0)), (2, .ref (g.2.1 5)), (3, .int v3)])
    (hn : ∀ (A : SA) (B : SB) (H : Heap) (locs : List Loc), UU g A B s.heap H locs → Inv A B → W p l e room_1 s m #[Value.ref b] below meth c H locs 600000 7302250 (lw_Z below #[Value.ref b] s) (F0 m 1143 ls [])) : W p l e room_1 s m #[Value.ref b] below meth c H locs 600000 7302250 (lw_Z below #[Value.ref b] s) (F0 m 878 ls []) := by
  obtain ⟨hx, hb, hr, hml, hown, hts0, hX, hbl, hlocks, hgv⟩ := C0
  have hts : ∀ w ∈ wsL_law, w.before #[Value.ref b] s = true := fun w h => hts0 w (wsL_law_in w h)
  have S : CallFix p m c cL_law 4 s #[Value.ref b] wsL_law RL := ⟨hx, hb, hml, hown, hts⟩
  have hbA : ¬ FA g b := fun h => Nat.not_le.mpr hbl (hF b h)
  refine lv_aload_n hx hb dL_law_878 rfl (lv_at hl 1 rfl) ?_
  have hw : wp_X5_halve  A B (fun r A1 => wp_X6_halve  A1 B (fun r2 A2 => r = r2 ∧ Inv A2 B)) := st_halve hI (K := (fun r r2 A2 => r = r2 ∧ Inv A2 B)) (fun _ _ h => ⟨rfl, h⟩)
  refine u_ci (u_rV (As := []) (rest := []) (C := RX5) S K U 0 4 (by decide) rfl rfl (c_X5_halve hw) (cwV 0 hts gL_law_X5_halve rfl rfl rfl (by decide +kernel) ⟨Nat.le_of_ble_eq_true rfl, Nat.le_of_ble_eq_true rfl⟩) rfl hl.1 rfl (Nat.le_of_ble_eq_true rfl) dL_law_879 ⟨Nat.le_refl _, Nat.le_refl _⟩) U (fun r1 A1 B1 H locs U9 hw => ?_)
  obtain ⟨eB, hw⟩ := hw
  rw [eB] at U9
  have U := U9
  refine lv_aload_n hx hb dL_law_882 rfl (lv_at hl 2 rfl) ?_
  refine u_ci (u_rV (As := []) (rest := [.int r1]) (C := RX6) S K U 5 5 (by decide) rfl rfl (c_X6_halve hw) (cwV 0 hts gL_law_X6_halve rfl rfl rfl (by decide +kernel) ⟨Nat.le_of_ble_eq_true rfl, Nat.le_of_ble_eq_true rfl⟩) rfl hl.1 rfl (Nat.le_of_ble_eq_true rfl) dL_law_883 ⟨Nat.le_refl _, Nat.le_refl _⟩) U (fun r2 A2 B2 H locs U9 hw => ?_)
  obtain ⟨eB, hw⟩ := hw
  rw [eB] at U9
  have U := U9
  refine lv_icmp_eq (tgt := 1143) hx hb dL_law_886 (by decide) (fun c9 => ?_) (fun c9 => absurd hw.1 c9)
  exact hn _ _ _ _ U hw.2
set_option maxHeartbeats 4000000 in
set_option maxRecDepth 100000 in
theorem law_round {p : Program} {l : Launch} {e : Env} {s : State} {m : MethodId} {below : List Frame} {meth : Method} {c : Code} {g : uG} {b L : Nat} {xs : Nat → Int32} (C0 : lw_At p s m meth c b L xs) (K : UK g s) (hF : ∀ q, FA g q → s.heap.size ≤ q) {v3 : Int32} (h1 : vp_in (v3 + 1) L) (h2 : vp_in (v3 + 2) L) (h3 : vp_in (v3 + 3) L) (h4 : vp_in (v3 + 4) L) {A : SA} {B : SB} {H : Heap} {locs : List Loc} {ls : Array Slot} (U : UU g A B s.heap H locs) (hI : Inv A B) (hl : lv_has ls 4 [(0, .ref b), (1, .ref (g.2.1 0)), (2, .ref (g.2.1 5)), (3, .int v3)])
    (hn : ∀ (A : SA) (B : SB) (H : Heap) (locs : List Loc), UU g A B s.heap H locs → Inv A B → W p l e room_1 s m #[Value.ref b] below meth c H locs 600000 7302250 (lw_Z below #[Value.ref b] s) (F0 m 1143 ls [])) : W p l e room_1 s m #[Value.ref b] below meth c H locs 600000 7302250 (lw_Z below #[Value.ref b] s) (F0 m 891 ls []) := by
  obtain ⟨hx, hb, hr, hml, hown, hts0, hX, hbl, hlocks, hgv⟩ := C0
  have hts : ∀ w ∈ wsL_law, w.before #[Value.ref b] s = true := fun w h => hts0 w (wsL_law_in w h)
  have S : CallFix p m c cL_law 4 s #[Value.ref b] wsL_law RL := ⟨hx, hb, hml, hown, hts⟩
  have hbA : ¬ FA g b := fun h => Nat.not_le.mpr hbl (hF b h)
  obtain ⟨x1, ex1⟩ : ∃ x, x = xs (v3 + 1).toNatClampNeg := ⟨_, rfl⟩
  refine lv_aload_n hx hb dL_law_891 rfl (lv_at hl 1 rfl) ?_
  refine lv_aload_n hx hb dL_law_892 rfl (lv_at hl 0 rfl) ?_
  refine lv_iload_n hx hb dL_law_893 rfl (lv_at hl 3 rfl) ?_
  refine lv_iconst (v := 1) hx hb dL_law_894 (by decide) ?_
  refine lv_iadd hx hb dL_law_895 ?_
  refine va_sld hx hb hX hbl hbA U.2 h1 dL_law_896 ?_
  rw [← ex1]
  have hw : wp_X5_round x1 A B (fun r => wp_X6_round x1 A B (fun r2 => r = r2)) := st_round hI (K := (fun r r2 => r = r2)) (fun _ => rfl)
  refine u_ci (u_rV (As := [.int x1]) (rest := []) (C := RX5) S K U 0 4 (by decide) rfl rfl (c_X5_round hw) (cwV 1 hts gL_law_X5_round rfl rfl rfl (by decide +kernel) ⟨Nat.le_of_ble_eq_true rfl, Nat.le_of_ble_eq_true rfl⟩) rfl hl.1 rfl (Nat.le_of_ble_eq_true rfl) dL_law_897 ⟨Nat.le_refl _, Nat.le_refl _⟩) U (fun r1 A1 B1 H locs U9 hw => ?_)
  obtain ⟨eA, eB, hw⟩ := hw
  rw [eA, eB] at U9
  have U := U9
  refine lv_aload_n hx hb dL_law_900 rfl (lv_at hl 2 rfl) ?_
  refine lv_aload_n hx hb dL_law_901 rfl (lv_at hl 0 rfl) ?_
  refine lv_iload_n hx hb dL_law_902 rfl (lv_at hl 3 rfl) ?_
  refine lv_iconst (v := 1) hx hb dL_law_903 (by decide) ?_
  refine lv_iadd hx hb dL_law_904 ?_
  refine va_sld hx hb hX hbl hbA U.2 h1 dL_law_905 ?_
  rw [← ex1]
  refine u_ci (u_rV (As := [.int x1]) (rest := [.int r1]) (C := RX6) S K U 5 5 (by decide) rfl rfl (c_X6_round hw) (cwV 1 hts gL_law_X6_round rfl rfl rfl (by decide +kernel) ⟨Nat.le_of_ble_eq_true rfl, Nat.le_of_ble_eq_true rfl⟩) rfl hl.1 rfl (Nat.le_of_ble_eq_true rfl) dL_law_906 ⟨Nat.le_refl _, Nat.le_refl _⟩) U (fun r2 A2 B2 H locs U9 hw => ?_)
  obtain ⟨eA, eB, hw⟩ := hw
  rw [eA, eB] at U9
  have U := U9
  refine lv_icmp_eq (tgt := 1143) hx hb dL_law_909 (by decide) (fun c9 => ?_) (fun c9 => absurd hw c9)
  exact hn _ _ _ _ U hI
set_option maxHeartbeats 4000000 in
set_option maxRecDepth 100000 in
theorem law_cost {p : Program} {l : Launch} {e : Env} {s : State} {m : MethodId} {below : List Frame} {meth : Method} {c : Code} {g : uG} {b L : Nat} {xs : Nat → Int32} (C0 : lw_At p s m meth c b L xs) (K : UK g s) (hF : ∀ q, FA g q → s.heap.size ≤ q) {v3 : Int32} (h1 : vp_in (v3 + 1) L) (h2 : vp_in (v3 + 2) L) (h3 : vp_in (v3 + 3) L) (h4 : vp_in (v3 + 4) L) {A : SA} {B : SB} {H : Heap} {locs : List Loc} {ls : Array Slot} (U : UU g A B s.heap H locs) (hI : Inv A B) (hl : lv_has ls 4 [(0, .ref b), (1, .ref (g.2.1 0)), (2, .ref (g.2.1 5)), (3, .int v3)])
    (hn : ∀ (A : SA) (B : SB) (H : Heap) (locs : List Loc), UU g A B s.heap H locs → Inv A B → W p l e room_1 s m #[Value.ref b] below meth c H locs 600000 7302250 (lw_Z below #[Value.ref b] s) (F0 m 1143 ls [])) : W p l e room_1 s m #[Value.ref b] below meth c H locs 600000 7302250 (lw_Z below #[Value.ref b] s) (F0 m 914 ls []) := by
  obtain ⟨hx, hb, hr, hml, hown, hts0, hX, hbl, hlocks, hgv⟩ := C0
  have hts : ∀ w ∈ wsL_law, w.before #[Value.ref b] s = true := fun w h => hts0 w (wsL_law_in w h)
  have S : CallFix p m c cL_law 4 s #[Value.ref b] wsL_law RL := ⟨hx, hb, hml, hown, hts⟩
  have hbA : ¬ FA g b := fun h => Nat.not_le.mpr hbl (hF b h)
  refine lv_aload_n hx hb dL_law_914 rfl (lv_at hl 1 rfl) ?_
  have hw : wp_X5_cost  A B (fun r => wp_X6_cost  A B (fun r2 => r = r2)) := st_cost hI (K := (fun r r2 => r = r2)) (fun _ => rfl)
  refine u_cl (u_rV (As := []) (rest := []) (C := RX5) S K U 0 4 (by decide) rfl rfl (c_X5_cost hw) (cwV 0 hts gL_law_X5_cost rfl rfl rfl (by decide +kernel) ⟨Nat.le_of_ble_eq_true rfl, Nat.le_of_ble_eq_true rfl⟩) rfl hl.1 rfl (Nat.le_of_ble_eq_true rfl) dL_law_915 ⟨Nat.le_refl _, Nat.le_refl _⟩) U (fun r1 A1 B1 H locs U9 hw => ?_)
  obtain ⟨eA, eB, hw⟩ := hw
  rw [eA, eB] at U9
  have U := U9
  refine lv_aload_n hx hb dL_law_918 rfl (lv_at hl 2 rfl) ?_
  refine u_cl (u_rV (As := []) (rest := [.long r1]) (C := RX6) S K U 5 5 (by decide) rfl rfl (c_X6_cost hw) (cwV 0 hts gL_law_X6_cost rfl rfl rfl (by decide +kernel) ⟨Nat.le_of_ble_eq_true rfl, Nat.le_of_ble_eq_true rfl⟩) rfl hl.1 rfl (Nat.le_of_ble_eq_true rfl) dL_law_919 ⟨Nat.le_refl _, Nat.le_refl _⟩) U (fun r2 A2 B2 H locs U9 hw => ?_)
  obtain ⟨eA, eB, hw⟩ := hw
  rw [eA, eB] at U9
  have U := U9
  refine u_lc_eq (tgt := 1143) hx hb dL_law_922 dL_law_923 (by decide) (fun c9 => ?_) (fun c9 => absurd hw c9)
  exact hn _ _ _ _ U hI
set_option maxHeartbeats 4000000 in
set_option maxRecDepth 100000 in
theorem law_plan {p : Program} {l : Launch} {e : Env} {s : State} {m : MethodId} {below : List Frame} {meth : Method} {c : Code} {g : uG} {b L : Nat} {xs : Nat → Int32} (C0 : lw_At p s m meth c b L xs) (K : UK g s) (hF : ∀ q, FA g q → s.heap.size ≤ q) {v3 : Int32} (h1 : vp_in (v3 + 1) L) (h2 : vp_in (v3 + 2) L) (h3 : vp_in (v3 + 3) L) (h4 : vp_in (v3 + 4) L) {A : SA} {B : SB} {H : Heap} {locs : List Loc} {ls : Array Slot} (U : UU g A B s.heap H locs) (hI : Inv A B) (hl : lv_has ls 4 [(0, .ref b), (1, .ref (g.2.1 0)), (2, .ref (g.2.1 5)), (3, .int v3)])
    (hn : ∀ (A : SA) (B : SB) (H : Heap) (locs : List Loc), UU g A B s.heap H locs → Inv A B → W p l e room_1 s m #[Value.ref b] below meth c H locs 600000 7302250 (lw_Z below #[Value.ref b] s) (F0 m 1143 ls [])) : W p l e room_1 s m #[Value.ref b] below meth c H locs 600000 7302250 (lw_Z below #[Value.ref b] s) (F0 m 928 ls []) := by
  obtain ⟨hx, hb, hr, hml, hown, hts0, hX, hbl, hlocks, hgv⟩ := C0
  have hts : ∀ w ∈ wsL_law, w.before #[Value.ref b] s = true := fun w h => hts0 w (wsL_law_in w h)
  have S : CallFix p m c cL_law 4 s #[Value.ref b] wsL_law RL := ⟨hx, hb, hml, hown, hts⟩
  have hbA : ¬ FA g b := fun h => Nat.not_le.mpr hbl (hF b h)
  obtain ⟨x1, ex1⟩ : ∃ x, x = xs (v3 + 1).toNatClampNeg := ⟨_, rfl⟩
  obtain ⟨x2, ex2⟩ : ∃ x, x = xs (v3 + 2).toNatClampNeg := ⟨_, rfl⟩
  obtain ⟨x3, ex3⟩ : ∃ x, x = xs (v3 + 3).toNatClampNeg := ⟨_, rfl⟩
  obtain ⟨x4, ex4⟩ : ∃ x, x = xs (v3 + 4).toNatClampNeg := ⟨_, rfl⟩
  refine lv_aload_n hx hb dL_law_928 rfl (lv_at hl 1 rfl) ?_
  refine lv_aload_n hx hb dL_law_929 rfl (lv_at hl 0 rfl) ?_
  refine lv_iload_n hx hb dL_law_930 rfl (lv_at hl 3 rfl) ?_
  refine lv_iconst (v := 1) hx hb dL_law_931 (by decide) ?_
  refine lv_iadd hx hb dL_law_932 ?_
  refine va_sld hx hb hX hbl hbA U.2 h1 dL_law_933 ?_
  rw [← ex1]
  refine lv_aload_n hx hb dL_law_934 rfl (lv_at hl 0 rfl) ?_
  refine lv_iload_n hx hb dL_law_935 rfl (lv_at hl 3 rfl) ?_
  refine lv_iconst (v := 2) hx hb dL_law_936 (by decide) ?_
  refine lv_iadd hx hb dL_law_937 ?_
  refine va_sld hx hb hX hbl hbA U.2 h2 dL_law_938 ?_
  rw [← ex2]
  refine lv_aload_n hx hb dL_law_939 rfl (lv_at hl 0 rfl) ?_
  refine lv_iload_n hx hb dL_law_940 rfl (lv_at hl 3 rfl) ?_
  refine lv_iconst (v := 3) hx hb dL_law_941 (by decide) ?_
  refine lv_iadd hx hb dL_law_942 ?_
  refine va_sld hx hb hX hbl hbA U.2 h3 dL_law_943 ?_
  rw [← ex3]
  refine lv_aload_n hx hb dL_law_944 rfl (lv_at hl 0 rfl) ?_
  refine lv_iload_n hx hb dL_law_945 rfl (lv_at hl 3 rfl) ?_
  refine lv_iconst (v := 4) hx hb dL_law_946 (by decide) ?_
  refine lv_iadd hx hb dL_law_947 ?_
  refine va_sld hx hb hX hbl hbA U.2 h4 dL_law_948 ?_
  rw [← ex4]
  have hw : wp_X5_plan x1 x2 x3 x4 A B (fun r => wp_X6_plan x1 x2 x3 x4 A B (fun r2 => r = r2)) := st_plan (K := (fun r r2 => r = r2)) (fun _ => rfl)
  refine u_ci (u_rV (As := [.int x1, .int x2, .int x3, .int x4]) (rest := []) (C := RX5) S K U 0 4 (by decide) rfl rfl (c_X5_plan hw) (cwV 4 hts gL_law_X5_plan rfl rfl rfl (by decide +kernel) ⟨Nat.le_of_ble_eq_true rfl, Nat.le_of_ble_eq_true rfl⟩) rfl hl.1 rfl (Nat.le_of_ble_eq_true rfl) dL_law_949 ⟨Nat.le_refl _, Nat.le_refl _⟩) U (fun r1 A1 B1 H locs U9 hw => ?_)
  obtain ⟨eA, eB, hw⟩ := hw
  rw [eA, eB] at U9
  have U := U9
  refine lv_aload_n hx hb dL_law_952 rfl (lv_at hl 2 rfl) ?_
  refine lv_aload_n hx hb dL_law_953 rfl (lv_at hl 0 rfl) ?_
  refine lv_iload_n hx hb dL_law_954 rfl (lv_at hl 3 rfl) ?_
  refine lv_iconst (v := 1) hx hb dL_law_955 (by decide) ?_
  refine lv_iadd hx hb dL_law_956 ?_
  refine va_sld hx hb hX hbl hbA U.2 h1 dL_law_957 ?_
  rw [← ex1]
  refine lv_aload_n hx hb dL_law_958 rfl (lv_at hl 0 rfl) ?_
  refine lv_iload_n hx hb dL_law_959 rfl (lv_at hl 3 rfl) ?_
  refine lv_iconst (v := 2) hx hb dL_law_960 (by decide) ?_
  refine lv_iadd hx hb dL_law_961 ?_
  refine va_sld hx hb hX hbl hbA U.2 h2 dL_law_962 ?_
  rw [← ex2]
  refine lv_aload_n hx hb dL_law_963 rfl (lv_at hl 0 rfl) ?_
  refine lv_iload_n hx hb dL_law_964 rfl (lv_at hl 3 rfl) ?_
  refine lv_iconst (v := 3) hx hb dL_law_965 (by decide) ?_
  refine lv_iadd hx hb dL_law_966 ?_
  refine va_sld hx hb hX hbl hbA U.2 h3 dL_law_967 ?_
  rw [← ex3]
  refine lv_aload_n hx hb dL_law_968 rfl (lv_at hl 0 rfl) ?_
  refine lv_iload_n hx hb dL_law_969 rfl (lv_at hl 3 rfl) ?_
  refine lv_iconst (v := 4) hx hb dL_law_970 (by decide) ?_
  refine lv_iadd hx hb dL_law_971 ?_
  refine va_sld hx hb hX hbl hbA U.2 h4 dL_law_972 ?_
  rw [← ex4]
  refine u_ci (u_rV (As := [.int x1, .int x2, .int x3, .int x4]) (rest := [.int r1]) (C := RX6) S K U 5 5 (by decide) rfl rfl (c_X6_plan hw) (cwV 4 hts gL_law_X6_plan rfl rfl rfl (by decide +kernel) ⟨Nat.le_of_ble_eq_true rfl, Nat.le_of_ble_eq_true rfl⟩) rfl hl.1 rfl (Nat.le_of_ble_eq_true rfl) dL_law_973 ⟨Nat.le_refl _, Nat.le_refl _⟩) U (fun r2 A2 B2 H locs U9 hw => ?_)
  obtain ⟨eA, eB, hw⟩ := hw
  rw [eA, eB] at U9
  have U := U9
  refine lv_icmp_eq (tgt := 1143) hx hb dL_law_976 (by decide) (fun c9 => ?_) (fun c9 => absurd hw c9)
  exact hn _ _ _ _ U hI
set_option maxHeartbeats 4000000 in
set_option maxRecDepth 100000 in
theorem law_folds {p : Program} {l : Launch} {e : Env} {s : State} {m : MethodId} {below : List Frame} {meth : Method} {c : Code} {g : uG} {b L : Nat} {xs : Nat → Int32} (C0 : lw_At p s m meth c b L xs) (K : UK g s) (hF : ∀ q, FA g q → s.heap.size ≤ q) {v3 : Int32} (h1 : vp_in (v3 + 1) L) (h2 : vp_in (v3 + 2) L) (h3 : vp_in (v3 + 3) L) (h4 : vp_in (v3 + 4) L) {A : SA} {B : SB} {H : Heap} {locs : List Loc} {ls : Array Slot} (U : UU g A B s.heap H locs) (hI : Inv A B) (hl : lv_has ls 4 [(0, .ref b), (1, .ref (g.2.1 0)), (2, .ref (g.2.1 5)), (3, .int v3)])
    (hn : ∀ (A : SA) (B : SB) (H : Heap) (locs : List Loc), UU g A B s.heap H locs → Inv A B → W p l e room_1 s m #[Value.ref b] below meth c H locs 600000 7302250 (lw_Z below #[Value.ref b] s) (F0 m 1143 ls [])) : W p l e room_1 s m #[Value.ref b] below meth c H locs 600000 7302250 (lw_Z below #[Value.ref b] s) (F0 m 981 ls []) := by
  obtain ⟨hx, hb, hr, hml, hown, hts0, hX, hbl, hlocks, hgv⟩ := C0
  have hts : ∀ w ∈ wsL_law, w.before #[Value.ref b] s = true := fun w h => hts0 w (wsL_law_in w h)
  have S : CallFix p m c cL_law 4 s #[Value.ref b] wsL_law RL := ⟨hx, hb, hml, hown, hts⟩
  have hbA : ¬ FA g b := fun h => Nat.not_le.mpr hbl (hF b h)
  obtain ⟨x1, ex1⟩ : ∃ x, x = xs (v3 + 1).toNatClampNeg := ⟨_, rfl⟩
  obtain ⟨x2, ex2⟩ : ∃ x, x = xs (v3 + 2).toNatClampNeg := ⟨_, rfl⟩
  obtain ⟨x3, ex3⟩ : ∃ x, x = xs (v3 + 3).toNatClampNeg := ⟨_, rfl⟩
  obtain ⟨x4, ex4⟩ : ∃ x, x = xs (v3 + 4).toNatClampNeg := ⟨_, rfl⟩
  refine lv_aload_n hx hb dL_law_981 rfl (lv_at hl 1 rfl) ?_
  refine lv_aload_n hx hb dL_law_982 rfl (lv_at hl 0 rfl) ?_
  refine lv_iload_n hx hb dL_law_983 rfl (lv_at hl 3 rfl) ?_
  refine lv_iconst (v := 1) hx hb dL_law_984 (by decide) ?_
  refine lv_iadd hx hb dL_law_985 ?_
  refine va_sld hx hb hX hbl hbA U.2 h1 dL_law_986 ?_
  rw [← ex1]
  refine lv_aload_n hx hb dL_law_987 rfl (lv_at hl 0 rfl) ?_
  refine lv_iload_n hx hb dL_law_988 rfl (lv_at hl 3 rfl) ?_
  refine lv_iconst (v := 2) hx hb dL_law_989 (by decide) ?_
  refine lv_iadd hx hb dL_law_990 ?_
  refine va_sld hx hb hX hbl hbA U.2 h2 dL_law_991 ?_
  rw [← ex2]
  refine lv_aload_n hx hb dL_law_992 rfl (lv_at hl 0 rfl) ?_
  refine lv_iload_n hx hb dL_law_993 rfl (lv_at hl 3 rfl) ?_
  refine lv_iconst (v := 3) hx hb dL_law_994 (by decide) ?_
  refine lv_iadd hx hb dL_law_995 ?_
  refine va_sld hx hb hX hbl hbA U.2 h3 dL_law_996 ?_
  rw [← ex3]
  refine lv_aload_n hx hb dL_law_997 rfl (lv_at hl 0 rfl) ?_
  refine lv_iload_n hx hb dL_law_998 rfl (lv_at hl 3 rfl) ?_
  refine lv_iconst (v := 4) hx hb dL_law_999 (by decide) ?_
  refine lv_iadd hx hb dL_law_1000 ?_
  refine va_sld hx hb hX hbl hbA U.2 h4 dL_law_1001 ?_
  rw [← ex4]
  have hw : wp_X5_folds x1 x2 x3 x4 A B (fun r A1 B1 => wp_X6_folds x1 x2 x3 x4 A1 B1 (fun r2 A2 => r = r2 ∧ Inv A2 B1)) := st_folds hI (K := (fun r r2 A2 B2 => r = r2 ∧ Inv A2 B2)) (fun _ _ _ h => ⟨rfl, h⟩)
  refine u_ci (u_rV (As := [.int x1, .int x2, .int x3, .int x4]) (rest := []) (C := RX5) S K U 0 4 (by decide) rfl rfl (c_X5_folds hw) (cwV 4 hts gL_law_X5_folds rfl rfl rfl (by decide +kernel) ⟨Nat.le_of_ble_eq_true rfl, Nat.le_of_ble_eq_true rfl⟩) rfl hl.1 rfl (Nat.le_of_ble_eq_true rfl) dL_law_1002 ⟨Nat.le_refl _, Nat.le_refl _⟩) U (fun r1 A1 B1 H locs U hw => ?_)
  refine lv_aload_n hx hb dL_law_1005 rfl (lv_at hl 2 rfl) ?_
  refine lv_aload_n hx hb dL_law_1006 rfl (lv_at hl 0 rfl) ?_
  refine lv_iload_n hx hb dL_law_1007 rfl (lv_at hl 3 rfl) ?_
  refine lv_iconst (v := 1) hx hb dL_law_1008 (by decide) ?_
  refine lv_iadd hx hb dL_law_1009 ?_
  refine va_sld hx hb hX hbl hbA U.2 h1 dL_law_1010 ?_
  rw [← ex1]
  refine lv_aload_n hx hb dL_law_1011 rfl (lv_at hl 0 rfl) ?_
  refine lv_iload_n hx hb dL_law_1012 rfl (lv_at hl 3 rfl) ?_
  refine lv_iconst (v := 2) hx hb dL_law_1013 (by decide) ?_
  refine lv_iadd hx hb dL_law_1014 ?_
  refine va_sld hx hb hX hbl hbA U.2 h2 dL_law_1015 ?_
  rw [← ex2]
  refine lv_aload_n hx hb dL_law_1016 rfl (lv_at hl 0 rfl) ?_
  refine lv_iload_n hx hb dL_law_1017 rfl (lv_at hl 3 rfl) ?_
  refine lv_iconst (v := 3) hx hb dL_law_1018 (by decide) ?_
  refine lv_iadd hx hb dL_law_1019 ?_
  refine va_sld hx hb hX hbl hbA U.2 h3 dL_law_1020 ?_
  rw [← ex3]
  refine lv_aload_n hx hb dL_law_1021 rfl (lv_at hl 0 rfl) ?_
  refine lv_iload_n hx hb dL_law_1022 rfl (lv_at hl 3 rfl) ?_
  refine lv_iconst (v := 4) hx hb dL_law_1023 (by decide) ?_
  refine lv_iadd hx hb dL_law_1024 ?_
  refine va_sld hx hb hX hbl hbA U.2 h4 dL_law_1025 ?_
  rw [← ex4]
  refine u_ci (u_rV (As := [.int x1, .int x2, .int x3, .int x4]) (rest := [.int r1]) (C := RX6) S K U 5 5 (by decide) rfl rfl (c_X6_folds hw) (cwV 4 hts gL_law_X6_folds rfl rfl rfl (by decide +kernel) ⟨Nat.le_of_ble_eq_true rfl, Nat.le_of_ble_eq_true rfl⟩) rfl hl.1 rfl (Nat.le_of_ble_eq_true rfl) dL_law_1026 ⟨Nat.le_refl _, Nat.le_refl _⟩) U (fun r2 A2 B2 H locs U9 hw => ?_)
  obtain ⟨eB, hw⟩ := hw
  rw [eB] at U9
  have U := U9
  refine lv_icmp_eq (tgt := 1143) hx hb dL_law_1029 (by decide) (fun c9 => ?_) (fun c9 => absurd hw.1 c9)
  exact hn _ _ _ _ U hw.2
set_option maxHeartbeats 4000000 in
set_option maxRecDepth 100000 in
theorem law_fold {p : Program} {l : Launch} {e : Env} {s : State} {m : MethodId} {below : List Frame} {meth : Method} {c : Code} {g : uG} {b L : Nat} {xs : Nat → Int32} (C0 : lw_At p s m meth c b L xs) (K : UK g s) (hF : ∀ q, FA g q → s.heap.size ≤ q) {v3 : Int32} (h1 : vp_in (v3 + 1) L) (h2 : vp_in (v3 + 2) L) (h3 : vp_in (v3 + 3) L) (h4 : vp_in (v3 + 4) L) {A : SA} {B : SB} {H : Heap} {locs : List Loc} {ls : Array Slot} (U : UU g A B s.heap H locs) (hI : Inv A B) (hl : lv_has ls 4 [(0, .ref b), (1, .ref (g.2.1 0)), (2, .ref (g.2.1 5)), (3, .int v3)])
    (hn : ∀ (A : SA) (B : SB) (H : Heap) (locs : List Loc), UU g A B s.heap H locs → Inv A B → W p l e room_1 s m #[Value.ref b] below meth c H locs 600000 7302250 (lw_Z below #[Value.ref b] s) (F0 m 1143 ls [])) : W p l e room_1 s m #[Value.ref b] below meth c H locs 600000 7302250 (lw_Z below #[Value.ref b] s) (F0 m 1034 ls []) := by
  obtain ⟨hx, hb, hr, hml, hown, hts0, hX, hbl, hlocks, hgv⟩ := C0
  have hts : ∀ w ∈ wsL_law, w.before #[Value.ref b] s = true := fun w h => hts0 w (wsL_law_in w h)
  have S : CallFix p m c cL_law 4 s #[Value.ref b] wsL_law RL := ⟨hx, hb, hml, hown, hts⟩
  have hbA : ¬ FA g b := fun h => Nat.not_le.mpr hbl (hF b h)
  obtain ⟨x1, ex1⟩ : ∃ x, x = xs (v3 + 1).toNatClampNeg := ⟨_, rfl⟩
  obtain ⟨x2, ex2⟩ : ∃ x, x = xs (v3 + 2).toNatClampNeg := ⟨_, rfl⟩
  refine lv_aload_n hx hb dL_law_1034 rfl (lv_at hl 1 rfl) ?_
  refine lv_aload_n hx hb dL_law_1035 rfl (lv_at hl 0 rfl) ?_
  refine lv_iload_n hx hb dL_law_1036 rfl (lv_at hl 3 rfl) ?_
  refine lv_iconst (v := 1) hx hb dL_law_1037 (by decide) ?_
  refine lv_iadd hx hb dL_law_1038 ?_
  refine va_sld hx hb hX hbl hbA U.2 h1 dL_law_1039 ?_
  rw [← ex1]
  refine lv_aload_n hx hb dL_law_1040 rfl (lv_at hl 0 rfl) ?_
  refine lv_iload_n hx hb dL_law_1041 rfl (lv_at hl 3 rfl) ?_
  refine lv_iconst (v := 2) hx hb dL_law_1042 (by decide) ?_
  refine lv_iadd hx hb dL_law_1043 ?_
  refine va_sld hx hb hX hbl hbA U.2 h2 dL_law_1044 ?_
  rw [← ex2]
  have hw : wp_X5_fold x1 x2 A B (fun r => wp_X6_fold x1 x2 A B (fun r2 => r = r2)) := st_fold hI (K := (fun r r2 => r = r2)) (fun _ => rfl)
  refine u_ci (u_rV (As := [.int x1, .int x2]) (rest := []) (C := RX5) S K U 0 4 (by decide) rfl rfl (c_X5_fold hw) (cwV 2 hts gL_law_X5_fold rfl rfl rfl (by decide +kernel) ⟨Nat.le_of_ble_eq_true rfl, Nat.le_of_ble_eq_true rfl⟩) rfl hl.1 rfl (Nat.le_of_ble_eq_true rfl) dL_law_1045 ⟨Nat.le_refl _, Nat.le_refl _⟩) U (fun r1 A1 B1 H locs U9 hw => ?_)
  obtain ⟨eA, eB, hw⟩ := hw
  rw [eA, eB] at U9
  have U := U9
  refine lv_aload_n hx hb dL_law_1048 rfl (lv_at hl 2 rfl) ?_
  refine lv_aload_n hx hb dL_law_1049 rfl (lv_at hl 0 rfl) ?_
  refine lv_iload_n hx hb dL_law_1050 rfl (lv_at hl 3 rfl) ?_
  refine lv_iconst (v := 1) hx hb dL_law_1051 (by decide) ?_
  refine lv_iadd hx hb dL_law_1052 ?_
  refine va_sld hx hb hX hbl hbA U.2 h1 dL_law_1053 ?_
  rw [← ex1]
  refine lv_aload_n hx hb dL_law_1054 rfl (lv_at hl 0 rfl) ?_
  refine lv_iload_n hx hb dL_law_1055 rfl (lv_at hl 3 rfl) ?_
  refine lv_iconst (v := 2) hx hb dL_law_1056 (by decide) ?_
  refine lv_iadd hx hb dL_law_1057 ?_
  refine va_sld hx hb hX hbl hbA U.2 h2 dL_law_1058 ?_
  rw [← ex2]
  refine u_ci (u_rV (As := [.int x1, .int x2]) (rest := [.int r1]) (C := RX6) S K U 5 5 (by decide) rfl rfl (c_X6_fold hw) (cwV 2 hts gL_law_X6_fold rfl rfl rfl (by decide +kernel) ⟨Nat.le_of_ble_eq_true rfl, Nat.le_of_ble_eq_true rfl⟩) rfl hl.1 rfl (Nat.le_of_ble_eq_true rfl) dL_law_1059 ⟨Nat.le_refl _, Nat.le_refl _⟩) U (fun r2 A2 B2 H locs U9 hw => ?_)
  obtain ⟨eA, eB, hw⟩ := hw
  rw [eA, eB] at U9
  have U := U9
  refine lv_icmp_eq (tgt := 1143) hx hb dL_law_1062 (by decide) (fun c9 => ?_) (fun c9 => absurd hw c9)
  exact hn _ _ _ _ U hI
set_option maxHeartbeats 4000000 in
set_option maxRecDepth 100000 in
theorem law_use {p : Program} {l : Launch} {e : Env} {s : State} {m : MethodId} {below : List Frame} {meth : Method} {c : Code} {g : uG} {b L : Nat} {xs : Nat → Int32} (C0 : lw_At p s m meth c b L xs) (K : UK g s) (hF : ∀ q, FA g q → s.heap.size ≤ q) {v3 : Int32} (h1 : vp_in (v3 + 1) L) (h2 : vp_in (v3 + 2) L) (h3 : vp_in (v3 + 3) L) (h4 : vp_in (v3 + 4) L) {A : SA} {B : SB} {H : Heap} {locs : List Loc} {ls : Array Slot} (U : UU g A B s.heap H locs) (hI : Inv A B) (hl : lv_has ls 4 [(0, .ref b), (1, .ref (g.2.1 0)), (2, .ref (g.2.1 5)), (3, .int v3)])
    (hn : ∀ (A : SA) (B : SB) (H : Heap) (locs : List Loc), UU g A B s.heap H locs → Inv A B → W p l e room_1 s m #[Value.ref b] below meth c H locs 600000 7302250 (lw_Z below #[Value.ref b] s) (F0 m 1143 ls [])) : W p l e room_1 s m #[Value.ref b] below meth c H locs 600000 7302250 (lw_Z below #[Value.ref b] s) (F0 m 1067 ls []) := by
  obtain ⟨hx, hb, hr, hml, hown, hts0, hX, hbl, hlocks, hgv⟩ := C0
  have hts : ∀ w ∈ wsL_law, w.before #[Value.ref b] s = true := fun w h => hts0 w (wsL_law_in w h)
  have S : CallFix p m c cL_law 4 s #[Value.ref b] wsL_law RL := ⟨hx, hb, hml, hown, hts⟩
  have hbA : ¬ FA g b := fun h => Nat.not_le.mpr hbl (hF b h)
  obtain ⟨x1, ex1⟩ : ∃ x, x = xs (v3 + 1).toNatClampNeg := ⟨_, rfl⟩
  obtain ⟨x2, ex2⟩ : ∃ x, x = xs (v3 + 2).toNatClampNeg := ⟨_, rfl⟩
  refine lv_aload_n hx hb dL_law_1067 rfl (lv_at hl 1 rfl) ?_
  refine lv_aload_n hx hb dL_law_1068 rfl (lv_at hl 0 rfl) ?_
  refine lv_iload_n hx hb dL_law_1069 rfl (lv_at hl 3 rfl) ?_
  refine lv_iconst (v := 1) hx hb dL_law_1070 (by decide) ?_
  refine lv_iadd hx hb dL_law_1071 ?_
  refine va_sld hx hb hX hbl hbA U.2 h1 dL_law_1072 ?_
  rw [← ex1]
  refine lv_aload_n hx hb dL_law_1073 rfl (lv_at hl 0 rfl) ?_
  refine lv_iload_n hx hb dL_law_1074 rfl (lv_at hl 3 rfl) ?_
  refine lv_iconst (v := 2) hx hb dL_law_1075 (by decide) ?_
  refine lv_iadd hx hb dL_law_1076 ?_
  refine va_sld hx hb hX hbl hbA U.2 h2 dL_law_1077 ?_
  rw [← ex2]
  have hw : wp_X5_use x1 x2 A B (fun r A1 => wp_X6_use x1 x2 A1 B (fun r2 A2 => r = r2 ∧ Inv A2 B)) := st_use hI (K := (fun r r2 A2 => r = r2 ∧ Inv A2 B)) (fun _ _ h => ⟨rfl, h⟩)
  refine u_ci (u_rV (As := [.int x1, .int x2]) (rest := []) (C := RX5) S K U 0 4 (by decide) rfl rfl (c_X5_use hw) (cwV 2 hts gL_law_X5_use rfl rfl rfl (by decide +kernel) ⟨Nat.le_of_ble_eq_true rfl, Nat.le_of_ble_eq_true rfl⟩) rfl hl.1 rfl (Nat.le_of_ble_eq_true rfl) dL_law_1078 ⟨Nat.le_refl _, Nat.le_refl _⟩) U (fun r1 A1 B1 H locs U9 hw => ?_)
  obtain ⟨eB, hw⟩ := hw
  rw [eB] at U9
  have U := U9
  refine lv_aload_n hx hb dL_law_1081 rfl (lv_at hl 2 rfl) ?_
  refine lv_aload_n hx hb dL_law_1082 rfl (lv_at hl 0 rfl) ?_
  refine lv_iload_n hx hb dL_law_1083 rfl (lv_at hl 3 rfl) ?_
  refine lv_iconst (v := 1) hx hb dL_law_1084 (by decide) ?_
  refine lv_iadd hx hb dL_law_1085 ?_
  refine va_sld hx hb hX hbl hbA U.2 h1 dL_law_1086 ?_
  rw [← ex1]
  refine lv_aload_n hx hb dL_law_1087 rfl (lv_at hl 0 rfl) ?_
  refine lv_iload_n hx hb dL_law_1088 rfl (lv_at hl 3 rfl) ?_
  refine lv_iconst (v := 2) hx hb dL_law_1089 (by decide) ?_
  refine lv_iadd hx hb dL_law_1090 ?_
  refine va_sld hx hb hX hbl hbA U.2 h2 dL_law_1091 ?_
  rw [← ex2]
  refine u_ci (u_rV (As := [.int x1, .int x2]) (rest := [.int r1]) (C := RX6) S K U 5 5 (by decide) rfl rfl (c_X6_use hw) (cwV 2 hts gL_law_X6_use rfl rfl rfl (by decide +kernel) ⟨Nat.le_of_ble_eq_true rfl, Nat.le_of_ble_eq_true rfl⟩) rfl hl.1 rfl (Nat.le_of_ble_eq_true rfl) dL_law_1092 ⟨Nat.le_refl _, Nat.le_refl _⟩) U (fun r2 A2 B2 H locs U9 hw => ?_)
  obtain ⟨eB, hw⟩ := hw
  rw [eB] at U9
  have U := U9
  refine lv_icmp_eq (tgt := 1143) hx hb dL_law_1095 (by decide) (fun c9 => ?_) (fun c9 => absurd hw.1 c9)
  exact hn _ _ _ _ U hw.2
set_option maxHeartbeats 4000000 in
set_option maxRecDepth 100000 in
theorem law_used {p : Program} {l : Launch} {e : Env} {s : State} {m : MethodId} {below : List Frame} {meth : Method} {c : Code} {g : uG} {b L : Nat} {xs : Nat → Int32} (C0 : lw_At p s m meth c b L xs) (K : UK g s) (hF : ∀ q, FA g q → s.heap.size ≤ q) {v3 : Int32} (h1 : vp_in (v3 + 1) L) (h2 : vp_in (v3 + 2) L) (h3 : vp_in (v3 + 3) L) (h4 : vp_in (v3 + 4) L) {A : SA} {B : SB} {H : Heap} {locs : List Loc} {ls : Array Slot} (U : UU g A B s.heap H locs) (hI : Inv A B) (hl : lv_has ls 4 [(0, .ref b), (1, .ref (g.2.1 0)), (2, .ref (g.2.1 5)), (3, .int v3)])
    (hn : ∀ (A : SA) (B : SB) (H : Heap) (locs : List Loc), UU g A B s.heap H locs → Inv A B → W p l e room_1 s m #[Value.ref b] below meth c H locs 600000 7302250 (lw_Z below #[Value.ref b] s) (F0 m 1143 ls [])) : W p l e room_1 s m #[Value.ref b] below meth c H locs 600000 7302250 (lw_Z below #[Value.ref b] s) (F0 m 1100 ls []) := by
  obtain ⟨hx, hb, hr, hml, hown, hts0, hX, hbl, hlocks, hgv⟩ := C0
  have hts : ∀ w ∈ wsL_law, w.before #[Value.ref b] s = true := fun w h => hts0 w (wsL_law_in w h)
  have S : CallFix p m c cL_law 4 s #[Value.ref b] wsL_law RL := ⟨hx, hb, hml, hown, hts⟩
  have hbA : ¬ FA g b := fun h => Nat.not_le.mpr hbl (hF b h)
  obtain ⟨x1, ex1⟩ : ∃ x, x = xs (v3 + 1).toNatClampNeg := ⟨_, rfl⟩
  obtain ⟨x2, ex2⟩ : ∃ x, x = xs (v3 + 2).toNatClampNeg := ⟨_, rfl⟩
  obtain ⟨x3, ex3⟩ : ∃ x, x = xs (v3 + 3).toNatClampNeg := ⟨_, rfl⟩
  refine lv_aload_n hx hb dL_law_1100 rfl (lv_at hl 1 rfl) ?_
  refine lv_aload_n hx hb dL_law_1101 rfl (lv_at hl 0 rfl) ?_
  refine lv_iload_n hx hb dL_law_1102 rfl (lv_at hl 3 rfl) ?_
  refine lv_iconst (v := 1) hx hb dL_law_1103 (by decide) ?_
  refine lv_iadd hx hb dL_law_1104 ?_
  refine va_sld hx hb hX hbl hbA U.2 h1 dL_law_1105 ?_
  rw [← ex1]
  refine lv_aload_n hx hb dL_law_1106 rfl (lv_at hl 0 rfl) ?_
  refine lv_iload_n hx hb dL_law_1107 rfl (lv_at hl 3 rfl) ?_
  refine lv_iconst (v := 2) hx hb dL_law_1108 (by decide) ?_
  refine lv_iadd hx hb dL_law_1109 ?_
  refine va_sld hx hb hX hbl hbA U.2 h2 dL_law_1110 ?_
  rw [← ex2]
  refine lv_aload_n hx hb dL_law_1111 rfl (lv_at hl 0 rfl) ?_
  refine lv_iload_n hx hb dL_law_1112 rfl (lv_at hl 3 rfl) ?_
  refine lv_iconst (v := 3) hx hb dL_law_1113 (by decide) ?_
  refine lv_iadd hx hb dL_law_1114 ?_
  refine va_sld hx hb hX hbl hbA U.2 h3 dL_law_1115 ?_
  rw [← ex3]
  have hw : wp_X5_used x1 x2 x3 A B (fun r => wp_X6_used x1 x2 x3 A B (fun r2 => r = r2)) := st_used hI (K := (fun r r2 => r = r2)) (fun _ => rfl)
  refine u_ci (u_rV (As := [.int x1, .int x2, .int x3]) (rest := []) (C := RX5) S K U 0 4 (by decide) rfl rfl (c_X5_used hw) (cwV 3 hts gL_law_X5_used rfl rfl rfl (by decide +kernel) ⟨Nat.le_of_ble_eq_true rfl, Nat.le_of_ble_eq_true rfl⟩) rfl hl.1 rfl (Nat.le_of_ble_eq_true rfl) dL_law_1116 ⟨Nat.le_refl _, Nat.le_refl _⟩) U (fun r1 A1 B1 H locs U9 hw => ?_)
  obtain ⟨eA, eB, hw⟩ := hw
  rw [eA, eB] at U9
  have U := U9
  refine lv_aload_n hx hb dL_law_1119 rfl (lv_at hl 2 rfl) ?_
  refine lv_aload_n hx hb dL_law_1120 rfl (lv_at hl 0 rfl) ?_
  refine lv_iload_n hx hb dL_law_1121 rfl (lv_at hl 3 rfl) ?_
  refine lv_iconst (v := 1) hx hb dL_law_1122 (by decide) ?_
  refine lv_iadd hx hb dL_law_1123 ?_
  refine va_sld hx hb hX hbl hbA U.2 h1 dL_law_1124 ?_
  rw [← ex1]
  refine lv_aload_n hx hb dL_law_1125 rfl (lv_at hl 0 rfl) ?_
  refine lv_iload_n hx hb dL_law_1126 rfl (lv_at hl 3 rfl) ?_
  refine lv_iconst (v := 2) hx hb dL_law_1127 (by decide) ?_
  refine lv_iadd hx hb dL_law_1128 ?_
  refine va_sld hx hb hX hbl hbA U.2 h2 dL_law_1129 ?_
  rw [← ex2]
  refine lv_aload_n hx hb dL_law_1130 rfl (lv_at hl 0 rfl) ?_
  refine lv_iload_n hx hb dL_law_1131 rfl (lv_at hl 3 rfl) ?_
  refine lv_iconst (v := 3) hx hb dL_law_1132 (by decide) ?_
  refine lv_iadd hx hb dL_law_1133 ?_
  refine va_sld hx hb hX hbl hbA U.2 h3 dL_law_1134 ?_
  rw [← ex3]
  refine u_ci (u_rV (As := [.int x1, .int x2, .int x3]) (rest := [.int r1]) (C := RX6) S K U 5 5 (by decide) rfl rfl (c_X6_used hw) (cwV 3 hts gL_law_X6_used rfl rfl rfl (by decide +kernel) ⟨Nat.le_of_ble_eq_true rfl, Nat.le_of_ble_eq_true rfl⟩) rfl hl.1 rfl (Nat.le_of_ble_eq_true rfl) dL_law_1135 ⟨Nat.le_refl _, Nat.le_refl _⟩) U (fun r2 A2 B2 H locs U9 hw => ?_)
  obtain ⟨eA, eB, hw⟩ := hw
  rw [eA, eB] at U9
  have U := U9
  refine lv_icmp_eq (tgt := 1143) hx hb dL_law_1138 (by decide) (fun c9 => ?_) (fun c9 => absurd hw c9)
  exact hn _ _ _ _ U hI
