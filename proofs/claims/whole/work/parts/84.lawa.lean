/-! the law, case by case -/
set_option maxHeartbeats 4000000 in
set_option maxRecDepth 100000 in
theorem law_name {p : Program} {l : Launch} {e : Env} {s : State} {m : MethodId} {below : List Frame} {meth : Method} {c : Code} {g : uG} {b L : Nat} {xs : Nat → Int32} (C0 : lw_At p s m meth c b L xs) (K : UK g s) (hF : ∀ q, FA g q → s.heap.size ≤ q) {v3 : Int32} (h1 : vp_in (v3 + 1) L) (h2 : vp_in (v3 + 2) L) (h3 : vp_in (v3 + 3) L) (h4 : vp_in (v3 + 4) L) {A : SA} {B : SB} {H : Heap} {locs : List Loc} {ls : Array Slot} (U : UU g A B s.heap H locs) (hI : Inv A B) (hl : lv_has ls 4 [(0, .ref b), (1, .ref (g.2.1 0)), (2, .ref (g.2.1 5)), (3, .int v3)])
    (hn : ∀ (A : SA) (B : SB) (H : Heap) (locs : List Loc), UU g A B s.heap H locs → Inv A B → W p l e room_1 s m #[Value.ref b] below meth c H locs 600000 7302250 (lw_Z below #[Value.ref b] s) (F0 m 1143 ls [])) : W p l e room_1 s m #[Value.ref b] below meth c H locs 600000 7302250 (lw_Z below #[Value.ref b] s) (F0 m 144 ls []) := by
  obtain ⟨hx, hb, hr, hml, hown, hts0, hX, hbl, hlocks, hgv⟩ := C0
  have hts : ∀ w ∈ wsL_law, w.before #[Value.ref b] s = true := fun w h => hts0 w (wsL_law_in w h)
  have S : CallFix p m c cL_law 4 s #[Value.ref b] wsL_law RL := ⟨hx, hb, hml, hown, hts⟩
  have hbA : ¬ FA g b := fun h => Nat.not_le.mpr hbl (hF b h)
  obtain ⟨x1, ex1⟩ : ∃ x, x = xs (v3 + 1).toNatClampNeg := ⟨_, rfl⟩
  obtain ⟨x2, ex2⟩ : ∃ x, x = xs (v3 + 2).toNatClampNeg := ⟨_, rfl⟩
  obtain ⟨x3, ex3⟩ : ∃ x, x = xs (v3 + 3).toNatClampNeg := ⟨_, rfl⟩
  refine lv_aload_n hx hb dL_law_144 rfl (lv_at hl 1 rfl) ?_
  refine lv_aload_n hx hb dL_law_145 rfl (lv_at hl 0 rfl) ?_
  refine lv_iload_n hx hb dL_law_146 rfl (lv_at hl 3 rfl) ?_
  refine lv_iconst (v := 1) hx hb dL_law_147 (by decide) ?_
  refine lv_iadd hx hb dL_law_148 ?_
  refine va_sld hx hb hX hbl hbA U.2 h1 dL_law_149 ?_
  rw [← ex1]
  refine lv_aload_n hx hb dL_law_150 rfl (lv_at hl 0 rfl) ?_
  refine lv_iload_n hx hb dL_law_151 rfl (lv_at hl 3 rfl) ?_
  refine lv_iconst (v := 2) hx hb dL_law_152 (by decide) ?_
  refine lv_iadd hx hb dL_law_153 ?_
  refine va_sld hx hb hX hbl hbA U.2 h2 dL_law_154 ?_
  rw [← ex2]
  refine lv_aload_n hx hb dL_law_155 rfl (lv_at hl 0 rfl) ?_
  refine lv_iload_n hx hb dL_law_156 rfl (lv_at hl 3 rfl) ?_
  refine lv_iconst (v := 3) hx hb dL_law_157 (by decide) ?_
  refine lv_iadd hx hb dL_law_158 ?_
  refine va_sld hx hb hX hbl hbA U.2 h3 dL_law_159 ?_
  rw [← ex3]
  have hw : wp_X5_name x1 x2 x3 A B (fun r A1 B1 => wp_X6_name x1 x2 x3 A1 B1 (fun r2 A2 B2 => r = r2 ∧ Inv A2 B2)) := st_name hI (K := (fun r r2 A2 B2 => r = r2 ∧ Inv A2 B2)) (fun _ _ _ h => ⟨rfl, h⟩)
  refine u_ci (u_rV (As := [.int x1, .int x2, .int x3]) (rest := []) (C := RX5) S K U 0 4 (by decide) rfl rfl (c_X5_name hw) (cwV 3 hts gL_law_X5_name rfl rfl rfl (by decide +kernel) ⟨Nat.le_of_ble_eq_true rfl, Nat.le_of_ble_eq_true rfl⟩) rfl hl.1 rfl (Nat.le_of_ble_eq_true rfl) dL_law_160 ⟨Nat.le_refl _, Nat.le_refl _⟩) U (fun r1 A1 B1 H locs U hw => ?_)
  refine lv_aload_n hx hb dL_law_163 rfl (lv_at hl 2 rfl) ?_
  refine lv_aload_n hx hb dL_law_164 rfl (lv_at hl 0 rfl) ?_
  refine lv_iload_n hx hb dL_law_165 rfl (lv_at hl 3 rfl) ?_
  refine lv_iconst (v := 1) hx hb dL_law_166 (by decide) ?_
  refine lv_iadd hx hb dL_law_167 ?_
  refine va_sld hx hb hX hbl hbA U.2 h1 dL_law_168 ?_
  rw [← ex1]
  refine lv_aload_n hx hb dL_law_169 rfl (lv_at hl 0 rfl) ?_
  refine lv_iload_n hx hb dL_law_170 rfl (lv_at hl 3 rfl) ?_
  refine lv_iconst (v := 2) hx hb dL_law_171 (by decide) ?_
  refine lv_iadd hx hb dL_law_172 ?_
  refine va_sld hx hb hX hbl hbA U.2 h2 dL_law_173 ?_
  rw [← ex2]
  refine lv_aload_n hx hb dL_law_174 rfl (lv_at hl 0 rfl) ?_
  refine lv_iload_n hx hb dL_law_175 rfl (lv_at hl 3 rfl) ?_
  refine lv_iconst (v := 3) hx hb dL_law_176 (by decide) ?_
  refine lv_iadd hx hb dL_law_177 ?_
  refine va_sld hx hb hX hbl hbA U.2 h3 dL_law_178 ?_
  rw [← ex3]
  refine u_ci (u_rV (As := [.int x1, .int x2, .int x3]) (rest := [.int r1]) (C := RX6) S K U 5 5 (by decide) rfl rfl (c_X6_name hw) (cwV 3 hts gL_law_X6_name rfl rfl rfl (by decide +kernel) ⟨Nat.le_of_ble_eq_true rfl, Nat.le_of_ble_eq_true rfl⟩) rfl hl.1 rfl (Nat.le_of_ble_eq_true rfl) dL_law_179 ⟨Nat.le_refl _, Nat.le_refl _⟩) U (fun r2 A2 B2 H locs U hw => ?_)
  refine lv_icmp_eq (tgt := 1143) hx hb dL_law_182 (by decide) (fun c9 => ?_) (fun c9 => absurd hw.1 c9)
  exact hn _ _ _ _ U hw.2
set_option maxHeartbeats 4000000 in
set_option maxRecDepth 100000 in
theorem law_points {p : Program} {l : Launch} {e : Env} {s : State} {m : MethodId} {below : List Frame} {meth : Method} {c : Code} {g : uG} {b L : Nat} {xs : Nat → Int32} (C0 : lw_At p s m meth c b L xs) (K : UK g s) (hF : ∀ q, FA g q → s.heap.size ≤ q) {v3 : Int32} (h1 : vp_in (v3 + 1) L) (h2 : vp_in (v3 + 2) L) (h3 : vp_in (v3 + 3) L) (h4 : vp_in (v3 + 4) L) {A : SA} {B : SB} {H : Heap} {locs : List Loc} {ls : Array Slot} (U : UU g A B s.heap H locs) (hI : Inv A B) (hl : lv_has ls 4 [(0, .ref b), (1, .ref (g.2.1 0)), (2, .ref (g.2.1 5)), (3, .int v3)])
    (hn : ∀ (A : SA) (B : SB) (H : Heap) (locs : List Loc), UU g A B s.heap H locs → Inv A B → W p l e room_1 s m #[Value.ref b] below meth c H locs 600000 7302250 (lw_Z below #[Value.ref b] s) (F0 m 1143 ls [])) : W p l e room_1 s m #[Value.ref b] below meth c H locs 600000 7302250 (lw_Z below #[Value.ref b] s) (F0 m 187 ls []) := by
  obtain ⟨hx, hb, hr, hml, hown, hts0, hX, hbl, hlocks, hgv⟩ := C0
  have hts : ∀ w ∈ wsL_law, w.before #[Value.ref b] s = true := fun w h => hts0 w (wsL_law_in w h)
  have S : CallFix p m c cL_law 4 s #[Value.ref b] wsL_law RL := ⟨hx, hb, hml, hown, hts⟩
  have hbA : ¬ FA g b := fun h => Nat.not_le.mpr hbl (hF b h)
  refine lv_aload_n hx hb dL_law_187 rfl (lv_at hl 1 rfl) ?_
  have hw : wp_X5_points  A B (fun r => wp_X6_points  A B (fun r2 => r = r2)) := st_points hI (K := (fun r r2 => r = r2)) (fun _ => rfl)
  refine u_cl (u_rV (As := []) (rest := []) (C := RX5) S K U 0 4 (by decide) rfl rfl (c_X5_points hw) (cwV 0 hts gL_law_X5_points rfl rfl rfl (by decide +kernel) ⟨Nat.le_of_ble_eq_true rfl, Nat.le_of_ble_eq_true rfl⟩) rfl hl.1 rfl (Nat.le_of_ble_eq_true rfl) dL_law_188 ⟨Nat.le_refl _, Nat.le_refl _⟩) U (fun r1 A1 B1 H locs U9 hw => ?_)
  obtain ⟨eA, eB, hw⟩ := hw
  rw [eA, eB] at U9
  have U := U9
  refine lv_aload_n hx hb dL_law_191 rfl (lv_at hl 2 rfl) ?_
  refine u_cl (u_rV (As := []) (rest := [.long r1]) (C := RX6) S K U 5 5 (by decide) rfl rfl (c_X6_points hw) (cwV 0 hts gL_law_X6_points rfl rfl rfl (by decide +kernel) ⟨Nat.le_of_ble_eq_true rfl, Nat.le_of_ble_eq_true rfl⟩) rfl hl.1 rfl (Nat.le_of_ble_eq_true rfl) dL_law_192 ⟨Nat.le_refl _, Nat.le_refl _⟩) U (fun r2 A2 B2 H locs U9 hw => ?_)
  obtain ⟨eA, eB, hw⟩ := hw
  rw [eA, eB] at U9
  have U := U9
  refine u_lc_eq (tgt := 1143) hx hb dL_law_195 dL_law_196 (by decide) (fun c9 => ?_) (fun c9 => absurd hw c9)
  exact hn _ _ _ _ U hI
set_option maxHeartbeats 4000000 in
set_option maxRecDepth 100000 in
theorem law_value {p : Program} {l : Launch} {e : Env} {s : State} {m : MethodId} {below : List Frame} {meth : Method} {c : Code} {g : uG} {b L : Nat} {xs : Nat → Int32} (C0 : lw_At p s m meth c b L xs) (K : UK g s) (hF : ∀ q, FA g q → s.heap.size ≤ q) {v3 : Int32} (h1 : vp_in (v3 + 1) L) (h2 : vp_in (v3 + 2) L) (h3 : vp_in (v3 + 3) L) (h4 : vp_in (v3 + 4) L) {A : SA} {B : SB} {H : Heap} {locs : List Loc} {ls : Array Slot} (U : UU g A B s.heap H locs) (hI : Inv A B) (hl : lv_has ls 4 [(0, .ref b), (1, .ref (g.2.1 0)), (2, .ref (g.2.1 5)), (3, .int v3)])
    (hn : ∀ (A : SA) (B : SB) (H : Heap) (locs : List Loc), UU g A B s.heap H locs → Inv A B → W p l e room_1 s m #[Value.ref b] below meth c H locs 600000 7302250 (lw_Z below #[Value.ref b] s) (F0 m 1143 ls [])) : W p l e room_1 s m #[Value.ref b] below meth c H locs 600000 7302250 (lw_Z below #[Value.ref b] s) (F0 m 201 ls []) := by
  obtain ⟨hx, hb, hr, hml, hown, hts0, hX, hbl, hlocks, hgv⟩ := C0
  have hts : ∀ w ∈ wsL_law, w.before #[Value.ref b] s = true := fun w h => hts0 w (wsL_law_in w h)
  have S : CallFix p m c cL_law 4 s #[Value.ref b] wsL_law RL := ⟨hx, hb, hml, hown, hts⟩
  have hbA : ¬ FA g b := fun h => Nat.not_le.mpr hbl (hF b h)
  obtain ⟨x1, ex1⟩ : ∃ x, x = xs (v3 + 1).toNatClampNeg := ⟨_, rfl⟩
  obtain ⟨x2, ex2⟩ : ∃ x, x = xs (v3 + 2).toNatClampNeg := ⟨_, rfl⟩
  obtain ⟨x3, ex3⟩ : ∃ x, x = xs (v3 + 3).toNatClampNeg := ⟨_, rfl⟩
  refine lv_aload_n hx hb dL_law_201 rfl (lv_at hl 1 rfl) ?_
  refine lv_aload_n hx hb dL_law_202 rfl (lv_at hl 0 rfl) ?_
  refine lv_iload_n hx hb dL_law_203 rfl (lv_at hl 3 rfl) ?_
  refine lv_iconst (v := 1) hx hb dL_law_204 (by decide) ?_
  refine lv_iadd hx hb dL_law_205 ?_
  refine va_sld hx hb hX hbl hbA U.2 h1 dL_law_206 ?_
  rw [← ex1]
  refine lv_i2l hx hb dL_law_207 rfl ?_
  refine lv_bipush (v := 32) hx hb dL_law_208 (by decide) ?_
  refine lv_lshl hx hb dL_law_210 rfl ?_
  refine lv_aload_n hx hb dL_law_211 rfl (lv_at hl 0 rfl) ?_
  refine lv_iload_n hx hb dL_law_212 rfl (lv_at hl 3 rfl) ?_
  refine lv_iconst (v := 2) hx hb dL_law_213 (by decide) ?_
  refine lv_iadd hx hb dL_law_214 ?_
  refine va_sld hx hb hX hbl hbA U.2 h2 dL_law_215 ?_
  rw [← ex2]
  refine lv_i2l hx hb dL_law_216 rfl ?_
  refine lv_ldc2 (v := 4294967295) hx hb hown (hts (.constantLong RL 23 (4294967295)) (by decide +kernel)) dL_law_217 ?_
  refine lv_land hx hb dL_law_220 ?_
  refine lv_lor hx hb dL_law_221 ?_
  refine lv_aload_n hx hb dL_law_222 rfl (lv_at hl 0 rfl) ?_
  refine lv_iload_n hx hb dL_law_223 rfl (lv_at hl 3 rfl) ?_
  refine lv_iconst (v := 3) hx hb dL_law_224 (by decide) ?_
  refine lv_iadd hx hb dL_law_225 ?_
  refine va_sld hx hb hX hbl hbA U.2 h3 dL_law_226 ?_
  rw [← ex3]
  have hw : wp_X5_value ((x1.toInt64 <<< ((32 : Int32).toInt64 &&& 63)) ||| (x2.toInt64 &&& (4294967295 : Int64))) x3 A B (fun r A1 => wp_X6_value ((x1.toInt64 <<< ((32 : Int32).toInt64 &&& 63)) ||| (x2.toInt64 &&& (4294967295 : Int64))) x3 A1 B (fun r2 A2 => r = r2 ∧ Inv A2 B)) := st_value hI (K := (fun r r2 A2 => r = r2 ∧ Inv A2 B)) (fun _ _ h => ⟨rfl, h⟩)
  refine u_ci (u_rV (As := [.long ((x1.toInt64 <<< ((32 : Int32).toInt64 &&& 63)) ||| (x2.toInt64 &&& (4294967295 : Int64))), .int x3]) (rest := []) (C := RX5) S K U 0 4 (by decide) rfl rfl (c_X5_value hw) (cwV 2 hts gL_law_X5_value rfl rfl rfl (by decide +kernel) ⟨Nat.le_of_ble_eq_true rfl, Nat.le_of_ble_eq_true rfl⟩) rfl hl.1 rfl (Nat.le_of_ble_eq_true rfl) dL_law_227 ⟨Nat.le_refl _, Nat.le_refl _⟩) U (fun r1 A1 B1 H locs U9 hw => ?_)
  obtain ⟨eB, hw⟩ := hw
  rw [eB] at U9
  have U := U9
  refine lv_aload_n hx hb dL_law_230 rfl (lv_at hl 2 rfl) ?_
  refine lv_aload_n hx hb dL_law_231 rfl (lv_at hl 0 rfl) ?_
  refine lv_iload_n hx hb dL_law_232 rfl (lv_at hl 3 rfl) ?_
  refine lv_iconst (v := 1) hx hb dL_law_233 (by decide) ?_
  refine lv_iadd hx hb dL_law_234 ?_
  refine va_sld hx hb hX hbl hbA U.2 h1 dL_law_235 ?_
  rw [← ex1]
  refine lv_i2l hx hb dL_law_236 rfl ?_
  refine lv_bipush (v := 32) hx hb dL_law_237 (by decide) ?_
  refine lv_lshl hx hb dL_law_239 rfl ?_
  refine lv_aload_n hx hb dL_law_240 rfl (lv_at hl 0 rfl) ?_
  refine lv_iload_n hx hb dL_law_241 rfl (lv_at hl 3 rfl) ?_
  refine lv_iconst (v := 2) hx hb dL_law_242 (by decide) ?_
  refine lv_iadd hx hb dL_law_243 ?_
  refine va_sld hx hb hX hbl hbA U.2 h2 dL_law_244 ?_
  rw [← ex2]
  refine lv_i2l hx hb dL_law_245 rfl ?_
  refine lv_ldc2 (v := 4294967295) hx hb hown (hts (.constantLong RL 23 (4294967295)) (by decide +kernel)) dL_law_246 ?_
  refine lv_land hx hb dL_law_249 ?_
  refine lv_lor hx hb dL_law_250 ?_
  refine lv_aload_n hx hb dL_law_251 rfl (lv_at hl 0 rfl) ?_
  refine lv_iload_n hx hb dL_law_252 rfl (lv_at hl 3 rfl) ?_
  refine lv_iconst (v := 3) hx hb dL_law_253 (by decide) ?_
  refine lv_iadd hx hb dL_law_254 ?_
  refine va_sld hx hb hX hbl hbA U.2 h3 dL_law_255 ?_
  rw [← ex3]
  refine u_ci (u_rV (As := [.long ((x1.toInt64 <<< ((32 : Int32).toInt64 &&& 63)) ||| (x2.toInt64 &&& (4294967295 : Int64))), .int x3]) (rest := [.int r1]) (C := RX6) S K U 5 5 (by decide) rfl rfl (c_X6_value hw) (cwV 2 hts gL_law_X6_value rfl rfl rfl (by decide +kernel) ⟨Nat.le_of_ble_eq_true rfl, Nat.le_of_ble_eq_true rfl⟩) rfl hl.1 rfl (Nat.le_of_ble_eq_true rfl) dL_law_256 ⟨Nat.le_refl _, Nat.le_refl _⟩) U (fun r2 A2 B2 H locs U9 hw => ?_)
  obtain ⟨eB, hw⟩ := hw
  rw [eB] at U9
  have U := U9
  refine lv_icmp_eq (tgt := 1143) hx hb dL_law_259 (by decide) (fun c9 => ?_) (fun c9 => absurd hw.1 c9)
  exact hn _ _ _ _ U hw.2
set_option maxHeartbeats 4000000 in
set_option maxRecDepth 100000 in
theorem law_number {p : Program} {l : Launch} {e : Env} {s : State} {m : MethodId} {below : List Frame} {meth : Method} {c : Code} {g : uG} {b L : Nat} {xs : Nat → Int32} (C0 : lw_At p s m meth c b L xs) (K : UK g s) (hF : ∀ q, FA g q → s.heap.size ≤ q) {v3 : Int32} (h1 : vp_in (v3 + 1) L) (h2 : vp_in (v3 + 2) L) (h3 : vp_in (v3 + 3) L) (h4 : vp_in (v3 + 4) L) {A : SA} {B : SB} {H : Heap} {locs : List Loc} {ls : Array Slot} (U : UU g A B s.heap H locs) (hI : Inv A B) (hl : lv_has ls 4 [(0, .ref b), (1, .ref (g.2.1 0)), (2, .ref (g.2.1 5)), (3, .int v3)])
    (hn : ∀ (A : SA) (B : SB) (H : Heap) (locs : List Loc), UU g A B s.heap H locs → Inv A B → W p l e room_1 s m #[Value.ref b] below meth c H locs 600000 7302250 (lw_Z below #[Value.ref b] s) (F0 m 1143 ls [])) : W p l e room_1 s m #[Value.ref b] below meth c H locs 600000 7302250 (lw_Z below #[Value.ref b] s) (F0 m 264 ls []) := by
  obtain ⟨hx, hb, hr, hml, hown, hts0, hX, hbl, hlocks, hgv⟩ := C0
  have hts : ∀ w ∈ wsL_law, w.before #[Value.ref b] s = true := fun w h => hts0 w (wsL_law_in w h)
  have S : CallFix p m c cL_law 4 s #[Value.ref b] wsL_law RL := ⟨hx, hb, hml, hown, hts⟩
  have hbA : ¬ FA g b := fun h => Nat.not_le.mpr hbl (hF b h)
  obtain ⟨x1, ex1⟩ : ∃ x, x = xs (v3 + 1).toNatClampNeg := ⟨_, rfl⟩
  obtain ⟨x2, ex2⟩ : ∃ x, x = xs (v3 + 2).toNatClampNeg := ⟨_, rfl⟩
  refine lv_aload_n hx hb dL_law_264 rfl (lv_at hl 1 rfl) ?_
  refine lv_aload_n hx hb dL_law_265 rfl (lv_at hl 0 rfl) ?_
  refine lv_iload_n hx hb dL_law_266 rfl (lv_at hl 3 rfl) ?_
  refine lv_iconst (v := 1) hx hb dL_law_267 (by decide) ?_
  refine lv_iadd hx hb dL_law_268 ?_
  refine va_sld hx hb hX hbl hbA U.2 h1 dL_law_269 ?_
  rw [← ex1]
  refine lv_i2l hx hb dL_law_270 rfl ?_
  refine lv_bipush (v := 32) hx hb dL_law_271 (by decide) ?_
  refine lv_lshl hx hb dL_law_273 rfl ?_
  refine lv_aload_n hx hb dL_law_274 rfl (lv_at hl 0 rfl) ?_
  refine lv_iload_n hx hb dL_law_275 rfl (lv_at hl 3 rfl) ?_
  refine lv_iconst (v := 2) hx hb dL_law_276 (by decide) ?_
  refine lv_iadd hx hb dL_law_277 ?_
  refine va_sld hx hb hX hbl hbA U.2 h2 dL_law_278 ?_
  rw [← ex2]
  refine lv_i2l hx hb dL_law_279 rfl ?_
  refine lv_ldc2 (v := 4294967295) hx hb hown (hts (.constantLong RL 23 (4294967295)) (by decide +kernel)) dL_law_280 ?_
  refine lv_land hx hb dL_law_283 ?_
  refine lv_lor hx hb dL_law_284 ?_
  have hw : wp_X5_number ((x1.toInt64 <<< ((32 : Int32).toInt64 &&& 63)) ||| (x2.toInt64 &&& (4294967295 : Int64))) A B (fun r A1 => wp_X6_number ((x1.toInt64 <<< ((32 : Int32).toInt64 &&& 63)) ||| (x2.toInt64 &&& (4294967295 : Int64))) A1 B (fun r2 A2 => r = r2 ∧ Inv A2 B)) := st_number hI (K := (fun r r2 A2 => r = r2 ∧ Inv A2 B)) (fun _ _ h => ⟨rfl, h⟩)
  refine u_cl (u_rV (As := [.long ((x1.toInt64 <<< ((32 : Int32).toInt64 &&& 63)) ||| (x2.toInt64 &&& (4294967295 : Int64)))]) (rest := []) (C := RX5) S K U 0 4 (by decide) rfl rfl (c_X5_number hw) (cwV 1 hts gL_law_X5_number rfl rfl rfl (by decide +kernel) ⟨Nat.le_of_ble_eq_true rfl, Nat.le_of_ble_eq_true rfl⟩) rfl hl.1 rfl (Nat.le_of_ble_eq_true rfl) dL_law_285 ⟨Nat.le_refl _, Nat.le_refl _⟩) U (fun r1 A1 B1 H locs U9 hw => ?_)
  obtain ⟨eB, hw⟩ := hw
  rw [eB] at U9
  have U := U9
  refine lv_aload_n hx hb dL_law_288 rfl (lv_at hl 2 rfl) ?_
  refine lv_aload_n hx hb dL_law_289 rfl (lv_at hl 0 rfl) ?_
  refine lv_iload_n hx hb dL_law_290 rfl (lv_at hl 3 rfl) ?_
  refine lv_iconst (v := 1) hx hb dL_law_291 (by decide) ?_
  refine lv_iadd hx hb dL_law_292 ?_
  refine va_sld hx hb hX hbl hbA U.2 h1 dL_law_293 ?_
  rw [← ex1]
  refine lv_i2l hx hb dL_law_294 rfl ?_
  refine lv_bipush (v := 32) hx hb dL_law_295 (by decide) ?_
  refine lv_lshl hx hb dL_law_297 rfl ?_
  refine lv_aload_n hx hb dL_law_298 rfl (lv_at hl 0 rfl) ?_
  refine lv_iload_n hx hb dL_law_299 rfl (lv_at hl 3 rfl) ?_
  refine lv_iconst (v := 2) hx hb dL_law_300 (by decide) ?_
  refine lv_iadd hx hb dL_law_301 ?_
  refine va_sld hx hb hX hbl hbA U.2 h2 dL_law_302 ?_
  rw [← ex2]
  refine lv_i2l hx hb dL_law_303 rfl ?_
  refine lv_ldc2 (v := 4294967295) hx hb hown (hts (.constantLong RL 23 (4294967295)) (by decide +kernel)) dL_law_304 ?_
  refine lv_land hx hb dL_law_307 ?_
  refine lv_lor hx hb dL_law_308 ?_
  refine u_cl (u_rV (As := [.long ((x1.toInt64 <<< ((32 : Int32).toInt64 &&& 63)) ||| (x2.toInt64 &&& (4294967295 : Int64)))]) (rest := [.long r1]) (C := RX6) S K U 5 5 (by decide) rfl rfl (c_X6_number hw) (cwV 1 hts gL_law_X6_number rfl rfl rfl (by decide +kernel) ⟨Nat.le_of_ble_eq_true rfl, Nat.le_of_ble_eq_true rfl⟩) rfl hl.1 rfl (Nat.le_of_ble_eq_true rfl) dL_law_309 ⟨Nat.le_refl _, Nat.le_refl _⟩) U (fun r2 A2 B2 H locs U9 hw => ?_)
  obtain ⟨eB, hw⟩ := hw
  rw [eB] at U9
  have U := U9
  refine u_lc_eq (tgt := 1143) hx hb dL_law_312 dL_law_313 (by decide) (fun c9 => ?_) (fun c9 => absurd hw.1 c9)
  exact hn _ _ _ _ U hw.2
set_option maxHeartbeats 4000000 in
set_option maxRecDepth 100000 in
theorem law_distance {p : Program} {l : Launch} {e : Env} {s : State} {m : MethodId} {below : List Frame} {meth : Method} {c : Code} {g : uG} {b L : Nat} {xs : Nat → Int32} (C0 : lw_At p s m meth c b L xs) (K : UK g s) (hF : ∀ q, FA g q → s.heap.size ≤ q) {v3 : Int32} (h1 : vp_in (v3 + 1) L) (h2 : vp_in (v3 + 2) L) (h3 : vp_in (v3 + 3) L) (h4 : vp_in (v3 + 4) L) {A : SA} {B : SB} {H : Heap} {locs : List Loc} {ls : Array Slot} (U : UU g A B s.heap H locs) (hI : Inv A B) (hl : lv_has ls 4 [(0, .ref b), (1, .ref (g.2.1 0)), (2, .ref (g.2.1 5)), (3, .int v3)])
    (hn : ∀ (A : SA) (B : SB) (H : Heap) (locs : List Loc), UU g A B s.heap H locs → Inv A B → W p l e room_1 s m #[Value.ref b] below meth c H locs 600000 7302250 (lw_Z below #[Value.ref b] s) (F0 m 1143 ls [])) : W p l e room_1 s m #[Value.ref b] below meth c H locs 600000 7302250 (lw_Z below #[Value.ref b] s) (F0 m 318 ls []) := by
  obtain ⟨hx, hb, hr, hml, hown, hts0, hX, hbl, hlocks, hgv⟩ := C0
  have hts : ∀ w ∈ wsL_law, w.before #[Value.ref b] s = true := fun w h => hts0 w (wsL_law_in w h)
  have S : CallFix p m c cL_law 4 s #[Value.ref b] wsL_law RL := ⟨hx, hb, hml, hown, hts⟩
  have hbA : ¬ FA g b := fun h => Nat.not_le.mpr hbl (hF b h)
  obtain ⟨x1, ex1⟩ : ∃ x, x = xs (v3 + 1).toNatClampNeg := ⟨_, rfl⟩
  obtain ⟨x2, ex2⟩ : ∃ x, x = xs (v3 + 2).toNatClampNeg := ⟨_, rfl⟩
  obtain ⟨x3, ex3⟩ : ∃ x, x = xs (v3 + 3).toNatClampNeg := ⟨_, rfl⟩
  obtain ⟨x4, ex4⟩ : ∃ x, x = xs (v3 + 4).toNatClampNeg := ⟨_, rfl⟩
  refine lv_aload_n hx hb dL_law_318 rfl (lv_at hl 1 rfl) ?_
  refine lv_aload_n hx hb dL_law_319 rfl (lv_at hl 0 rfl) ?_
  refine lv_iload_n hx hb dL_law_320 rfl (lv_at hl 3 rfl) ?_
  refine lv_iconst (v := 1) hx hb dL_law_321 (by decide) ?_
  refine lv_iadd hx hb dL_law_322 ?_
  refine va_sld hx hb hX hbl hbA U.2 h1 dL_law_323 ?_
  rw [← ex1]
  refine lv_i2l hx hb dL_law_324 rfl ?_
  refine lv_bipush (v := 32) hx hb dL_law_325 (by decide) ?_
  refine lv_lshl hx hb dL_law_327 rfl ?_
  refine lv_aload_n hx hb dL_law_328 rfl (lv_at hl 0 rfl) ?_
  refine lv_iload_n hx hb dL_law_329 rfl (lv_at hl 3 rfl) ?_
  refine lv_iconst (v := 2) hx hb dL_law_330 (by decide) ?_
  refine lv_iadd hx hb dL_law_331 ?_
  refine va_sld hx hb hX hbl hbA U.2 h2 dL_law_332 ?_
  rw [← ex2]
  refine lv_i2l hx hb dL_law_333 rfl ?_
  refine lv_ldc2 (v := 4294967295) hx hb hown (hts (.constantLong RL 23 (4294967295)) (by decide +kernel)) dL_law_334 ?_
  refine lv_land hx hb dL_law_337 ?_
  refine lv_lor hx hb dL_law_338 ?_
  refine lv_aload_n hx hb dL_law_339 rfl (lv_at hl 0 rfl) ?_
  refine lv_iload_n hx hb dL_law_340 rfl (lv_at hl 3 rfl) ?_
  refine lv_iconst (v := 3) hx hb dL_law_341 (by decide) ?_
  refine lv_iadd hx hb dL_law_342 ?_
  refine va_sld hx hb hX hbl hbA U.2 h3 dL_law_343 ?_
  rw [← ex3]
  refine lv_i2l hx hb dL_law_344 rfl ?_
  refine lv_bipush (v := 32) hx hb dL_law_345 (by decide) ?_
  refine lv_lshl hx hb dL_law_347 rfl ?_
  refine lv_aload_n hx hb dL_law_348 rfl (lv_at hl 0 rfl) ?_
  refine lv_iload_n hx hb dL_law_349 rfl (lv_at hl 3 rfl) ?_
  refine lv_iconst (v := 4) hx hb dL_law_350 (by decide) ?_
  refine lv_iadd hx hb dL_law_351 ?_
  refine va_sld hx hb hX hbl hbA U.2 h4 dL_law_352 ?_
  rw [← ex4]
  refine lv_i2l hx hb dL_law_353 rfl ?_
  refine lv_ldc2 (v := 4294967295) hx hb hown (hts (.constantLong RL 23 (4294967295)) (by decide +kernel)) dL_law_354 ?_
  refine lv_land hx hb dL_law_357 ?_
  refine lv_lor hx hb dL_law_358 ?_
  have hw : wp_X5_distance ((x1.toInt64 <<< ((32 : Int32).toInt64 &&& 63)) ||| (x2.toInt64 &&& (4294967295 : Int64))) ((x3.toInt64 <<< ((32 : Int32).toInt64 &&& 63)) ||| (x4.toInt64 &&& (4294967295 : Int64))) A B (fun r A1 => wp_X6_distance ((x1.toInt64 <<< ((32 : Int32).toInt64 &&& 63)) ||| (x2.toInt64 &&& (4294967295 : Int64))) ((x3.toInt64 <<< ((32 : Int32).toInt64 &&& 63)) ||| (x4.toInt64 &&& (4294967295 : Int64))) A1 B (fun r2 A2 => r = r2 ∧ Inv A2 B)) := st_distance hI (K := (fun r r2 A2 => r = r2 ∧ Inv A2 B)) (fun _ _ h => ⟨rfl, h⟩)
  refine u_ci (u_rV (As := [.long ((x1.toInt64 <<< ((32 : Int32).toInt64 &&& 63)) ||| (x2.toInt64 &&& (4294967295 : Int64))), .long ((x3.toInt64 <<< ((32 : Int32).toInt64 &&& 63)) ||| (x4.toInt64 &&& (4294967295 : Int64)))]) (rest := []) (C := RX5) S K U 0 4 (by decide) rfl rfl (c_X5_distance hw) (cwV 2 hts gL_law_X5_distance rfl rfl rfl (by decide +kernel) ⟨Nat.le_of_ble_eq_true rfl, Nat.le_of_ble_eq_true rfl⟩) rfl hl.1 rfl (Nat.le_of_ble_eq_true rfl) dL_law_359 ⟨Nat.le_refl _, Nat.le_refl _⟩) U (fun r1 A1 B1 H locs U9 hw => ?_)
  obtain ⟨eB, hw⟩ := hw
  rw [eB] at U9
  have U := U9
  refine lv_aload_n hx hb dL_law_362 rfl (lv_at hl 2 rfl) ?_
  refine lv_aload_n hx hb dL_law_363 rfl (lv_at hl 0 rfl) ?_
  refine lv_iload_n hx hb dL_law_364 rfl (lv_at hl 3 rfl) ?_
  refine lv_iconst (v := 1) hx hb dL_law_365 (by decide) ?_
  refine lv_iadd hx hb dL_law_366 ?_
  refine va_sld hx hb hX hbl hbA U.2 h1 dL_law_367 ?_
  rw [← ex1]
  refine lv_i2l hx hb dL_law_368 rfl ?_
  refine lv_bipush (v := 32) hx hb dL_law_369 (by decide) ?_
  refine lv_lshl hx hb dL_law_371 rfl ?_
  refine lv_aload_n hx hb dL_law_372 rfl (lv_at hl 0 rfl) ?_
  refine lv_iload_n hx hb dL_law_373 rfl (lv_at hl 3 rfl) ?_
  refine lv_iconst (v := 2) hx hb dL_law_374 (by decide) ?_
  refine lv_iadd hx hb dL_law_375 ?_
  refine va_sld hx hb hX hbl hbA U.2 h2 dL_law_376 ?_
  rw [← ex2]
  refine lv_i2l hx hb dL_law_377 rfl ?_
  refine lv_ldc2 (v := 4294967295) hx hb hown (hts (.constantLong RL 23 (4294967295)) (by decide +kernel)) dL_law_378 ?_
  refine lv_land hx hb dL_law_381 ?_
  refine lv_lor hx hb dL_law_382 ?_
  refine lv_aload_n hx hb dL_law_383 rfl (lv_at hl 0 rfl) ?_
  refine lv_iload_n hx hb dL_law_384 rfl (lv_at hl 3 rfl) ?_
  refine lv_iconst (v := 3) hx hb dL_law_385 (by decide) ?_
  refine lv_iadd hx hb dL_law_386 ?_
  refine va_sld hx hb hX hbl hbA U.2 h3 dL_law_387 ?_
  rw [← ex3]
  refine lv_i2l hx hb dL_law_388 rfl ?_
  refine lv_bipush (v := 32) hx hb dL_law_389 (by decide) ?_
  refine lv_lshl hx hb dL_law_391 rfl ?_
  refine lv_aload_n hx hb dL_law_392 rfl (lv_at hl 0 rfl) ?_
  refine lv_iload_n hx hb dL_law_393 rfl (lv_at hl 3 rfl) ?_
  refine lv_iconst (v := 4) hx hb dL_law_394 (by decide) ?_
  refine lv_iadd hx hb dL_law_395 ?_
  refine va_sld hx hb hX hbl hbA U.2 h4 dL_law_396 ?_
  rw [← ex4]
  refine lv_i2l hx hb dL_law_397 rfl ?_
  refine lv_ldc2 (v := 4294967295) hx hb hown (hts (.constantLong RL 23 (4294967295)) (by decide +kernel)) dL_law_398 ?_
  refine lv_land hx hb dL_law_401 ?_
  refine lv_lor hx hb dL_law_402 ?_
  refine u_ci (u_rV (As := [.long ((x1.toInt64 <<< ((32 : Int32).toInt64 &&& 63)) ||| (x2.toInt64 &&& (4294967295 : Int64))), .long ((x3.toInt64 <<< ((32 : Int32).toInt64 &&& 63)) ||| (x4.toInt64 &&& (4294967295 : Int64)))]) (rest := [.int r1]) (C := RX6) S K U 5 5 (by decide) rfl rfl (c_X6_distance hw) (cwV 2 hts gL_law_X6_distance rfl rfl rfl (by decide +kernel) ⟨Nat.le_of_ble_eq_true rfl, Nat.le_of_ble_eq_true rfl⟩) rfl hl.1 rfl (Nat.le_of_ble_eq_true rfl) dL_law_403 ⟨Nat.le_refl _, Nat.le_refl _⟩) U (fun r2 A2 B2 H locs U9 hw => ?_)
  obtain ⟨eB, hw⟩ := hw
  rw [eB] at U9
  have U := U9
  refine lv_icmp_eq (tgt := 1143) hx hb dL_law_406 (by decide) (fun c9 => ?_) (fun c9 => absurd hw.1 c9)
  exact hn _ _ _ _ U hw.2
set_option maxHeartbeats 4000000 in
set_option maxRecDepth 100000 in
theorem law_trial {p : Program} {l : Launch} {e : Env} {s : State} {m : MethodId} {below : List Frame} {meth : Method} {c : Code} {g : uG} {b L : Nat} {xs : Nat → Int32} (C0 : lw_At p s m meth c b L xs) (K : UK g s) (hF : ∀ q, FA g q → s.heap.size ≤ q) {v3 : Int32} (h1 : vp_in (v3 + 1) L) (h2 : vp_in (v3 + 2) L) (h3 : vp_in (v3 + 3) L) (h4 : vp_in (v3 + 4) L) {A : SA} {B : SB} {H : Heap} {locs : List Loc} {ls : Array Slot} (U : UU g A B s.heap H locs) (hI : Inv A B) (hl : lv_has ls 4 [(0, .ref b), (1, .ref (g.2.1 0)), (2, .ref (g.2.1 5)), (3, .int v3)])
    (hn : ∀ (A : SA) (B : SB) (H : Heap) (locs : List Loc), UU g A B s.heap H locs → Inv A B → W p l e room_1 s m #[Value.ref b] below meth c H locs 600000 7302250 (lw_Z below #[Value.ref b] s) (F0 m 1143 ls [])) : W p l e room_1 s m #[Value.ref b] below meth c H locs 600000 7302250 (lw_Z below #[Value.ref b] s) (F0 m 411 ls []) := by
  obtain ⟨hx, hb, hr, hml, hown, hts0, hX, hbl, hlocks, hgv⟩ := C0
  have hts : ∀ w ∈ wsL_law, w.before #[Value.ref b] s = true := fun w h => hts0 w (wsL_law_in w h)
  have S : CallFix p m c cL_law 4 s #[Value.ref b] wsL_law RL := ⟨hx, hb, hml, hown, hts⟩
  have hbA : ¬ FA g b := fun h => Nat.not_le.mpr hbl (hF b h)
  obtain ⟨x1, ex1⟩ : ∃ x, x = xs (v3 + 1).toNatClampNeg := ⟨_, rfl⟩
  obtain ⟨x2, ex2⟩ : ∃ x, x = xs (v3 + 2).toNatClampNeg := ⟨_, rfl⟩
  refine lv_aload_n hx hb dL_law_411 rfl (lv_at hl 1 rfl) ?_
  refine lv_aload_n hx hb dL_law_412 rfl (lv_at hl 0 rfl) ?_
  refine lv_iload_n hx hb dL_law_413 rfl (lv_at hl 3 rfl) ?_
  refine lv_iconst (v := 1) hx hb dL_law_414 (by decide) ?_
  refine lv_iadd hx hb dL_law_415 ?_
  refine va_sld hx hb hX hbl hbA U.2 h1 dL_law_416 ?_
  rw [← ex1]
  refine lv_aload_n hx hb dL_law_417 rfl (lv_at hl 0 rfl) ?_
  refine lv_iload_n hx hb dL_law_418 rfl (lv_at hl 3 rfl) ?_
  refine lv_iconst (v := 2) hx hb dL_law_419 (by decide) ?_
  refine lv_iadd hx hb dL_law_420 ?_
  refine va_sld hx hb hX hbl hbA U.2 h2 dL_law_421 ?_
  rw [← ex2]
  have hw : wp_X5_trial x1 x2 A B (fun r A1 B1 => wp_X6_trial x1 x2 A1 B1 (fun r2 A2 B2 => r = r2 ∧ Inv A2 B2)) := st_trial hI (K := (fun r r2 A2 B2 => r = r2 ∧ Inv A2 B2)) (fun _ _ _ h => ⟨rfl, h⟩)
  refine u_ci (u_rV (As := [.int x1, .int x2]) (rest := []) (C := RX5) S K U 0 4 (by decide) rfl rfl (c_X5_trial hw) (cwV 2 hts gL_law_X5_trial rfl rfl rfl (by decide +kernel) ⟨Nat.le_of_ble_eq_true rfl, Nat.le_of_ble_eq_true rfl⟩) rfl hl.1 rfl (Nat.le_of_ble_eq_true rfl) dL_law_422 ⟨Nat.le_refl _, Nat.le_refl _⟩) U (fun r1 A1 B1 H locs U hw => ?_)
  refine lv_aload_n hx hb dL_law_425 rfl (lv_at hl 2 rfl) ?_
  refine lv_aload_n hx hb dL_law_426 rfl (lv_at hl 0 rfl) ?_
  refine lv_iload_n hx hb dL_law_427 rfl (lv_at hl 3 rfl) ?_
  refine lv_iconst (v := 1) hx hb dL_law_428 (by decide) ?_
  refine lv_iadd hx hb dL_law_429 ?_
  refine va_sld hx hb hX hbl hbA U.2 h1 dL_law_430 ?_
  rw [← ex1]
  refine lv_aload_n hx hb dL_law_431 rfl (lv_at hl 0 rfl) ?_
  refine lv_iload_n hx hb dL_law_432 rfl (lv_at hl 3 rfl) ?_
  refine lv_iconst (v := 2) hx hb dL_law_433 (by decide) ?_
  refine lv_iadd hx hb dL_law_434 ?_
  refine va_sld hx hb hX hbl hbA U.2 h2 dL_law_435 ?_
  rw [← ex2]
  refine u_ci (u_rV (As := [.int x1, .int x2]) (rest := [.int r1]) (C := RX6) S K U 5 5 (by decide) rfl rfl (c_X6_trial hw) (cwV 2 hts gL_law_X6_trial rfl rfl rfl (by decide +kernel) ⟨Nat.le_of_ble_eq_true rfl, Nat.le_of_ble_eq_true rfl⟩) rfl hl.1 rfl (Nat.le_of_ble_eq_true rfl) dL_law_436 ⟨Nat.le_refl _, Nat.le_refl _⟩) U (fun r2 A2 B2 H locs U hw => ?_)
  refine lv_icmp_eq (tgt := 1143) hx hb dL_law_439 (by decide) (fun c9 => ?_) (fun c9 => absurd hw.1 c9)
  exact hn _ _ _ _ U hw.2
set_option maxHeartbeats 4000000 in
set_option maxRecDepth 100000 in
theorem law_guess {p : Program} {l : Launch} {e : Env} {s : State} {m : MethodId} {below : List Frame} {meth : Method} {c : Code} {g : uG} {b L : Nat} {xs : Nat → Int32} (C0 : lw_At p s m meth c b L xs) (K : UK g s) (hF : ∀ q, FA g q → s.heap.size ≤ q) {v3 : Int32} (h1 : vp_in (v3 + 1) L) (h2 : vp_in (v3 + 2) L) (h3 : vp_in (v3 + 3) L) (h4 : vp_in (v3 + 4) L) {A : SA} {B : SB} {H : Heap} {locs : List Loc} {ls : Array Slot} (U : UU g A B s.heap H locs) (hI : Inv A B) (hl : lv_has ls 4 [(0, .ref b), (1, .ref (g.2.1 0)), (2, .ref (g.2.1 5)), (3, .int v3)])
    (hn : ∀ (A : SA) (B : SB) (H : Heap) (locs : List Loc), UU g A B s.heap H locs → Inv A B → W p l e room_1 s m #[Value.ref b] below meth c H locs 600000 7302250 (lw_Z below #[Value.ref b] s) (F0 m 1143 ls [])) : W p l e room_1 s m #[Value.ref b] below meth c H locs 600000 7302250 (lw_Z below #[Value.ref b] s) (F0 m 444 ls []) := by
  obtain ⟨hx, hb, hr, hml, hown, hts0, hX, hbl, hlocks, hgv⟩ := C0
  have hts : ∀ w ∈ wsL_law, w.before #[Value.ref b] s = true := fun w h => hts0 w (wsL_law_in w h)
  have S : CallFix p m c cL_law 4 s #[Value.ref b] wsL_law RL := ⟨hx, hb, hml, hown, hts⟩
  have hbA : ¬ FA g b := fun h => Nat.not_le.mpr hbl (hF b h)
  obtain ⟨x1, ex1⟩ : ∃ x, x = xs (v3 + 1).toNatClampNeg := ⟨_, rfl⟩
  obtain ⟨x2, ex2⟩ : ∃ x, x = xs (v3 + 2).toNatClampNeg := ⟨_, rfl⟩
  obtain ⟨x3, ex3⟩ : ∃ x, x = xs (v3 + 3).toNatClampNeg := ⟨_, rfl⟩
  refine lv_aload_n hx hb dL_law_444 rfl (lv_at hl 1 rfl) ?_
  refine lv_aload_n hx hb dL_law_445 rfl (lv_at hl 0 rfl) ?_
  refine lv_iload_n hx hb dL_law_446 rfl (lv_at hl 3 rfl) ?_
  refine lv_iconst (v := 1) hx hb dL_law_447 (by decide) ?_
  refine lv_iadd hx hb dL_law_448 ?_
  refine va_sld hx hb hX hbl hbA U.2 h1 dL_law_449 ?_
  rw [← ex1]
  refine lv_aload_n hx hb dL_law_450 rfl (lv_at hl 0 rfl) ?_
  refine lv_iload_n hx hb dL_law_451 rfl (lv_at hl 3 rfl) ?_
  refine lv_iconst (v := 2) hx hb dL_law_452 (by decide) ?_
  refine lv_iadd hx hb dL_law_453 ?_
  refine va_sld hx hb hX hbl hbA U.2 h2 dL_law_454 ?_
  rw [← ex2]
  refine lv_aload_n hx hb dL_law_455 rfl (lv_at hl 0 rfl) ?_
  refine lv_iload_n hx hb dL_law_456 rfl (lv_at hl 3 rfl) ?_
  refine lv_iconst (v := 3) hx hb dL_law_457 (by decide) ?_
  refine lv_iadd hx hb dL_law_458 ?_
  refine va_sld hx hb hX hbl hbA U.2 h3 dL_law_459 ?_
  rw [← ex3]
  have hw : wp_X5_guess x1 x2 x3 A B (fun r A1 B1 => wp_X6_guess x1 x2 x3 A1 B1 (fun r2 A2 B2 => r = r2 ∧ Inv A2 B2)) := st_guess hI (K := (fun r r2 A2 B2 => r = r2 ∧ Inv A2 B2)) (fun _ _ _ h => ⟨rfl, h⟩)
  refine u_ci (u_rV (As := [.int x1, .int x2, .int x3]) (rest := []) (C := RX5) S K U 0 4 (by decide) rfl rfl (c_X5_guess hw) (cwV 3 hts gL_law_X5_guess rfl rfl rfl (by decide +kernel) ⟨Nat.le_of_ble_eq_true rfl, Nat.le_of_ble_eq_true rfl⟩) rfl hl.1 rfl (Nat.le_of_ble_eq_true rfl) dL_law_460 ⟨Nat.le_refl _, Nat.le_refl _⟩) U (fun r1 A1 B1 H locs U hw => ?_)
  refine lv_aload_n hx hb dL_law_463 rfl (lv_at hl 2 rfl) ?_
  refine lv_aload_n hx hb dL_law_464 rfl (lv_at hl 0 rfl) ?_
  refine lv_iload_n hx hb dL_law_465 rfl (lv_at hl 3 rfl) ?_
  refine lv_iconst (v := 1) hx hb dL_law_466 (by decide) ?_
  refine lv_iadd hx hb dL_law_467 ?_
  refine va_sld hx hb hX hbl hbA U.2 h1 dL_law_468 ?_
  rw [← ex1]
  refine lv_aload_n hx hb dL_law_469 rfl (lv_at hl 0 rfl) ?_
  refine lv_iload_n hx hb dL_law_470 rfl (lv_at hl 3 rfl) ?_
  refine lv_iconst (v := 2) hx hb dL_law_471 (by decide) ?_
  refine lv_iadd hx hb dL_law_472 ?_
  refine va_sld hx hb hX hbl hbA U.2 h2 dL_law_473 ?_
  rw [← ex2]
  refine lv_aload_n hx hb dL_law_474 rfl (lv_at hl 0 rfl) ?_
  refine lv_iload_n hx hb dL_law_475 rfl (lv_at hl 3 rfl) ?_
  refine lv_iconst (v := 3) hx hb dL_law_476 (by decide) ?_
  refine lv_iadd hx hb dL_law_477 ?_
  refine va_sld hx hb hX hbl hbA U.2 h3 dL_law_478 ?_
  rw [← ex3]
  refine u_ci (u_rV (As := [.int x1, .int x2, .int x3]) (rest := [.int r1]) (C := RX6) S K U 5 5 (by decide) rfl rfl (c_X6_guess hw) (cwV 3 hts gL_law_X6_guess rfl rfl rfl (by decide +kernel) ⟨Nat.le_of_ble_eq_true rfl, Nat.le_of_ble_eq_true rfl⟩) rfl hl.1 rfl (Nat.le_of_ble_eq_true rfl) dL_law_479 ⟨Nat.le_refl _, Nat.le_refl _⟩) U (fun r2 A2 B2 H locs U hw => ?_)
  refine lv_icmp_eq (tgt := 1143) hx hb dL_law_482 (by decide) (fun c9 => ?_) (fun c9 => absurd hw.1 c9)
  exact hn _ _ _ _ U hw.2
set_option maxHeartbeats 4000000 in
set_option maxRecDepth 100000 in
theorem law_forecast {p : Program} {l : Launch} {e : Env} {s : State} {m : MethodId} {below : List Frame} {meth : Method} {c : Code} {g : uG} {b L : Nat} {xs : Nat → Int32} (C0 : lw_At p s m meth c b L xs) (K : UK g s) (hF : ∀ q, FA g q → s.heap.size ≤ q) {v3 : Int32} (h1 : vp_in (v3 + 1) L) (h2 : vp_in (v3 + 2) L) (h3 : vp_in (v3 + 3) L) (h4 : vp_in (v3 + 4) L) {A : SA} {B : SB} {H : Heap} {locs : List Loc} {ls : Array Slot} (U : UU g A B s.heap H locs) (hI : Inv A B) (hl : lv_has ls 4 [(0, .ref b), (1, .ref (g.2.1 0)), (2, .ref (g.2.1 5)), (3, .int v3)])
    (hn : ∀ (A : SA) (B : SB) (H : Heap) (locs : List Loc), UU g A B s.heap H locs → Inv A B → W p l e room_1 s m #[Value.ref b] below meth c H locs 600000 7302250 (lw_Z below #[Value.ref b] s) (F0 m 1143 ls [])) : W p l e room_1 s m #[Value.ref b] below meth c H locs 600000 7302250 (lw_Z below #[Value.ref b] s) (F0 m 487 ls []) := by
  obtain ⟨hx, hb, hr, hml, hown, hts0, hX, hbl, hlocks, hgv⟩ := C0
  have hts : ∀ w ∈ wsL_law, w.before #[Value.ref b] s = true := fun w h => hts0 w (wsL_law_in w h)
  have S : CallFix p m c cL_law 4 s #[Value.ref b] wsL_law RL := ⟨hx, hb, hml, hown, hts⟩
  have hbA : ¬ FA g b := fun h => Nat.not_le.mpr hbl (hF b h)
  obtain ⟨x1, ex1⟩ : ∃ x, x = xs (v3 + 1).toNatClampNeg := ⟨_, rfl⟩
  obtain ⟨x2, ex2⟩ : ∃ x, x = xs (v3 + 2).toNatClampNeg := ⟨_, rfl⟩
  obtain ⟨x3, ex3⟩ : ∃ x, x = xs (v3 + 3).toNatClampNeg := ⟨_, rfl⟩
  obtain ⟨x4, ex4⟩ : ∃ x, x = xs (v3 + 4).toNatClampNeg := ⟨_, rfl⟩
  refine lv_aload_n hx hb dL_law_487 rfl (lv_at hl 1 rfl) ?_
  refine lv_aload_n hx hb dL_law_488 rfl (lv_at hl 0 rfl) ?_
  refine lv_iload_n hx hb dL_law_489 rfl (lv_at hl 3 rfl) ?_
  refine lv_iconst (v := 1) hx hb dL_law_490 (by decide) ?_
  refine lv_iadd hx hb dL_law_491 ?_
  refine va_sld hx hb hX hbl hbA U.2 h1 dL_law_492 ?_
  rw [← ex1]
  refine lv_i2l hx hb dL_law_493 rfl ?_
  refine lv_bipush (v := 32) hx hb dL_law_494 (by decide) ?_
  refine lv_lshl hx hb dL_law_496 rfl ?_
  refine lv_aload_n hx hb dL_law_497 rfl (lv_at hl 0 rfl) ?_
  refine lv_iload_n hx hb dL_law_498 rfl (lv_at hl 3 rfl) ?_
  refine lv_iconst (v := 2) hx hb dL_law_499 (by decide) ?_
  refine lv_iadd hx hb dL_law_500 ?_
  refine va_sld hx hb hX hbl hbA U.2 h2 dL_law_501 ?_
  rw [← ex2]
  refine lv_i2l hx hb dL_law_502 rfl ?_
  refine lv_ldc2 (v := 4294967295) hx hb hown (hts (.constantLong RL 23 (4294967295)) (by decide +kernel)) dL_law_503 ?_
  refine lv_land hx hb dL_law_506 ?_
  refine lv_lor hx hb dL_law_507 ?_
  refine lv_aload_n hx hb dL_law_508 rfl (lv_at hl 0 rfl) ?_
  refine lv_iload_n hx hb dL_law_509 rfl (lv_at hl 3 rfl) ?_
  refine lv_iconst (v := 3) hx hb dL_law_510 (by decide) ?_
  refine lv_iadd hx hb dL_law_511 ?_
  refine va_sld hx hb hX hbl hbA U.2 h3 dL_law_512 ?_
  rw [← ex3]
  refine lv_aload_n hx hb dL_law_513 rfl (lv_at hl 0 rfl) ?_
  refine lv_iload_n hx hb dL_law_514 rfl (lv_at hl 3 rfl) ?_
  refine lv_iconst (v := 4) hx hb dL_law_515 (by decide) ?_
  refine lv_iadd hx hb dL_law_516 ?_
  refine va_sld hx hb hX hbl hbA U.2 h4 dL_law_517 ?_
  rw [← ex4]
  have hw : wp_X5_forecast ((x1.toInt64 <<< ((32 : Int32).toInt64 &&& 63)) ||| (x2.toInt64 &&& (4294967295 : Int64))) x3 x4 A B (fun r A1 => wp_X6_forecast ((x1.toInt64 <<< ((32 : Int32).toInt64 &&& 63)) ||| (x2.toInt64 &&& (4294967295 : Int64))) x3 x4 A1 B (fun r2 A2 => r = r2 ∧ Inv A2 B)) := st_forecast hI (K := (fun r r2 A2 => r = r2 ∧ Inv A2 B)) (fun _ _ h => ⟨rfl, h⟩)
  refine u_cl (u_rV (As := [.long ((x1.toInt64 <<< ((32 : Int32).toInt64 &&& 63)) ||| (x2.toInt64 &&& (4294967295 : Int64))), .int x3, .int x4]) (rest := []) (C := RX5) S K U 0 4 (by decide) rfl rfl (c_X5_forecast hw) (cwV 3 hts gL_law_X5_forecast rfl rfl rfl (by decide +kernel) ⟨Nat.le_of_ble_eq_true rfl, Nat.le_of_ble_eq_true rfl⟩) rfl hl.1 rfl (Nat.le_of_ble_eq_true rfl) dL_law_518 ⟨Nat.le_refl _, Nat.le_refl _⟩) U (fun r1 A1 B1 H locs U9 hw => ?_)
  obtain ⟨eB, hw⟩ := hw
  rw [eB] at U9
  have U := U9
  refine lv_aload_n hx hb dL_law_521 rfl (lv_at hl 2 rfl) ?_
  refine lv_aload_n hx hb dL_law_522 rfl (lv_at hl 0 rfl) ?_
  refine lv_iload_n hx hb dL_law_523 rfl (lv_at hl 3 rfl) ?_
  refine lv_iconst (v := 1) hx hb dL_law_524 (by decide) ?_
  refine lv_iadd hx hb dL_law_525 ?_
  refine va_sld hx hb hX hbl hbA U.2 h1 dL_law_526 ?_
  rw [← ex1]
  refine lv_i2l hx hb dL_law_527 rfl ?_
  refine lv_bipush (v := 32) hx hb dL_law_528 (by decide) ?_
  refine lv_lshl hx hb dL_law_530 rfl ?_
  refine lv_aload_n hx hb dL_law_531 rfl (lv_at hl 0 rfl) ?_
  refine lv_iload_n hx hb dL_law_532 rfl (lv_at hl 3 rfl) ?_
  refine lv_iconst (v := 2) hx hb dL_law_533 (by decide) ?_
  refine lv_iadd hx hb dL_law_534 ?_
  refine va_sld hx hb hX hbl hbA U.2 h2 dL_law_535 ?_
  rw [← ex2]
  refine lv_i2l hx hb dL_law_536 rfl ?_
  refine lv_ldc2 (v := 4294967295) hx hb hown (hts (.constantLong RL 23 (4294967295)) (by decide +kernel)) dL_law_537 ?_
  refine lv_land hx hb dL_law_540 ?_
  refine lv_lor hx hb dL_law_541 ?_
  refine lv_aload_n hx hb dL_law_542 rfl (lv_at hl 0 rfl) ?_
  refine lv_iload_n hx hb dL_law_543 rfl (lv_at hl 3 rfl) ?_
  refine lv_iconst (v := 3) hx hb dL_law_544 (by decide) ?_
  refine lv_iadd hx hb dL_law_545 ?_
  refine va_sld hx hb hX hbl hbA U.2 h3 dL_law_546 ?_
  rw [← ex3]
  refine lv_aload_n hx hb dL_law_547 rfl (lv_at hl 0 rfl) ?_
  refine lv_iload_n hx hb dL_law_548 rfl (lv_at hl 3 rfl) ?_
  refine lv_iconst (v := 4) hx hb dL_law_549 (by decide) ?_
  refine lv_iadd hx hb dL_law_550 ?_
  refine va_sld hx hb hX hbl hbA U.2 h4 dL_law_551 ?_
  rw [← ex4]
  refine u_cl (u_rV (As := [.long ((x1.toInt64 <<< ((32 : Int32).toInt64 &&& 63)) ||| (x2.toInt64 &&& (4294967295 : Int64))), .int x3, .int x4]) (rest := [.long r1]) (C := RX6) S K U 5 5 (by decide) rfl rfl (c_X6_forecast hw) (cwV 3 hts gL_law_X6_forecast rfl rfl rfl (by decide +kernel) ⟨Nat.le_of_ble_eq_true rfl, Nat.le_of_ble_eq_true rfl⟩) rfl hl.1 rfl (Nat.le_of_ble_eq_true rfl) dL_law_552 ⟨Nat.le_refl _, Nat.le_refl _⟩) U (fun r2 A2 B2 H locs U9 hw => ?_)
  obtain ⟨eB, hw⟩ := hw
  rw [eB] at U9
  have U := U9
  refine u_lc_eq (tgt := 1143) hx hb dL_law_555 dL_law_556 (by decide) (fun c9 => ?_) (fun c9 => absurd hw.1 c9)
  exact hn _ _ _ _ U hw.2
