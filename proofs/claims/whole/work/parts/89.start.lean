/-! the law, from its entry -/
set_option maxHeartbeats 4000000 in
set_option maxRecDepth 100000 in
theorem whole_start {p : Program} {e : Env} {s : State} {m : MethodId} {below : List Frame} {meth : Method} {c : Code} (l : Launch) {b L : Nat} {xs : Nat → Int32} (hL : L ≤ 2560) (C0 : lw_At p s m meth c b L xs) : W p l e room_1 s m #[Value.ref b] below meth c s.heap [] 0 0 (lw_Z below #[Value.ref b] s) (entryFrame m ([Value.ref b] : List Value).toArray 4) := by
  obtain ⟨hx, hb, hr, hml, hown, hts, hX, hbl, hlocks, hgv⟩ := id C0
  have hts1 : ∀ w ∈ wsL_law, w.before #[Value.ref b] s = true := fun w h => hts w (wsL_law_in w h)
  have hA : ∀ q : Nat, s.heap.size ≤ q → (fun q : Nat => s.heap.size ≤ q) q := fun _ h => h
  obtain ⟨c0, iS0, hKn0⟩ := u_known (C := RX0) (T := TX0) (N := 8) (n := 8) hts inX0 (hts (.instantiable RX0 8) (List.mem_of_getElem? (i := 188) rfl))
  obtain ⟨c1, iS1, hKn1⟩ := u_known (C := RX1) (T := TX1) (N := 10) (n := 10) hts inX1 (hts (.instantiable RX1 10) (List.mem_of_getElem? (i := 148) rfl))
  obtain ⟨c2, iS2, hKn2⟩ := u_known (C := RX3) (T := TX3) (N := 9) (n := 9) hts inX3 (hts (.instantiable RX3 9) (List.mem_of_getElem? (i := 52) rfl))
  obtain ⟨c3, iS3, hKn3⟩ := u_known (C := RX4) (T := TX4) (N := 12) (n := 12) hts inX4 (hts (.instantiable RX4 12) (List.mem_of_getElem? (i := 96) rfl))
  obtain ⟨c4, iS4, hKn4⟩ := u_known (C := RX5) (T := TX5) (N := 4) (n := 4) hts inX5 (hts (.instantiable RX5 4) (List.mem_of_getElem? (i := 44) rfl))
  obtain ⟨c5, iS5, hKn5⟩ := u_known (C := RX6) (T := TX6) (N := 31) (n := 31) hts inX6 (hts (.instantiable RX6 31) (List.mem_of_getElem? (i := 597) rfl))
  obtain ⟨dC, dIx, hKc⟩ : ∃ (dC : Nat → ClassId) (dI : Nat → Nat → Nat), ∀ (k : Nat) (q : vw_C), vwCl[k]? = some q → u_Kn s q.1 q.2.1 q.2.2 (dC k) (dI k) := by
    refine ⟨fun k => if k = 0 then c0 else if k = 1 then c1 else if k = 2 then c2 else if k = 3 then c3 else if k = 4 then c4 else c5, fun k => if k = 0 then iS0 else if k = 1 then iS1 else if k = 2 then iS2 else if k = 3 then iS3 else if k = 4 then iS4 else iS5, ?_⟩
    intro k q hq
    match k, hq with
    | 0, hq => cases hq; exact hKn0
    | 1, hq => cases hq; exact hKn1
    | 2, hq => cases hq; exact hKn2
    | 3, hq => cases hq; exact hKn3
    | 4, hq => cases hq; exact hKn4
    | 5, hq => cases hq; exact hKn5
    | k + 6, hq => simp [vwCl] at hq
  obtain ⟨cI, kI, mI, fI, nI, dI⟩ := Cond.arrayClass_spec (hts (.arrayClass .int) (List.mem_of_getElem? (i := 93) rfl))
  obtain ⟨cJ, kJ, mJ, fJ, nJ, dJ⟩ := Cond.arrayClass_spec (hts (.arrayClass .long) (List.mem_of_getElem? (i := 94) rfl))
  obtain ⟨cZ, kZ, mZ, fZ, nZ, dZ⟩ := Cond.arrayClass_spec (hts (.arrayClass .boolean) (List.mem_of_getElem? (i := 696) rfl))
  have hJJ := hts (.arrayOver (.array .long)) (List.mem_of_getElem? (i := 58) rfl)
  obtain ⟨mJJ, cJJ, kJJ, fJJ, nJJ, dJJ, lJJ⟩ := Cond.arrayOver_specA hJJ
  have hII := hts (.arrayOver (.array .int)) (List.mem_of_getElem? (i := 102) rfl)
  obtain ⟨mII, cII, kII, fII, nII, dII, lII⟩ := Cond.arrayOver_specA hII
  obtain ⟨g0, hK⟩ : ∃ g0 : uG, CK g0 s := by
    refine ⟨((dC, dIx), fun _ => 0, fun j => if j = 0 then cI else if j = 1 then cJ else if j = 2 then cZ else if j = 3 then cJJ else cII), ⟨hKc, fun k q hk => ?_⟩, hII, hJJ⟩
    match k, hk with
    | 0, hk => cases hk; exact ⟨fun n z => ⟨fun q hq => (by cases hq), kI, nI, mI, dI⟩, fI⟩
    | 1, hk => cases hk; exact ⟨fun n z => ⟨fun q hq => (by cases hq), kJ, nJ, mJ, dJ⟩, fJ⟩
    | 2, hk => cases hk; exact ⟨fun n z => ⟨fun q hq => (by cases hq), kZ, nZ, mZ, dZ⟩, fZ⟩
    | 3, hk => cases hk; exact ⟨fun n z => ⟨fun q hq => (by cases hq), kJJ, nJJ, mJJ, dJJ⟩, lJJ⟩
    | 4, hk => cases hk; exact ⟨fun n z => ⟨fun q hq => (by cases hq), kII, nII, mII, dII⟩, lII⟩
    | k + 5, hk => simp [uT] at hk
  have hN : ∀ w ∈ uNest, va_Nw w s := by
    intro w hw
    simp only [uNest, List.mem_cons, List.not_mem_nil, or_false] at hw
    rcases hw with rfl | rfl | rfl | rfl
    · exact va_Nw.of rfl (hts (.methodLinkNest RX0 56 yX5_rest "TrialSearch") (List.mem_of_getElem? (i := 554) rfl))
    · exact va_Nw.of rfl (hts (.methodLinkNest RX0 60 yX5_cut "TrialSearch") (List.mem_of_getElem? (i := 555) rfl))
    · exact va_Nw.of rfl (hts (.methodLinkNest RX1 45 yX5_cut "TrialSearch") (List.mem_of_getElem? (i := 491) rfl))
    · exact va_Nw.of rfl (hts (.methodLinkNest RX3 69 yX5_cut "TrialSearch") (List.mem_of_getElem? (i := 290) rfl))
  have hS : va_S (fun q : Nat => s.heap.size ≤ q) s.heap s.heap [] := va_S.rf
  have hP : va_P g0.1 vwCl ([] : va_W) s.heap := fun k q h => by simp at h
  have hD : va_D (fun q : Nat => s.heap.size ≤ q) ([] : va_W) := ⟨fun i j p q h => by simp at h, fun k q h => by simp at h⟩
  have hl := lv_entry ([.ref b]) (n := 4) (Nat.le_of_ble_eq_true rfl)
  rw [lg_entry_eq]
  generalize (lg_sl ([.ref b]) ++ List.replicate (4 - (lg_sl ([.ref b])).length) Slot.unset).toArray = ls at hl ⊢
  have hl : lv_has ls 4 [(0, .ref b)] := hl
  refine va_new (ci := 4) (fs := [.null, .null, .null, .null]) (C := RX5) (T := TX5) (N := 4) hx hb hts inX5 tyX5 tyX5_ok hown (hts1 (.classLink RL 7 RX5) (by decide +kernel)) (hts1 (.instantiable RX5 4) (by decide +kernel)) (hts1 (.initialized RX5) (by decide +kernel)) hK.1 hP hD hS hA rfl (by decide +kernel) (Nat.le_of_ble_eq_true rfl) (Nat.le_of_ble_eq_true rfl) dL_law_0 (fun q0 H hP hD hS => ?_)
  refine W.widen (k := 1) (n := 4) (Nat.le_of_ble_eq_true rfl) (Nat.le_of_ble_eq_true rfl) ?_
  refine lv_dup hx hb dL_law_3 rfl ?_
  have hPc := cw_lastP hP
  have hDc := cw_lastD hD
  have hFc := cw_free hD hS hA
  refine va_callv (va_runI (As := []) (rest := [.ref q0]) ⟨hx, hb, hml, hown, hts1⟩ (c_X5_init l g0 q0 H.size) (cwI 0 hts1 gL_law_X5_init rfl rfl rfl (hts1 (.initialized RX5) (by decide +kernel)) (hts1 (.methodLink RL 9 yX5_init) (by decide +kernel)) (hts1 (.instanceMethod yX5_init) (by decide +kernel)) rfl (by decide +kernel) ⟨Nat.le_of_ble_eq_true rfl, Nat.le_of_ble_eq_true rfl⟩) ⟨fun a U f mk q => by obtain ⟨q0, q1, qP, qK, qD⟩ := q; exact ⟨q0, q1, qP, qK.call f mk a, qD⟩, fun U hU hW => ⟨rfl, by rw [hU], by rw [hU]; exact hPc, hK.alike hW.alike, hDc⟩⟩ rfl rfl hl.1 rfl (lv_room (Nat.le_of_ble_eq_true rfl)) dL_law_4 ⟨Nat.le_of_ble_eq_true rfl, Nat.le_of_ble_eq_true rfl⟩) hS (fun q _ h => hFc q h) hFc (fun w5 t H1 locs ht hvm hs5 hB hz1 hk1 hS => ?_)
  obtain ⟨hP1, hD1⟩ := hB
  rw [ht] at hP1
  obtain ⟨hP, hD⟩ := cw_join (pre := ([] : va_W)) hP hD hk1 hFc hP1 hD1
  generalize H1 = H at hP hS ⊢
  refine W.widen (k := 166) (n := 3289) (Nat.le_of_ble_eq_true rfl) (Nat.le_of_ble_eq_true rfl) ?_
  refine lv_astore_n (lv' := [(1, .ref q0), (0, .ref b)]) hx hb dL_law_7 rfl hl (by decide) rfl (fun ls hl => ?_)
  refine va_new (ci := 5) (fs := [.int 0, .null, .null, .null, .null, .null, .int 0, .null, .null, .null, .null, .null, .null, .int 0, .null, .int 0, .null, .null, .null, .null, .int 0, .int 0, .int 0, .int 0, .long 0, .int 0, .int 0, .int 0, .null, .null, .null]) (C := RX6) (T := TX6) (N := 31) hx hb hts inX6 tyX6 tyX6_ok hown (hts1 (.classLink RL 10 RX6) (by decide +kernel)) (hts1 (.instantiable RX6 31) (by decide +kernel)) (hts1 (.initialized RX6) (by decide +kernel)) hK.1 hP hD hS hA rfl (by decide +kernel) (Nat.le_of_ble_eq_true rfl) (Nat.le_of_ble_eq_true rfl) dL_law_8 (fun q5 H hP hD hS => ?_)
  refine W.widen (k := 167) (n := 3320) (Nat.le_of_ble_eq_true rfl) (Nat.le_of_ble_eq_true rfl) ?_
  refine lv_dup hx hb dL_law_11 rfl ?_
  have hPc := cw_lastP hP
  have hDc := cw_lastD hD
  have hFc := cw_free hD hS hA
  refine va_callv (va_runI (As := []) (rest := [.ref q5]) ⟨hx, hb, hml, hown, hts1⟩ (c_X6_init l g0 q5 H.size) (cwI 0 hts1 gL_law_X6_init rfl rfl rfl (hts1 (.initialized RX6) (by decide +kernel)) (hts1 (.methodLink RL 12 yX6_init) (by decide +kernel)) (hts1 (.instanceMethod yX6_init) (by decide +kernel)) rfl (by decide +kernel) ⟨Nat.le_of_ble_eq_true rfl, Nat.le_of_ble_eq_true rfl⟩) ⟨fun a U f mk q => by obtain ⟨q0, q1, qP, qK, qD⟩ := q; exact ⟨q0, q1, qP, qK.call f mk a, qD⟩, fun U hU hW => ⟨rfl, by rw [hU], by rw [hU]; exact hPc, hK.alike hW.alike, hDc⟩⟩ rfl rfl hl.1 rfl (lv_room (Nat.le_of_ble_eq_true rfl)) dL_law_12 ⟨Nat.le_of_ble_eq_true rfl, Nat.le_of_ble_eq_true rfl⟩) hS (fun q _ h => hFc q h) hFc (fun w6 t H1 locs ht hvm hs6 hB hz1 hk1 hS => ?_)
  obtain ⟨hP1, hD1⟩ := hB
  rw [ht] at hP1
  obtain ⟨hP, hD⟩ := cw_join (pre := (([] : va_W) ++ w5)) hP hD hk1 hFc hP1 hD1
  generalize H1 = H at hP hS ⊢
  refine W.widen (k := 186) (n := 11378) (Nat.le_of_ble_eq_true rfl) (Nat.le_of_ble_eq_true rfl) ?_
  refine lv_astore_n (lv' := [(2, .ref q5), (1, .ref q0), (0, .ref b)]) hx hb dL_law_15 rfl hl (by decide) rfl (fun ls hl => ?_)
  refine lv_iconst (v := 0) hx hb dL_law_16 (by decide) ?_
  refine lv_istore_n (lv' := [(3, .int 0), (2, .ref q5), (1, .ref q0), (0, .ref b)]) hx hb dL_law_17 rfl hl (by decide) rfl (fun ls hl => ?_)
  obtain ⟨q1, w1, q2, w2, q3, w3, q4, w4, hsh1, hsh2, hsh3, hsh4, rfl⟩ := hs5
  obtain ⟨q29, q30, q31, q32, q33, q34, q35, q36, q37, q38, q39, q40, q41, q42, q43, q44, q45, q46, q47, rfl⟩ := hs6
  obtain ⟨q6, q7, q8, q9, q10, q11, q12, r12, fc12, hfc12, rfl⟩ := hsh1
  obtain ⟨q13, q14, q15, q16, q17, r17, fc17, q18, r18, fc18, q19, q20, q21, hfc17, hfc18, rfl⟩ := hsh2
  obtain ⟨q22, q23, rfl⟩ := hsh3
  obtain ⟨q24, q25, q26, q27, r27, fc27, q28, hfc27, rfl⟩ := hsh4
  obtain ⟨hU, hi, hF⟩ := cv_U (sz := s.heap.size) g0 (f := (fun k => [q0, q1, q2, q3, q4, q5, q6, q7, q8, q9, q10, q11, q12, q13, q14, q15, q16, q17, q18, q19, q20, q21, q22, q23, q24, q25, q26, q27, q28, q29, q30, q31, q32, q33, q34, q35, q36, q37, q38, q39, q40, q41, q42, q43, q44, q45, q46, q47].getD k 0)) hfc12 hfc17 hfc18 hfc27 hP hD
  refine va_forget (fun q hq => hS.2.2 q hq) ?_
  refine W.widen (k := 600000) (n := 7302250) (Nat.le_of_ble_eq_true rfl) (Nat.le_of_ble_eq_true rfl) ?_
  exact law_loop (g := (g0.1, (adF (fun k => [q0, q1, q2, q3, q4, q5, q6, q7, q8, q9, q10, q11, q12, q13, q14, q15, q16, q17, q18, q19, q20, q21, q22, q23, q24, q25, q26, q27, q28, q29, q30, q31, q32, q33, q34, q35, q36, q37, q38, q39, q40, q41, q42, q43, q44, q45, q46, q47].getD k 0) r12 r17 r18 r27), g0.2.2)) hL C0 ⟨hK.1, hi, hN⟩ hF (L + 1) 0 (Nat.zero_le _) (by omega) A0 B0 H [] 0 ls nI_0.symm ⟨hU, hS.1, fun q h1 h2 => hS.2.1 q h1 (Nat.not_le.mpr h1), fun _ h => by cases h⟩ inv0 (lv_sub hl [3, 2, 1, 0] rfl)
