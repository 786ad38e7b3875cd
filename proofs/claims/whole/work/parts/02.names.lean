/-! ===== BEGIN words of one list among another's, by their places ===== -/
theorem goodIn_r {big : List Cond} (ws : List Cond) (ps : List Nat) (hp : ws = ps.filterMap (fun i => big[i]?)) (h : ws.all goodWord = true) : GoodIn big ws := by
  intro w hw
  have h1 := List.all_eq_true.mp h w hw
  rw [hp] at hw
  obtain ⟨i, -, hi⟩ := List.mem_filterMap.mp hw
  have hm : w ∈ big := by first | exact List.mem_of_getElem? hi | exact List.getElem?_mem hi
  exact ⟨hm, good_of_word h1⟩
theorem goodIn_app {big a b : List Cond} (ha : GoodIn big a) (hb : GoodIn big b) : GoodIn big (a ++ b) := fun w h => (List.mem_append.mp h).elim (ha w) (hb w)
theorem goodIn_ca {big a b : List Cond} {c : Cond} (ha : GoodIn big (c :: a)) (hb : GoodIn big b) : GoodIn big (c :: (a ++ b)) := fun w h => (List.mem_cons.mp h).elim (fun e => ha w (List.mem_cons.mpr (Or.inl e))) (fun h => (List.mem_append.mp h).elim (fun h => ha w (List.mem_cons.mpr (Or.inr h))) (hb w))
theorem goodIn_sub {big ws : List Cond} (hm : ∀ w ∈ ws, w ∈ big) (h : ws.all goodWord = true) : GoodIn big ws := fun w hw => ⟨hm w hw, good_of_word (List.all_eq_true.mp h w hw)⟩
/-! ===== END ===== -/

/-! ===== BEGIN new T[n][m]: the outer array a place, the inner ones among the pooled ===== -/
/-- f, but v at every address of l -/
def vr_up {α : Type} (f : Nat → α) (l : List Nat) (v : α) : Nat → α := fun a => if a ∈ l then v else f a
theorem vr_up_in {α : Type} {f : Nat → α} {l : List Nat} {v : α} {a : Nat} (h : a ∈ l) : vr_up f l v a = v := if_pos h
theorem vr_up_ne {α : Type} {f : Nat → α} {l : List Nat} {v : α} {a : Nat} (h : a ∉ l) : vr_up f l v a = f a := if_neg h
theorem vr_rows {L l : List Nat} {f : Nat → va_E} {e : va_E} (h : ∀ a, a ∈ l → a ∉ L) : va_pl L f ++ l.map (fun a => (a, e)) = va_pl (L ++ l) (vr_up f l e) := by
  unfold va_pl
  rw [List.map_append]
  congr 1
  · apply List.map_congr_left
    intro a ha
    rw [vr_up_ne (fun q => h a q ha)]
  · apply List.map_congr_left
    intro a ha
    rw [vr_up_in ha]
theorem vr_lay {X rows : va_W} {x : Nat × va_E} {pl : va_W} {D : va_G} {cl : List vw_C} {H : Heap} (hP : va_P D cl (((X ++ pl) ++ [x]) ++ rows) H) : va_P D cl ((X ++ [x]) ++ (pl ++ rows)) H := by
  rw [List.append_assoc (X ++ pl)] at hP
  have h := va_P.swap hP
  rw [← List.append_assoc X] at h
  have h2 := va_P.swap h
  rw [List.append_assoc (X ++ [x])] at h2
  exact h2
theorem vr_layD {X rows : va_W} {x : Nat × va_E} {pl : va_W} {A : Nat → Prop} (hD : va_D A (((X ++ pl) ++ [x]) ++ rows)) : va_D A ((X ++ [x]) ++ (pl ++ rows)) := by
  rw [List.append_assoc (X ++ pl)] at hD
  have h := va_D.swap hD
  rw [← List.append_assoc X] at h
  have h2 := va_D.swap h
  rw [List.append_assoc (X ++ [x])] at h2
  exact h2
theorem vr_outer (c : ClassId) (N h0 : Nat) : ∀ i : Nat, Jvm.Free.Multi.outerC c N h0 i = arrV c N (fun j => va_rf (if j < i then some (h0 + 1 + j) else none))
  | 0 => by
    show ({ cls := c, slots := Array.replicate N .null, vm := .none } : Cell) = _
    rw [arrV_new]
    refine congrArg (arrV c N) (funext fun j => ?_)
    simp [va_rf]
  | i + 1 => by
    show (Jvm.Free.Multi.outerC c N h0 i).setSlot i (.ref (h0 + 1 + i)) = _
    rw [vr_outer c N h0 i, arrV_store]
    refine congrArg (arrV c N) (funext fun j => ?_)
    by_cases e : j = i
    · subst e
      simp [updV, va_rf]
    · by_cases h : j < i
      · simp [updV, e, h, Nat.lt_succ_of_lt h]
      · simp [updV, e, h, show ¬ j < i + 1 by omega]
section VGM
variable {p : Program} {l : Launch} {e : Env} {R : Room} {s : State} {m : MethodId} {args : Array Value} {below : List Frame} {meth : Method} {c : Code} {H : Heap} {locs : List Loc} {cells slots : Nat} {Q : State → Prop}
variable {cc : ByteArray} {pc : Nat} {ls : Array Slot} {rest : List Value} {D : va_G} {cl : List vw_C} {A : Nat → Prop} {a : Nat} {tys : List (ClassId × FieldType)} {ws : va_W} {H0 : Heap}
theorem va_mna {X : va_W} {L : List Nat} {f : Nat → va_E} {cc : ByteArray} (hexec : p.tables.exec = Jvm.exec) (hb : c.code = cc) {own : String} {index : Nat} {ty : FieldType} {cy : ClassId} (hown : s.vm.findClass own = some m.cls) (hclink : (Cond.classLink own index ("[" ++ (FieldType.array ty).toString)).before args s = true) (hover : va_AOA ty s) (harr : (Cond.arrayClass ty).before args s = true) (hcy : s.vm.findClass (FieldType.array ty).toString = some cy)
    (hK : va_K D cl tys s) (hP : va_P D cl (X ++ va_pl L f) H) (hD : va_D A (X ++ va_pl L f)) (hS : va_S A H0 H locs) (hA : ∀ q, H0.size ≤ q → A q) {n k : Int32} {N' K' : Nat} {z : vp_A} (hn : ¬ n < 0) (hk : ¬ k < 0) (hN : n.toNatClampNeg = N') (hM : k.toNatClampNeg = K')
    (hb1 : N' * 4 ≤ 536870912) (hb2 : K' * componentBytes ty ≤ 536870912) (hb3 : K' ≤ 536870912) (hdf : fits ty (defaultValue ty) = true) (hdd : (defaultValue ty).isDefault = true) (hcells : cells + (1 + N') ≤ R.cells) (hslots : slots + (N' + N' * K') ≤ R.slots) (hz : ∀ c : ClassId, Jvm.Free.Multi.innerC c K' (defaultValue ty) = vp_cell c z) (hdg : decode cc pc = .ok (.multianewarray index 2, 4))
    (kk : ∀ (q : Nat) (r : Nat → Nat) (cA : ClassId) (H1 : Heap), (∀ i j : Nat, i < N' → j < N' → r i = r j → i = j) → (∀ i : Nat, i < N' → r i ∉ L) → va_K D cl (tys ++ [(cA, .array ty)]) s →
      va_P D cl ((X ++ [(q, .inl (cA, N', .inr (.inr (.inr (.inr (fun i => if i < N' then some (r i) else none))))))]) ++ va_pl (L ++ (List.range N').map r) (vr_up f ((List.range N').map r) (.inl (cy, z)))) H1 → va_D A ((X ++ [(q, .inl (cA, N', .inr (.inr (.inr (.inr (fun i => if i < N' then some (r i) else none))))))]) ++ va_pl (L ++ (List.range N').map r) (vr_up f ((List.range N').map r) (.inl (cy, z)))) → va_S A H0 H1 locs →
      W p l e R s m args below meth c H1 locs (cells + 1 + N') (slots + N' + N' * K') Q (F0 m (pc + 4) ls (.ref q :: rest))) : W p l e R s m args below meth c H locs cells slots Q (F0 m pc ls (.int k :: .int n :: rest)) := by
  subst hN
  subst hM
  intro T hT Xs
  obtain ⟨vm₁, cA, comp, -, fA, fC, hO, -, X', step⟩ := Xs.multianewarray2F hexec hown hclink (va_AOA.use hover) harr (g := F0 m pc ls (.int k :: .int n :: rest)) rfl (by rw [hb]; exact hdg) rfl hn hk hb1 hb2 hb3 hdf hdd hcells hslots
  have ec : some cy = some comp := hcy.symm.trans fC
  cases ec
  generalize hF : Jvm.Free.Multi.fill (T.setVm vm₁) cA cy n.toNatClampNeg k.toNatClampNeg (defaultValue ty) n.toNatClampNeg = F at X' step
  have hTh : (T.setVm vm₁).heap = H := hT
  obtain ⟨f1, f2, -, -⟩ := Jvm.Free.Multi.fill_facts (T.setVm vm₁) cA cy n.toNatClampNeg k.toNatClampNeg (defaultValue ty) n.toNatClampNeg
  rw [hF, hTh] at f1 f2
  have hold : ∀ x : Nat, x < H.size → F.heap[x]? = H[x]? := fun x hx => by
    have := Jvm.Free.Multi.fill_old (T.setVm vm₁) cA cy n.toNatClampNeg k.toNatClampNeg (defaultValue ty) (a := x) (by rw [hTh]; exact hx) n.toNatClampNeg
    rw [hF, hTh] at this
    exact this
  have hrow : ∀ j : Nat, j < n.toNatClampNeg → F.heap[H.size + 1 + j]? = some (vp_cell cy z) := fun j hj => by
    have := Jvm.Free.Multi.fill_inner (T.setVm vm₁) cA cy n.toNatClampNeg k.toNatClampNeg (defaultValue ty) n.toNatClampNeg j hj
    rw [hF, hTh, hz] at this
    exact this
  have hout : Jvm.Free.Multi.outerC cA n.toNatClampNeg H.size n.toNatClampNeg = vp_cell cA (n.toNatClampNeg, .inr (.inr (.inr (.inr (fun i => if i < n.toNatClampNeg then some (H.size + 1 + i) else none))))) := by
    rw [vp_cell_q]
    exact vr_outer cA n.toNatClampNeg H.size n.toNatClampNeg
  rw [hout] at f2
  have hlt : ∀ a, a ∈ L → a < H.size := fun a ha => by
    obtain ⟨k9, hk9⟩ := va_pl_get (X := X) (f := f) ha
    exact (hP k9 _ hk9).lt
  have hnl : ∀ i : Nat, i < n.toNatClampNeg → H.size + 1 + i ∉ L := fun i _ h => by
    have := hlt _ h
    omega
  have hnm : ∀ a, a ∈ (List.range n.toNatClampNeg).map (fun i => H.size + 1 + i) → a ∉ L := fun a ha h => by
    obtain ⟨i, -, rfl⟩ := List.mem_map.mp ha
    have := hlt _ h
    omega
  have hP0 : va_P D cl (X ++ va_pl L f) F.heap := hP.kept (fun k9 x hx => hold x.1 ((hP k9 x hx).lt))
  have hP1 : va_P D cl ((X ++ va_pl L f) ++ [(H.size, .inl (cA, n.toNatClampNeg, .inr (.inr (.inr (.inr (fun i => if i < n.toNatClampNeg then some (H.size + 1 + i) else none))))))]) F.heap := hP0.app (fun k9 x hx => by
    have h0 : k9 < 1 := (List.getElem?_eq_some_iff.mp hx).1
    rw [show k9 = 0 by omega] at hx
    cases hx
    exact f2)
  have hP2 : va_P D cl (((X ++ va_pl L f) ++ [(H.size, .inl (cA, n.toNatClampNeg, .inr (.inr (.inr (.inr (fun i => if i < n.toNatClampNeg then some (H.size + 1 + i) else none))))))]) ++ ((List.range n.toNatClampNeg).map (fun i => H.size + 1 + i)).map (fun a => (a, .inl (cy, z)))) F.heap := hP1.app (fun k9 x hx => by
    obtain ⟨a, ha, rfl⟩ := List.mem_map.mp (List.mem_of_getElem? hx)
    obtain ⟨i, hi, rfl⟩ := List.mem_map.mp ha
    exact hrow i (List.mem_range.mp hi))
  have hD2 : va_D A (((X ++ va_pl L f) ++ [(H.size, .inl (cA, n.toNatClampNeg, .inr (.inr (.inr (.inr (fun i => if i < n.toNatClampNeg then some (H.size + 1 + i) else none))))))]) ++ ((List.range n.toNatClampNeg).map (fun i => H.size + 1 + i)).map (fun a => (a, .inl (cy, z)))) := by
    have hD1 := hD.push (e := .inl (cA, n.toNatClampNeg, .inr (.inr (.inr (.inr (fun i => if i < n.toNatClampNeg then some (H.size + 1 + i) else none)))))) hP rfl (hA _ hS.1)
    generalize hW1 : (X ++ va_pl L f) ++ [(H.size, .inl (cA, n.toNatClampNeg, .inr (.inr (.inr (.inr (fun i => if i < n.toNatClampNeg then some (H.size + 1 + i) else none))))))] = W1 at hD1 hP1 ⊢
    have hle : ∀ (k9 : Nat) (x : Nat × va_E), W1[k9]? = some x → x.1 ≤ H.size := fun k9 x hx => by
      rw [← hW1] at hx
      by_cases hl : k9 < (X ++ va_pl L f).length
      · rw [List.getElem?_append_left hl] at hx
        exact Nat.le_of_lt ((hP k9 x hx).lt)
      · rw [List.getElem?_append_right (by omega)] at hx
        have h0 : k9 - (X ++ va_pl L f).length < 1 := (List.getElem?_eq_some_iff.mp hx).1
        rw [show k9 - (X ++ va_pl L f).length = 0 by omega] at hx
        cases hx
        exact Nat.le_refl _
    have hr : ∀ (k9 : Nat) (x : Nat × va_E), (((List.range n.toNatClampNeg).map (fun i => H.size + 1 + i)).map (fun a => ((a, .inl (cy, z)) : Nat × va_E)))[k9]? = some x → x.1 = H.size + 1 + k9 := fun k9 x hx => by
      rw [List.getElem?_map, List.getElem?_map] at hx
      by_cases h9 : k9 < n.toNatClampNeg
      · rw [List.getElem?_range h9] at hx
        cases hx
        rfl
      · have hn0 : (List.range n.toNatClampNeg)[k9]? = none := List.getElem?_eq_none (by rw [List.length_range]; omega)
        rw [hn0] at hx
        cases hx
    refine ⟨fun i j x y hi hj hxy => ?_, fun k9 x hx => ?_⟩
    · by_cases h1 : i < W1.length <;> by_cases h2 : j < W1.length
      · rw [List.getElem?_append_left h1] at hi
        rw [List.getElem?_append_left h2] at hj
        exact hD1.1 i j x y hi hj hxy
      · rw [List.getElem?_append_left h1] at hi
        rw [List.getElem?_append_right (by omega)] at hj
        have := hle _ _ hi
        have := hr _ _ hj
        omega
      · rw [List.getElem?_append_right (by omega)] at hi
        rw [List.getElem?_append_left h2] at hj
        have := hle _ _ hj
        have := hr _ _ hi
        omega
      · rw [List.getElem?_append_right (by omega)] at hi hj
        have := hr _ _ hi
        have := hr _ _ hj
        omega
    · by_cases h1 : k9 < W1.length
      · rw [List.getElem?_append_left h1] at hx
        exact hD1.2 k9 x hx
      · rw [List.getElem?_append_right (by omega)] at hx
        have := hr _ _ hx
        exact hA _ (by have := hS.1; omega)
  have hAr : ArrOfT s cA (.array ty) := fun N9 z9 => by
    obtain ⟨-, k9, hk9, cm9, hkk9⟩ := (hO 0 0 0).1
    exact ⟨(fun q hq => by cases hq), k9, hk9, cm9, hkk9⟩
  have hK2 : va_K D cl (tys ++ [(cA, .array ty)]) s := ⟨hK.1, fun k9 x hx => by
    by_cases hl : k9 < tys.length
    · rw [List.getElem?_append_left hl] at hx
      exact hK.2 k9 x hx
    · rw [List.getElem?_append_right (by omega)] at hx
      have h0 : k9 - tys.length < 1 := (List.getElem?_eq_some_iff.mp hx).1
      rw [show k9 - tys.length = 0 by omega] at hx
      cases hx
      exact ⟨hAr, fA⟩⟩
  obtain ⟨t, a1, b1⟩ := kk H.size (fun i => H.size + 1 + i) cA F.heap (fun i j _ _ h => by have h9 : H.size + 1 + i = H.size + 1 + j := h; omega) hnl hK2 (by rw [← vr_rows hnm]; exact vr_lay hP2) (by rw [← vr_rows hnm]; exact vr_layD hD2) ⟨by rw [f1]; have := hS.1; omega, fun x h1 h2 => (hold x (Nat.lt_of_lt_of_le h1 hS.1)).trans (hS.2.1 x h1 h2), hS.2.2⟩ F rfl X'
  refine ⟨t, step t ?_, b1⟩
  have e : T.heap.size = H.size := by rw [hT]
  rw [e]
  exact a1
end VGM
/-! ===== END ===== -/

/-! ===== BEGIN printed: names, fields, word lists, decode rows ===== -/
def RX0 : String := "TrialSearch$Folds"
def TX0 : u_T := fun k => match k with
  | 0 => ("TrialSearch$Folds", "rows", "I", false)
  | 1 => ("TrialSearch$Folds", "outer", "I", false)
  | 2 => ("TrialSearch$Folds", "inner", "I", false)
  | 3 => ("TrialSearch$Folds", "outerOf", "[I", true)
  | 4 => ("TrialSearch$Folds", "innerOf", "[I", true)
  | 5 => ("TrialSearch$Folds", "tested", "[I", true)
  | 6 => ("TrialSearch$Folds", "chosen", "[[I", true)
  | _ => ("TrialSearch$Folds", "order", "[J", true)
def tyX0 : Nat → FieldType := fun k => match k with
  | 0 => .int
  | 1 => .int
  | 2 => .int
  | 3 => .array .int
  | 4 => .array .int
  | 5 => .array .int
  | 6 => .array (.array .int)
  | _ => .array .long
abbrev wsX00 : List Cond := u_ws RX0 TX0 8
theorem nmX0 : ∀ a, a < 8 → ∀ b, b < 8 → a ≠ b → (TX0 a).2.1 ≠ (TX0 b).2.1 := by decide +kernel
theorem tyX0_ok : ∀ k, k < 8 → parseFieldDescriptor (TX0 k).2.2.1 = some (tyX0 k) := by decide +kernel
abbrev cX0_init : ByteArray := prog_2_method_1_code
def yX0_init : MethodName := ⟨RX0, "<init>", "()V"⟩
abbrev cX0_make : ByteArray := prog_2_method_2_code
def yX0_make : MethodName := ⟨RX0, "make", "(IIII)V"⟩
abbrev cX0_sortIn : ByteArray := prog_2_method_3_code
def yX0_sortIn : MethodName := ⟨RX0, "sortIn", "(JI)V"⟩
abbrev cX0_test : ByteArray := prog_2_method_4_code
def yX0_test : MethodName := ⟨RX0, "test", "(I)I"⟩
abbrev cX0_choose : ByteArray := prog_2_method_5_code
def yX0_choose : MethodName := ⟨RX0, "choose", "(II)I"⟩
abbrev cX0_trained : ByteArray := prog_2_method_6_code
def yX0_trained : MethodName := ⟨RX0, "trained", "(II)I"⟩
abbrev cX0_validated : ByteArray := prog_2_method_7_code
def yX0_validated : MethodName := ⟨RX0, "validated", "(II)I"⟩
abbrev cX0_testing : ByteArray := prog_2_method_8_code
def yX0_testing : MethodName := ⟨RX0, "testing", "(II)I"⟩
def RX1 : String := "TrialSearch$Rounds"
def TX1 : u_T := fun k => match k with
  | 0 => ("TrialSearch$Rounds", "started", "Z", false)
  | 1 => ("TrialSearch$Rounds", "spent", "J", false)
  | 2 => ("TrialSearch$Rounds", "marks", "[I", true)
  | 3 => ("TrialSearch$Rounds", "stands", "[I", true)
  | 4 => ("TrialSearch$Rounds", "over", "Z", false)
  | 5 => ("TrialSearch$Rounds", "in", "I", false)
  | 6 => ("TrialSearch$Rounds", "waiting", "I", false)
  | 7 => ("TrialSearch$Rounds", "halved", "I", false)
  | 8 => ("TrialSearch$Rounds", "budget", "I", false)
  | _ => ("TrialSearch$Rounds", "factor", "I", false)
def tyX1 : Nat → FieldType := fun k => match k with
  | 0 => .boolean
  | 1 => .long
  | 2 => .array .int
  | 3 => .array .int
  | 4 => .boolean
  | 5 => .int
  | 6 => .int
  | 7 => .int
  | 8 => .int
  | _ => .int
abbrev wsX10 : List Cond := u_ws RX1 TX1 10
theorem nmX1 : ∀ a, a < 10 → ∀ b, b < 10 → a ≠ b → (TX1 a).2.1 ≠ (TX1 b).2.1 := by decide +kernel
theorem tyX1_ok : ∀ k, k < 10 → parseFieldDescriptor (TX1 k).2.2.1 = some (tyX1 k) := by decide +kernel
abbrev cX1_init : ByteArray := prog_3_method_1_code
def yX1_init : MethodName := ⟨RX1, "<init>", "()V"⟩
abbrev cX1_start : ByteArray := prog_3_method_2_code
def yX1_start : MethodName := ⟨RX1, "start", "(IIII)V"⟩
abbrev cX1_isIn : ByteArray := prog_3_method_3_code
def yX1_isIn : MethodName := ⟨RX1, "isIn", "(I)Z"⟩
abbrev cX1_isWaiting : ByteArray := prog_3_method_4_code
def yX1_isWaiting : MethodName := ⟨RX1, "isWaiting", "(I)Z"⟩
abbrev cX1_mark : ByteArray := prog_3_method_5_code
def yX1_mark : MethodName := ⟨RX1, "mark", "(IIZ)I"⟩
abbrev cX1_canEnd : ByteArray := prog_3_method_6_code
def yX1_canEnd : MethodName := ⟨RX1, "canEnd", "()Z"⟩
abbrev cX1_end : ByteArray := prog_3_method_7_code
def yX1_end : MethodName := ⟨RX1, "end", "()I"⟩
abbrev cX1_keepGreatest : ByteArray := prog_3_method_8_code
def yX1_keepGreatest : MethodName := ⟨RX1, "keepGreatest", "()Z"⟩
abbrev cX1_openRound : ByteArray := prog_3_method_9_code
def yX1_openRound : MethodName := ⟨RX1, "openRound", "()V"⟩
abbrev cX1_tell : ByteArray := prog_3_method_10_code
def yX1_tell : MethodName := ⟨RX1, "tell", "(I)I"⟩
def RX2 : String := "TrialSearch$Seeds"
def TX2 : u_T := fun k => match k with
  | _ => ("", "", "", false)
def tyX2 : Nat → FieldType := fun k => match k with
  | _ => .int
abbrev wsX20 : List Cond := u_ws RX2 TX2 0
theorem nmX2 : ∀ a, a < 0 → ∀ b, b < 0 → a ≠ b → (TX2 a).2.1 ≠ (TX2 b).2.1 := by decide +kernel
theorem tyX2_ok : ∀ k, k < 0 → parseFieldDescriptor (TX2 k).2.2.1 = some (tyX2 k) := by decide +kernel
abbrev cX2_hash : ByteArray := prog_4_method_2_code
def yX2_hash : MethodName := ⟨RX2, "hash", "(II)I"⟩
abbrev cX2_pick : ByteArray := prog_4_method_3_code
def yX2_pick : MethodName := ⟨RX2, "pick", "(JI)J"⟩
abbrev cX2_twoHashes : ByteArray := prog_4_method_4_code
def yX2_twoHashes : MethodName := ⟨RX2, "twoHashes", "(II)J"⟩
abbrev cX2_bitsFor : ByteArray := prog_4_method_5_code
def yX2_bitsFor : MethodName := ⟨RX2, "bitsFor", "(J)I"⟩
def RX3 : String := "TrialSearch$Space"
def TX3 : u_T := fun k => match k with
  | 0 => ("TrialSearch$Space", "names", "I", false)
  | 1 => ("TrialSearch$Space", "all", "J", false)
  | 2 => ("TrialSearch$Space", "left", "[I", true)
  | 3 => ("TrialSearch$Space", "right", "[I", true)
  | 4 => ("TrialSearch$Space", "many", "[I", true)
  | 5 => ("TrialSearch$Space", "on", "[I", true)
  | 6 => ("TrialSearch$Space", "set", "[I", true)
  | 7 => ("TrialSearch$Space", "ways", "[J", true)
  | _ => ("TrialSearch$Space", "waysBelow", "[[J", true)
def tyX3 : Nat → FieldType := fun k => match k with
  | 0 => .int
  | 1 => .long
  | 2 => .array .int
  | 3 => .array .int
  | 4 => .array .int
  | 5 => .array .int
  | 6 => .array .int
  | 7 => .array .long
  | _ => .array (.array .long)
abbrev wsX30 : List Cond := u_ws RX3 TX3 9
theorem nmX3 : ∀ a, a < 9 → ∀ b, b < 9 → a ≠ b → (TX3 a).2.1 ≠ (TX3 b).2.1 := by decide +kernel
theorem tyX3_ok : ∀ k, k < 9 → parseFieldDescriptor (TX3 k).2.2.1 = some (tyX3 k) := by decide +kernel
abbrev cX3_init : ByteArray := prog_5_method_1_code
def yX3_init : MethodName := ⟨RX3, "<init>", "()V"⟩
abbrev cX3_add : ByteArray := prog_5_method_2_code
def yX3_add : MethodName := ⟨RX3, "add", "(III)I"⟩
abbrev cX3_countWays : ByteArray := prog_5_method_3_code
def yX3_countWays : MethodName := ⟨RX3, "countWays", "()V"⟩
abbrev cX3_sumOfWays : ByteArray := prog_5_method_4_code
def yX3_sumOfWays : MethodName := ⟨RX3, "sumOfWays", "(I)J"⟩
abbrev cX3_hang : ByteArray := prog_5_method_5_code
def yX3_hang : MethodName := ⟨RX3, "hang", "(II)V"⟩
abbrev cX3_hasBit : ByteArray := prog_5_method_6_code
def yX3_hasBit : MethodName := ⟨RX3, "hasBit", "(II)Z"⟩
abbrev cX3_isThere : ByteArray := prog_5_method_7_code
def yX3_isThere : MethodName := ⟨RX3, "isThere", "(I[I)Z"⟩
abbrev cX3_read : ByteArray := prog_5_method_8_code
def yX3_read : MethodName := ⟨RX3, "read", "(J[I)V"⟩
abbrev cX3_place : ByteArray := prog_5_method_9_code
def yX3_place : MethodName := ⟨RX3, "place", "([I)J"⟩
abbrev cX3_takeBits : ByteArray := prog_5_method_10_code
def yX3_takeBits : MethodName := ⟨RX3, "takeBits", "(J[I)Z"⟩
abbrev cX3_pickEach : ByteArray := prog_5_method_11_code
def yX3_pickEach : MethodName := ⟨RX3, "pickEach", "(I[I)V"⟩
abbrev cX3_apart : ByteArray := prog_5_method_12_code
def yX3_apart : MethodName := ⟨RX3, "apart", "([I[I)I"⟩
abbrev cX3_apartAt : ByteArray := prog_5_method_13_code
def yX3_apartAt : MethodName := ⟨RX3, "apartAt", "(III)I"⟩
def RX4 : String := "TrialSearch$Trials"
def TX4 : u_T := fun k => match k with
  | 0 => ("TrialSearch$Trials", "made", "I", false)
  | 1 => ("TrialSearch$Trials", "scored", "I", false)
  | 2 => ("TrialSearch$Trials", "places", "[J", true)
  | 3 => ("TrialSearch$Trials", "states", "[I", true)
  | 4 => ("TrialSearch$Trials", "scores", "[I", true)
  | 5 => ("TrialSearch$Trials", "steps", "[I", true)
  | 6 => ("TrialSearch$Trials", "reports", "[[I", true)
  | 7 => ("TrialSearch$Trials", "space", "LTrialSearch$Space;", true)
  | 8 => ("TrialSearch$Trials", "values", "[[I", true)
  | 9 => ("TrialSearch$Trials", "nearGaps", "[I", true)
  | 10 => ("TrialSearch$Trials", "nearScores", "[I", true)
  | _ => ("TrialSearch$Trials", "others", "[I", true)
def tyX4 : Nat → FieldType := fun k => match k with
  | 0 => .int
  | 1 => .int
  | 2 => .array .long
  | 3 => .array .int
  | 4 => .array .int
  | 5 => .array .int
  | 6 => .array (.array .int)
  | 7 => .object "TrialSearch$Space"
  | 8 => .array (.array .int)
  | 9 => .array .int
  | 10 => .array .int
  | _ => .array .int
abbrev wsX40 : List Cond := u_ws RX4 TX4 12
theorem nmX4 : ∀ a, a < 12 → ∀ b, b < 12 → a ≠ b → (TX4 a).2.1 ≠ (TX4 b).2.1 := by decide +kernel
theorem tyX4_ok : ∀ k, k < 12 → parseFieldDescriptor (TX4 k).2.2.1 = some (tyX4 k) := by decide +kernel
abbrev cX4_init : ByteArray := prog_6_method_1_code
def yX4_init : MethodName := ⟨RX4, "<init>", "(LTrialSearch$Space;)V"⟩
abbrev cX4_add : ByteArray := prog_6_method_2_code
def yX4_add : MethodName := ⟨RX4, "add", "(J)I"⟩
abbrev cX4_bestCandidate : ByteArray := prog_6_method_3_code
def yX4_bestCandidate : MethodName := ⟨RX4, "bestCandidate", "(III)J"⟩
abbrev cX4_nearSum : ByteArray := prog_6_method_4_code
def yX4_nearSum : MethodName := ⟨RX4, "nearSum", "(JI)J"⟩
abbrev cX4_holdNear : ByteArray := prog_6_method_5_code
def yX4_holdNear : MethodName := ⟨RX4, "holdNear", "(IIII)I"⟩
abbrev cX4_close : ByteArray := prog_6_method_6_code
def yX4_close : MethodName := ⟨RX4, "close", "(IIZ)I"⟩
abbrev cX4_addReport : ByteArray := prog_6_method_7_code
def yX4_addReport : MethodName := ⟨RX4, "addReport", "(III)I"⟩
abbrev cX4_isBelowMiddle : ByteArray := prog_6_method_8_code
def yX4_isBelowMiddle : MethodName := ⟨RX4, "isBelowMiddle", "(IIII)Z"⟩
abbrev cX4_sortIn : ByteArray := prog_6_method_9_code
def yX4_sortIn : MethodName := ⟨RX4, "sortIn", "(II)V"⟩
abbrev cX4_firstGreatest : ByteArray := prog_6_method_10_code
def yX4_firstGreatest : MethodName := ⟨RX4, "firstGreatest", "()I"⟩
def RX5 : String := "TrialSearch"
def TX5 : u_T := fun k => match k with
  | 0 => ("TrialSearch", "space", "LTrialSearch$Space;", true)
  | 1 => ("TrialSearch", "trials", "LTrialSearch$Trials;", true)
  | 2 => ("TrialSearch", "rounds", "LTrialSearch$Rounds;", true)
  | _ => ("TrialSearch", "parts", "LTrialSearch$Folds;", true)
def tyX5 : Nat → FieldType := fun k => match k with
  | 0 => .object "TrialSearch$Space"
  | 1 => .object "TrialSearch$Trials"
  | 2 => .object "TrialSearch$Rounds"
  | _ => .object "TrialSearch$Folds"
abbrev wsX50 : List Cond := u_ws RX5 TX5 4
theorem nmX5 : ∀ a, a < 4 → ∀ b, b < 4 → a ≠ b → (TX5 a).2.1 ≠ (TX5 b).2.1 := by decide +kernel
theorem tyX5_ok : ∀ k, k < 4 → parseFieldDescriptor (TX5 k).2.2.1 = some (tyX5 k) := by decide +kernel
abbrev cX5_init : ByteArray := prog_1_method_1_code
def yX5_init : MethodName := ⟨RX5, "<init>", "()V"⟩
abbrev cX5_name : ByteArray := prog_1_method_2_code
def yX5_name : MethodName := ⟨RX5, "name", "(III)I"⟩
abbrev cX5_points : ByteArray := prog_1_method_3_code
def yX5_points : MethodName := ⟨RX5, "points", "()J"⟩
abbrev cX5_value : ByteArray := prog_1_method_4_code
def yX5_value : MethodName := ⟨RX5, "value", "(JI)I"⟩
abbrev cX5_number : ByteArray := prog_1_method_5_code
def yX5_number : MethodName := ⟨RX5, "number", "(J)J"⟩
abbrev cX5_distance : ByteArray := prog_1_method_6_code
def yX5_distance : MethodName := ⟨RX5, "distance", "(JJ)I"⟩
abbrev cX5_trial : ByteArray := prog_1_method_7_code
def yX5_trial : MethodName := ⟨RX5, "trial", "(II)I"⟩
abbrev cX5_guess : ByteArray := prog_1_method_8_code
def yX5_guess : MethodName := ⟨RX5, "guess", "(III)I"⟩
abbrev cX5_forecast : ByteArray := prog_1_method_9_code
def yX5_forecast : MethodName := ⟨RX5, "forecast", "(JII)J"⟩
abbrev cX5_score : ByteArray := prog_1_method_10_code
def yX5_score : MethodName := ⟨RX5, "score", "(IIZ)I"⟩
abbrev cX5_report : ByteArray := prog_1_method_11_code
def yX5_report : MethodName := ⟨RX5, "report", "(III)I"⟩
abbrev cX5_told : ByteArray := prog_1_method_12_code
def yX5_told : MethodName := ⟨RX5, "told", "(II)I"⟩
abbrev cX5_point : ByteArray := prog_1_method_13_code
def yX5_point : MethodName := ⟨RX5, "point", "(I)J"⟩
abbrev cX5_reported : ByteArray := prog_1_method_14_code
def yX5_reported : MethodName := ⟨RX5, "reported", "(II)I"⟩
abbrev cX5_best : ByteArray := prog_1_method_15_code
def yX5_best : MethodName := ⟨RX5, "best", "()I"⟩
abbrev cX5_bracket : ByteArray := prog_1_method_16_code
def yX5_bracket : MethodName := ⟨RX5, "bracket", "(IIII)I"⟩
abbrev cX5_result : ByteArray := prog_1_method_17_code
def yX5_result : MethodName := ⟨RX5, "result", "(IIZ)I"⟩
abbrev cX5_halve : ByteArray := prog_1_method_18_code
def yX5_halve : MethodName := ⟨RX5, "halve", "()I"⟩
abbrev cX5_round : ByteArray := prog_1_method_19_code
def yX5_round : MethodName := ⟨RX5, "round", "(I)I"⟩
abbrev cX5_cost : ByteArray := prog_1_method_20_code
def yX5_cost : MethodName := ⟨RX5, "cost", "()J"⟩
abbrev cX5_plan : ByteArray := prog_1_method_21_code
def yX5_plan : MethodName := ⟨RX5, "plan", "(IIII)I"⟩
abbrev cX5_folds : ByteArray := prog_1_method_22_code
def yX5_folds : MethodName := ⟨RX5, "folds", "(IIII)I"⟩
abbrev cX5_fold : ByteArray := prog_1_method_23_code
def yX5_fold : MethodName := ⟨RX5, "fold", "(II)I"⟩
abbrev cX5_use : ByteArray := prog_1_method_24_code
def yX5_use : MethodName := ⟨RX5, "use", "(II)I"⟩
abbrev cX5_used : ByteArray := prog_1_method_25_code
def yX5_used : MethodName := ⟨RX5, "used", "(III)I"⟩
abbrev cX5_within : ByteArray := prog_1_method_26_code
def yX5_within : MethodName := ⟨RX5, "within", "(JJJ)Z"⟩
abbrev cX5_isMark : ByteArray := prog_1_method_27_code
def yX5_isMark : MethodName := ⟨RX5, "isMark", "(IZ)Z"⟩
abbrev cX5_isPoint : ByteArray := prog_1_method_28_code
def yX5_isPoint : MethodName := ⟨RX5, "isPoint", "(J)Z"⟩
abbrev cX5_isTrial : ByteArray := prog_1_method_29_code
def yX5_isTrial : MethodName := ⟨RX5, "isTrial", "(I)Z"⟩
abbrev cX5_isRow : ByteArray := prog_1_method_30_code
def yX5_isRow : MethodName := ⟨RX5, "isRow", "(I)Z"⟩
abbrev cX5_isOuter : ByteArray := prog_1_method_31_code
def yX5_isOuter : MethodName := ⟨RX5, "isOuter", "(I)Z"⟩
abbrev cX5_cut : ByteArray := prog_1_method_32_code
def yX5_cut : MethodName := ⟨RX5, "cut", "(JJ)J"⟩
abbrev cX5_rest : ByteArray := prog_1_method_33_code
def yX5_rest : MethodName := ⟨RX5, "rest", "(JJ)J"⟩
abbrev cX5_cutUp : ByteArray := prog_1_method_34_code
def yX5_cutUp : MethodName := ⟨RX5, "cutUp", "(JJ)J"⟩
abbrev cX5_commonDivisor : ByteArray := prog_1_method_35_code
def yX5_commonDivisor : MethodName := ⟨RX5, "commonDivisor", "(JJ)J"⟩
abbrev cX5_power : ByteArray := prog_1_method_36_code
def yX5_power : MethodName := ⟨RX5, "power", "(II)J"⟩
abbrev cX5_lastBracket : ByteArray := prog_1_method_37_code
def yX5_lastBracket : MethodName := ⟨RX5, "lastBracket", "(II)I"⟩
abbrev cX5_placeBy : ByteArray := prog_1_method_38_code
def yX5_placeBy : MethodName := ⟨RX5, "placeBy", "(II)J"⟩
def RX6 : String := "TrialSearchModel"
def TX6 : u_T := fun k => match k with
  | 0 => ("TrialSearchModel", "names", "I", false)
  | 1 => ("TrialSearchModel", "many", "[I", true)
  | 2 => ("TrialSearchModel", "on", "[I", true)
  | 3 => ("TrialSearchModel", "set", "[I", true)
  | 4 => ("TrialSearchModel", "ways", "[J", true)
  | 5 => ("TrialSearchModel", "values", "[I", true)
  | 6 => ("TrialSearchModel", "trials", "I", false)
  | 7 => ("TrialSearchModel", "pointOf", "[J", true)
  | 8 => ("TrialSearchModel", "state", "[I", true)
  | 9 => ("TrialSearchModel", "score", "[I", true)
  | 10 => ("TrialSearchModel", "reports", "[I", true)
  | 11 => ("TrialSearchModel", "reported", "[I", true)
  | 12 => ("TrialSearchModel", "isTaken", "[Z", true)
  | 13 => ("TrialSearchModel", "taken", "I", false)
  | 14 => ("TrialSearchModel", "far", "[I", true)
  | 15 => ("TrialSearchModel", "isBracket", "Z", false)
  | 16 => ("TrialSearchModel", "isIn", "[Z", true)
  | 17 => ("TrialSearchModel", "hasResult", "[Z", true)
  | 18 => ("TrialSearchModel", "hasFailed", "[Z", true)
  | 19 => ("TrialSearchModel", "result", "[I", true)
  | 20 => ("TrialSearchModel", "budget", "I", false)
  | 21 => ("TrialSearchModel", "factor", "I", false)
  | 22 => ("TrialSearchModel", "halved", "I", false)
  | 23 => ("TrialSearchModel", "isOver", "Z", false)
  | 24 => ("TrialSearchModel", "cost", "J", false)
  | 25 => ("TrialSearchModel", "rows", "I", false)
  | 26 => ("TrialSearchModel", "outers", "I", false)
  | 27 => ("TrialSearchModel", "inners", "I", false)
  | 28 => ("TrialSearchModel", "place", "[I", true)
  | 29 => ("TrialSearchModel", "isTested", "[Z", true)
  | _ => ("TrialSearchModel", "counts", "[I", true)
def tyX6 : Nat → FieldType := fun k => match k with
  | 0 => .int
  | 1 => .array .int
  | 2 => .array .int
  | 3 => .array .int
  | 4 => .array .long
  | 5 => .array .int
  | 6 => .int
  | 7 => .array .long
  | 8 => .array .int
  | 9 => .array .int
  | 10 => .array .int
  | 11 => .array .int
  | 12 => .array .boolean
  | 13 => .int
  | 14 => .array .int
  | 15 => .boolean
  | 16 => .array .boolean
  | 17 => .array .boolean
  | 18 => .array .boolean
  | 19 => .array .int
  | 20 => .int
  | 21 => .int
  | 22 => .int
  | 23 => .boolean
  | 24 => .long
  | 25 => .int
  | 26 => .int
  | 27 => .int
  | 28 => .array .int
  | 29 => .array .boolean
  | _ => .array .int
abbrev wsX60 : List Cond := u_ws RX6 TX6 31
theorem nmX6 : ∀ a, a < 31 → ∀ b, b < 31 → a ≠ b → (TX6 a).2.1 ≠ (TX6 b).2.1 := by decide +kernel
theorem tyX6_ok : ∀ k, k < 31 → parseFieldDescriptor (TX6 k).2.2.1 = some (tyX6 k) := by decide +kernel
abbrev cX6_hash : ByteArray := prog_8_method_1_code
def yX6_hash : MethodName := ⟨RX6, "hash", "(II)I"⟩
abbrev cX6_pick : ByteArray := prog_8_method_2_code
def yX6_pick : MethodName := ⟨RX6, "pick", "(IJ)J"⟩
abbrev cX6_in : ByteArray := prog_8_method_3_code
def yX6_in : MethodName := ⟨RX6, "in", "(JJJ)Z"⟩
abbrev cX6_init : ByteArray := prog_8_method_4_code
def yX6_init : MethodName := ⟨RX6, "<init>", "()V"⟩
abbrev cX6_name : ByteArray := prog_8_method_5_code
def yX6_name : MethodName := ⟨RX6, "name", "(III)I"⟩
abbrev cX6_waysOf : ByteArray := prog_8_method_6_code
def yX6_waysOf : MethodName := ⟨RX6, "waysOf", "(II)J"⟩
abbrev cX6_points : ByteArray := prog_8_method_7_code
def yX6_points : MethodName := ⟨RX6, "points", "()J"⟩
abbrev cX6_isThere : ByteArray := prog_8_method_8_code
def yX6_isThere : MethodName := ⟨RX6, "isThere", "(II)Z"⟩
abbrev cX6_behind : ByteArray := prog_8_method_9_code
def yX6_behind : MethodName := ⟨RX6, "behind", "(II)J"⟩
abbrev cX6_find : ByteArray := prog_8_method_10_code
def yX6_find : MethodName := ⟨RX6, "find", "(IJ)V"⟩
abbrev cX6_noPoint : ByteArray := prog_8_method_11_code
def yX6_noPoint : MethodName := ⟨RX6, "noPoint", "(J)Z"⟩
abbrev cX6_value : ByteArray := prog_8_method_12_code
def yX6_value : MethodName := ⟨RX6, "value", "(JI)I"⟩
abbrev cX6_numberOf : ByteArray := prog_8_method_13_code
def yX6_numberOf : MethodName := ⟨RX6, "numberOf", "()J"⟩
abbrev cX6_number : ByteArray := prog_8_method_14_code
def yX6_number : MethodName := ⟨RX6, "number", "(J)J"⟩
abbrev cX6_distanceOf : ByteArray := prog_8_method_15_code
def yX6_distanceOf : MethodName := ⟨RX6, "distanceOf", "(JJ)I"⟩
abbrev cX6_distance : ByteArray := prog_8_method_16_code
def yX6_distance : MethodName := ⟨RX6, "distance", "(JJ)I"⟩
abbrev cX6_add : ByteArray := prog_8_method_17_code
def yX6_add : MethodName := ⟨RX6, "add", "(J)I"⟩
abbrev cX6_trial : ByteArray := prog_8_method_18_code
def yX6_trial : MethodName := ⟨RX6, "trial", "(II)I"⟩
abbrev cX6_near : ByteArray := prog_8_method_19_code
def yX6_near : MethodName := ⟨RX6, "near", "(JI)J"⟩
abbrev cX6_guess : ByteArray := prog_8_method_20_code
def yX6_guess : MethodName := ⟨RX6, "guess", "(III)I"⟩
abbrev cX6_divisor : ByteArray := prog_8_method_21_code
def yX6_divisor : MethodName := ⟨RX6, "divisor", "(JJ)J"⟩
abbrev cX6_forecast : ByteArray := prog_8_method_22_code
def yX6_forecast : MethodName := ⟨RX6, "forecast", "(JII)J"⟩
abbrev cX6_noTrial : ByteArray := prog_8_method_23_code
def yX6_noTrial : MethodName := ⟨RX6, "noTrial", "(I)Z"⟩
abbrev cX6_isScore : ByteArray := prog_8_method_24_code
def yX6_isScore : MethodName := ⟨RX6, "isScore", "(I)Z"⟩
abbrev cX6_score : ByteArray := prog_8_method_25_code
def yX6_score : MethodName := ⟨RX6, "score", "(IIZ)I"⟩
abbrev cX6_prunes : ByteArray := prog_8_method_26_code
def yX6_prunes : MethodName := ⟨RX6, "prunes", "(IIII)Z"⟩
abbrev cX6_report : ByteArray := prog_8_method_27_code
def yX6_report : MethodName := ⟨RX6, "report", "(III)I"⟩
abbrev cX6_told : ByteArray := prog_8_method_28_code
def yX6_told : MethodName := ⟨RX6, "told", "(II)I"⟩
abbrev cX6_point : ByteArray := prog_8_method_29_code
def yX6_point : MethodName := ⟨RX6, "point", "(I)J"⟩
abbrev cX6_reported : ByteArray := prog_8_method_30_code
def yX6_reported : MethodName := ⟨RX6, "reported", "(II)I"⟩
abbrev cX6_best : ByteArray := prog_8_method_31_code
def yX6_best : MethodName := ⟨RX6, "best", "()I"⟩
abbrev cX6_bracket : ByteArray := prog_8_method_32_code
def yX6_bracket : MethodName := ⟨RX6, "bracket", "(IIII)I"⟩
abbrev cX6_clear : ByteArray := prog_8_method_33_code
def yX6_clear : MethodName := ⟨RX6, "clear", "(I)V"⟩
abbrev cX6_open : ByteArray := prog_8_method_34_code
def yX6_open : MethodName := ⟨RX6, "open", "()I"⟩
abbrev cX6_inside : ByteArray := prog_8_method_35_code
def yX6_inside : MethodName := ⟨RX6, "inside", "()I"⟩
abbrev cX6_result : ByteArray := prog_8_method_36_code
def yX6_result : MethodName := ⟨RX6, "result", "(IIZ)I"⟩
abbrev cX6_halve : ByteArray := prog_8_method_37_code
def yX6_halve : MethodName := ⟨RX6, "halve", "()I"⟩
abbrev cX6_round : ByteArray := prog_8_method_38_code
def yX6_round : MethodName := ⟨RX6, "round", "(I)I"⟩
abbrev cX6_cost : ByteArray := prog_8_method_39_code
def yX6_cost : MethodName := ⟨RX6, "cost", "()J"⟩
abbrev cX6_plan : ByteArray := prog_8_method_40_code
def yX6_plan : MethodName := ⟨RX6, "plan", "(IIII)I"⟩
abbrev cX6_folds : ByteArray := prog_8_method_41_code
def yX6_folds : MethodName := ⟨RX6, "folds", "(IIII)I"⟩
abbrev cX6_outerOf : ByteArray := prog_8_method_42_code
def yX6_outerOf : MethodName := ⟨RX6, "outerOf", "(I)I"⟩
abbrev cX6_innerOf : ByteArray := prog_8_method_43_code
def yX6_innerOf : MethodName := ⟨RX6, "innerOf", "(I)I"⟩
abbrev cX6_fold : ByteArray := prog_8_method_44_code
def yX6_fold : MethodName := ⟨RX6, "fold", "(II)I"⟩
abbrev cX6_use : ByteArray := prog_8_method_45_code
def yX6_use : MethodName := ⟨RX6, "use", "(II)I"⟩
abbrev cX6_used : ByteArray := prog_8_method_46_code
def yX6_used : MethodName := ⟨RX6, "used", "(III)I"⟩
def RJ9 : String := "java/lang/Math"
def TJ9 : u_T := fun k => match k with
  | _ => ("", "", "", false)
def tyJ9 : Nat → FieldType := fun k => match k with
  | _ => .int
abbrev wsJ90 : List Cond := u_ws RJ9 TJ9 0
theorem nmJ9 : ∀ a, a < 0 → ∀ b, b < 0 → a ≠ b → (TJ9 a).2.1 ≠ (TJ9 b).2.1 := by decide +kernel
theorem tyJ9_ok : ∀ k, k < 0 → parseFieldDescriptor (TJ9 k).2.2.1 = some (tyJ9 k) := by decide +kernel
abbrev cJ9_abs_0f7a4 : ByteArray := prog_9_method_59_code
def yJ9_abs_0f7a4 : MethodName := ⟨RJ9, "abs", "(I)I"⟩
abbrev cJ9_abs_067f4 : ByteArray := prog_9_method_61_code
def yJ9_abs_067f4 : MethodName := ⟨RJ9, "abs", "(J)J"⟩
abbrev cJ9_max_f86c9 : ByteArray := prog_9_method_66_code
def yJ9_max_f86c9 : MethodName := ⟨RJ9, "max", "(JJ)J"⟩
abbrev cJ9_min_7cf53 : ByteArray := prog_9_method_69_code
def yJ9_min_7cf53 : MethodName := ⟨RJ9, "min", "(II)I"⟩
abbrev cJ9_min_f86c9 : ByteArray := prog_9_method_70_code
def yJ9_min_f86c9 : MethodName := ⟨RJ9, "min", "(JJ)J"⟩
def RJ10 : String := "java/lang/System"
def TJ10 : u_T := fun k => match k with
  | _ => ("", "", "", false)
def tyJ10 : Nat → FieldType := fun k => match k with
  | _ => .int
abbrev wsJ100 : List Cond := u_ws RJ10 TJ10 0
theorem nmJ10 : ∀ a, a < 0 → ∀ b, b < 0 → a ≠ b → (TJ10 a).2.1 ≠ (TJ10 b).2.1 := by decide +kernel
theorem tyJ10_ok : ∀ k, k < 0 → parseFieldDescriptor (TJ10 k).2.2.1 = some (tyJ10 k) := by decide +kernel
def RJ7 : String := "java/util/Arrays"
def TJ7 : u_T := fun k => match k with
  | _ => ("", "", "", false)
def tyJ7 : Nat → FieldType := fun k => match k with
  | _ => .int
abbrev wsJ70 : List Cond := u_ws RJ7 TJ7 0
theorem nmJ7 : ∀ a, a < 0 → ∀ b, b < 0 → a ≠ b → (TJ7 a).2.1 ≠ (TJ7 b).2.1 := by decide +kernel
theorem tyJ7_ok : ∀ k, k < 0 → parseFieldDescriptor (TJ7 k).2.2.1 = some (tyJ7 k) := by decide +kernel
abbrev cJ7_fill_d0a16 : ByteArray := prog_11_method_101_code
def yJ7_fill_d0a16 : MethodName := ⟨RJ7, "fill", "([JJ)V"⟩
abbrev cJ7_fill_53178 : ByteArray := prog_11_method_103_code
def yJ7_fill_53178 : MethodName := ⟨RJ7, "fill", "([II)V"⟩
def RL : String := "TrialSearchLaw"
abbrev cL_law : ByteArray := code
def yL_law : MethodName := ⟨RL, "law", "([I)Z"⟩
def wsX0_init : List Cond := .code yX0_init cX0_init 1 none :: ([.methodLink RX0 3 objectInit, .instanceMethod objectInit, .code objectInit ⟨#[0xb1]⟩ 1 none, .fieldLink RX0 9 "TrialSearch$Folds" "rows" "I", .fieldLink RX0 15 "TrialSearch$Folds" "outer" "I", .fieldLink RX0 18 "TrialSearch$Folds" "inner" "I", .arrayClass .int, .fieldLink RX0 21 "TrialSearch$Folds" "outerOf" "[I", .fieldLink RX0 25 "TrialSearch$Folds" "innerOf" "[I", .fieldLink RX0 28 "TrialSearch$Folds" "tested" "[I", .classLink RX0 31 "[[I", .fieldLink RX0 33 "TrialSearch$Folds" "chosen" "[[I", .arrayClass .long, .fieldLink RX0 36 "TrialSearch$Folds" "order" "[J"] ++ wsX00)
def wsJ7_fill_53178 : List Cond := .code yJ7_fill_53178 cJ7_fill_53178 4 none :: ([])
def wsX2_hash : List Cond := .code yX2_hash cX2_hash 3 (some .int) :: ([.constant RX2 7 (-1640531527), .constant RX2 8 (-2048144789), .constant RX2 9 (-1028477387)])
def wsX0_sortIn : List Cond := .code yX0_sortIn cX0_sortIn 7 none :: ([.fieldLink RX0 36 "TrialSearch$Folds" "order" "[J", .methodLink RX0 63 arraycopyName, .native arraycopyName, .static arraycopyName, .initialized "java/lang/System"] ++ wsX00)
def wsX5_rest : List Cond := .code yX5_rest cX5_rest 4 (some .long) :: ([])
def wsX5_cut : List Cond := .code yX5_cut cX5_cut 4 (some .long) :: ([])
def wsX0_make_r1 : List Cond := [Cond.fieldLink RX0 9 "TrialSearch$Folds" "rows" "I", Cond.fieldLink RX0 15 "TrialSearch$Folds" "outer" "I", Cond.fieldLink RX0 18 "TrialSearch$Folds" "inner" "I", Cond.fieldLink RX0 28 "TrialSearch$Folds" "tested" "[I", Cond.fieldLink RX0 33 "TrialSearch$Folds" "chosen" "[[I", Cond.fieldLink RX0 36 "TrialSearch$Folds" "order" "[J", Cond.fieldLink RX0 21 "TrialSearch$Folds" "outerOf" "[I", Cond.fieldLink RX0 25 "TrialSearch$Folds" "innerOf" "[I", Cond.methodLink RX0 40 yJ7_fill_53178, Cond.static yJ7_fill_53178, Cond.initialized RJ7, Cond.code yJ7_fill_53178 cJ7_fill_53178 4 none, Cond.methodLink RX0 46 yX2_hash, Cond.static yX2_hash, Cond.initialized RX2, Cond.code yX2_hash cX2_hash 3 (some .int), Cond.constant RX2 7 (-1640531527), Cond.constant RX2 8 (-2048144789), Cond.constant RX2 9 (-1028477387), Cond.methodLink RX0 52 yX0_sortIn, Cond.instanceMethod yX0_sortIn, Cond.selects RX0 yX0_sortIn yX0_sortIn, Cond.initialized RX0, Cond.code yX0_sortIn cX0_sortIn 7 none]
def wsX0_make_r2 : List Cond := [Cond.methodLink RX0 63 arraycopyName, Cond.native arraycopyName, Cond.static arraycopyName, Cond.initialized "java/lang/System", Cond.static yX5_rest, Cond.initialized RX5, Cond.code yX5_rest cX5_rest 4 (some .long), Cond.static yX5_cut, Cond.code yX5_cut cX5_cut 4 (some .long)]
def wsX0_make : List Cond := .code yX0_make cX0_make 7 none :: ((wsX0_make_r1 ++ wsX0_make_r2) ++ wsX00)
def wsX0_test : List Cond := .code yX0_test cX0_test 4 (some .int) :: ([.fieldLink RX0 28 "TrialSearch$Folds" "tested" "[I", .fieldLink RX0 9 "TrialSearch$Folds" "rows" "I", .fieldLink RX0 21 "TrialSearch$Folds" "outerOf" "[I"] ++ wsX00)
def wsX0_choose : List Cond := .code yX0_choose cX0_choose 5 (some .int) :: ([.fieldLink RX0 33 "TrialSearch$Folds" "chosen" "[[I", .fieldLink RX0 9 "TrialSearch$Folds" "rows" "I", .fieldLink RX0 21 "TrialSearch$Folds" "outerOf" "[I", .fieldLink RX0 25 "TrialSearch$Folds" "innerOf" "[I"] ++ wsX00)
def wsX0_trained : List Cond := .code yX0_trained cX0_trained 5 (some .int) :: ([.fieldLink RX0 21 "TrialSearch$Folds" "outerOf" "[I", .fieldLink RX0 28 "TrialSearch$Folds" "tested" "[I", .fieldLink RX0 18 "TrialSearch$Folds" "inner" "I", .fieldLink RX0 25 "TrialSearch$Folds" "innerOf" "[I", .fieldLink RX0 33 "TrialSearch$Folds" "chosen" "[[I"] ++ wsX00)
def wsX0_validated : List Cond := .code yX0_validated cX0_validated 3 (some .int) :: ([.fieldLink RX0 21 "TrialSearch$Folds" "outerOf" "[I", .fieldLink RX0 33 "TrialSearch$Folds" "chosen" "[[I", .fieldLink RX0 25 "TrialSearch$Folds" "innerOf" "[I"] ++ wsX00)
def wsX0_testing : List Cond := .code yX0_testing cX0_testing 3 (some .int) :: ([.fieldLink RX0 21 "TrialSearch$Folds" "outerOf" "[I", .fieldLink RX0 28 "TrialSearch$Folds" "tested" "[I"] ++ wsX00)
def wsX1_init : List Cond := .code yX1_init cX1_init 1 none :: ([.methodLink RX1 3 objectInit, .instanceMethod objectInit, .code objectInit ⟨#[0xb1]⟩ 1 none, .fieldLink RX1 9 "TrialSearch$Rounds" "started" "Z", .fieldLink RX1 15 "TrialSearch$Rounds" "spent" "J", .arrayClass .int, .fieldLink RX1 19 "TrialSearch$Rounds" "marks" "[I", .fieldLink RX1 23 "TrialSearch$Rounds" "stands" "[I"] ++ wsX10)
def wsX1_start : List Cond := .code yX1_start cX1_start 6 none :: ([.fieldLink RX1 9 "TrialSearch$Rounds" "started" "Z", .fieldLink RX1 26 "TrialSearch$Rounds" "over" "Z", .fieldLink RX1 15 "TrialSearch$Rounds" "spent" "J", .fieldLink RX1 29 "TrialSearch$Rounds" "halved" "I", .fieldLink RX1 33 "TrialSearch$Rounds" "budget" "I", .fieldLink RX1 36 "TrialSearch$Rounds" "factor" "I", .fieldLink RX1 19 "TrialSearch$Rounds" "marks" "[I", .fieldLink RX1 23 "TrialSearch$Rounds" "stands" "[I", .fieldLink RX1 39 "TrialSearch$Rounds" "in" "I", .fieldLink RX1 42 "TrialSearch$Rounds" "waiting" "I"] ++ wsX10)
def wsX1_isIn : List Cond := .code yX1_isIn cX1_isIn 2 (some .boolean) :: ([.fieldLink RX1 23 "TrialSearch$Rounds" "stands" "[I"] ++ wsX10)
def wsX1_isWaiting : List Cond := .code yX1_isWaiting cX1_isWaiting 2 (some .boolean) :: ([.fieldLink RX1 23 "TrialSearch$Rounds" "stands" "[I"] ++ wsX10)
def wsX1_mark : List Cond := .code yX1_mark cX1_mark 4 (some .int) :: ([.fieldLink RX1 23 "TrialSearch$Rounds" "stands" "[I", .fieldLink RX1 19 "TrialSearch$Rounds" "marks" "[I", .fieldLink RX1 15 "TrialSearch$Rounds" "spent" "J", .fieldLink RX1 33 "TrialSearch$Rounds" "budget" "I", .fieldLink RX1 42 "TrialSearch$Rounds" "waiting" "I"] ++ wsX10)
def wsX1_canEnd : List Cond := .code yX1_canEnd cX1_canEnd 1 (some .boolean) :: ([.fieldLink RX1 9 "TrialSearch$Rounds" "started" "Z", .fieldLink RX1 26 "TrialSearch$Rounds" "over" "Z", .fieldLink RX1 42 "TrialSearch$Rounds" "waiting" "I"] ++ wsX10)
def wsX1_keepGreatest : List Cond := .code yX1_keepGreatest cX1_keepGreatest 3 (some .boolean) :: ([.fieldLink RX1 23 "TrialSearch$Rounds" "stands" "[I", .fieldLink RX1 19 "TrialSearch$Rounds" "marks" "[I"] ++ wsX10)
def wsX1_openRound : List Cond := .code yX1_openRound cX1_openRound 2 none :: ([.fieldLink RX1 23 "TrialSearch$Rounds" "stands" "[I", .fieldLink RX1 19 "TrialSearch$Rounds" "marks" "[I"] ++ wsX10)
def wsX1_end_r1 : List Cond := [Cond.fieldLink RX1 39 "TrialSearch$Rounds" "in" "I", Cond.fieldLink RX1 36 "TrialSearch$Rounds" "factor" "I", Cond.methodLink RX1 49 Lib.MathLoose.max_long.x, Cond.static Lib.MathLoose.max_long.x, Cond.initialized "java/lang/Math", Cond.code Lib.MathLoose.max_long.x Lib.MathLoose.max_long.code 4 (some .long), Cond.fieldLink RX1 42 "TrialSearch$Rounds" "waiting" "I", Cond.fieldLink RX1 29 "TrialSearch$Rounds" "halved" "I", Cond.fieldLink RX1 33 "TrialSearch$Rounds" "budget" "I", Cond.constantLong RX1 61 (1000000000), Cond.methodLink RX1 63 Lib.MathLoose.min_long.x, Cond.static Lib.MathLoose.min_long.x, Cond.code Lib.MathLoose.min_long.x Lib.MathLoose.min_long.code 4 (some .long), Cond.fieldLink RX1 26 "TrialSearch$Rounds" "over" "Z", Cond.static yX5_cut, Cond.initialized RX5, Cond.code yX5_cut cX5_cut 4 (some .long), Cond.methodLink RX1 54 yX1_keepGreatest, Cond.instanceMethod yX1_keepGreatest, Cond.selects RX1 yX1_keepGreatest yX1_keepGreatest, Cond.initialized RX1, Cond.code yX1_keepGreatest cX1_keepGreatest 3 (some .boolean), Cond.fieldLink RX1 23 "TrialSearch$Rounds" "stands" "[I", Cond.fieldLink RX1 19 "TrialSearch$Rounds" "marks" "[I"]
def wsX1_end_r2 : List Cond := [Cond.methodLink RX1 58 yX1_openRound, Cond.instanceMethod yX1_openRound, Cond.selects RX1 yX1_openRound yX1_openRound, Cond.code yX1_openRound cX1_openRound 2 none]
def wsX1_end : List Cond := .code yX1_end cX1_end 4 (some .int) :: ((wsX1_end_r1 ++ wsX1_end_r2) ++ wsX10)
def wsX1_tell : List Cond := .code yX1_tell cX1_tell 2 (some .int) :: ([.fieldLink RX1 39 "TrialSearch$Rounds" "in" "I", .fieldLink RX1 29 "TrialSearch$Rounds" "halved" "I", .fieldLink RX1 33 "TrialSearch$Rounds" "budget" "I", .fieldLink RX1 26 "TrialSearch$Rounds" "over" "Z"] ++ wsX10)
def wsX2_bitsFor : List Cond := .code yX2_bitsFor cX2_bitsFor 3 (some .int) :: ([])
def wsX2_twoHashes : List Cond := .code yX2_twoHashes cX2_twoHashes 6 (some .long) :: ([.constantLong RX2 25 (4294967295), .methodLink RX2 21 yX2_hash, .static yX2_hash, .initialized RX2, .code yX2_hash cX2_hash 3 (some .int), .constant RX2 7 (-1640531527), .constant RX2 8 (-2048144789), .constant RX2 9 (-1028477387)])
def wsX2_pick : List Cond := .code yX2_pick cX2_pick 7 (some .long) :: ([.constant RX2 16 (1000000), .methodLink RX2 10 yX2_bitsFor, .static yX2_bitsFor, .initialized RX2, .code yX2_bitsFor cX2_bitsFor 3 (some .int), .methodLink RX2 17 yX2_twoHashes, .static yX2_twoHashes, .code yX2_twoHashes cX2_twoHashes 6 (some .long), .constantLong RX2 25 (4294967295), .methodLink RX2 21 yX2_hash, .static yX2_hash, .code yX2_hash cX2_hash 3 (some .int), .constant RX2 7 (-1640531527), .constant RX2 8 (-2048144789), .constant RX2 9 (-1028477387)])
def wsX3_init : List Cond := .code yX3_init cX3_init 1 none :: ([.methodLink RX3 3 objectInit, .instanceMethod objectInit, .code objectInit ⟨#[0xb1]⟩ 1 none, .fieldLink RX3 9 "TrialSearch$Space" "names" "I", .fieldLink RX3 15 "TrialSearch$Space" "all" "J", .arrayClass .int, .fieldLink RX3 19 "TrialSearch$Space" "left" "[I", .fieldLink RX3 23 "TrialSearch$Space" "right" "[I", .fieldLink RX3 26 "TrialSearch$Space" "many" "[I", .fieldLink RX3 29 "TrialSearch$Space" "on" "[I", .fieldLink RX3 32 "TrialSearch$Space" "set" "[I", .arrayClass .long, .fieldLink RX3 35 "TrialSearch$Space" "ways" "[J", .classLink RX3 39 "[[J", .fieldLink RX3 41 "TrialSearch$Space" "waysBelow" "[[J"] ++ wsX30)
def wsJ7_fill_d0a16 : List Cond := .code yJ7_fill_d0a16 cJ7_fill_d0a16 5 none :: ([])
def wsX3_sumOfWays : List Cond := .code yX3_sumOfWays cX3_sumOfWays 5 (some .long) :: ([.fieldLink RX3 26 "TrialSearch$Space" "many" "[I", .fieldLink RX3 41 "TrialSearch$Space" "waysBelow" "[[J"] ++ wsX30)
def wsX3_hasBit : List Cond := .code yX3_hasBit cX3_hasBit 2 (some .boolean) :: ([])
def wsX3_hang : List Cond := .code yX3_hang cX3_hang 4 none :: ([.fieldLink RX3 26 "TrialSearch$Space" "many" "[I", .fieldLink RX3 32 "TrialSearch$Space" "set" "[I", .fieldLink RX3 41 "TrialSearch$Space" "waysBelow" "[[J", .fieldLink RX3 35 "TrialSearch$Space" "ways" "[J", .methodLink RX3 61 yX3_hasBit, .static yX3_hasBit, .initialized RX3, .code yX3_hasBit cX3_hasBit 2 (some .boolean)] ++ wsX30)
def wsX3_countWays : List Cond := .code yX3_countWays cX3_countWays 2 none :: ([.fieldLink RX3 15 "TrialSearch$Space" "all" "J", .fieldLink RX3 9 "TrialSearch$Space" "names" "I", .fieldLink RX3 41 "TrialSearch$Space" "waysBelow" "[[J", .fieldLink RX3 35 "TrialSearch$Space" "ways" "[J", .fieldLink RX3 29 "TrialSearch$Space" "on" "[I", .methodLink RX3 47 yJ7_fill_d0a16, .static yJ7_fill_d0a16, .initialized RJ7, .code yJ7_fill_d0a16 cJ7_fill_d0a16 5 none, .methodLink RX3 53 yX3_sumOfWays, .instanceMethod yX3_sumOfWays, .selects RX3 yX3_sumOfWays yX3_sumOfWays, .initialized RX3, .code yX3_sumOfWays cX3_sumOfWays 5 (some .long), .fieldLink RX3 26 "TrialSearch$Space" "many" "[I", .methodLink RX3 57 yX3_hang, .instanceMethod yX3_hang, .selects RX3 yX3_hang yX3_hang, .code yX3_hang cX3_hang 4 none, .fieldLink RX3 32 "TrialSearch$Space" "set" "[I", .methodLink RX3 61 yX3_hasBit, .static yX3_hasBit, .code yX3_hasBit cX3_hasBit 2 (some .boolean)] ++ wsX30)
def wsX3_add_r1 : List Cond := [Cond.fieldLink RX3 9 "TrialSearch$Space" "names" "I", Cond.fieldLink RX3 26 "TrialSearch$Space" "many" "[I", Cond.fieldLink RX3 29 "TrialSearch$Space" "on" "[I", Cond.fieldLink RX3 32 "TrialSearch$Space" "set" "[I", Cond.methodLink RX3 44 yX3_countWays, Cond.instanceMethod yX3_countWays, Cond.selects RX3 yX3_countWays yX3_countWays, Cond.initialized RX3, Cond.code yX3_countWays cX3_countWays 2 none, Cond.fieldLink RX3 15 "TrialSearch$Space" "all" "J", Cond.fieldLink RX3 41 "TrialSearch$Space" "waysBelow" "[[J", Cond.fieldLink RX3 35 "TrialSearch$Space" "ways" "[J", Cond.methodLink RX3 47 yJ7_fill_d0a16, Cond.static yJ7_fill_d0a16, Cond.initialized RJ7, Cond.code yJ7_fill_d0a16 cJ7_fill_d0a16 5 none, Cond.methodLink RX3 53 yX3_sumOfWays, Cond.instanceMethod yX3_sumOfWays, Cond.selects RX3 yX3_sumOfWays yX3_sumOfWays, Cond.code yX3_sumOfWays cX3_sumOfWays 5 (some .long), Cond.methodLink RX3 57 yX3_hang, Cond.instanceMethod yX3_hang, Cond.selects RX3 yX3_hang yX3_hang, Cond.code yX3_hang cX3_hang 4 none]
def wsX3_add_r2 : List Cond := [Cond.methodLink RX3 61 yX3_hasBit, Cond.static yX3_hasBit, Cond.code yX3_hasBit cX3_hasBit 2 (some .boolean)]
def wsX3_add : List Cond := .code yX3_add cX3_add 5 (some .int) :: ((wsX3_add_r1 ++ wsX3_add_r2) ++ wsX30)
def wsX3_isThere : List Cond := .code yX3_isThere cX3_isThere 4 (some .boolean) :: ([.fieldLink RX3 29 "TrialSearch$Space" "on" "[I", .fieldLink RX3 32 "TrialSearch$Space" "set" "[I", .methodLink RX3 61 yX3_hasBit, .static yX3_hasBit, .initialized RX3, .code yX3_hasBit cX3_hasBit 2 (some .boolean)] ++ wsX30)
def wsX3_read : List Cond := .code yX3_read cX3_read 10 none :: ([.fieldLink RX3 15 "TrialSearch$Space" "all" "J", .fieldLink RX3 9 "TrialSearch$Space" "names" "I", .fieldLink RX3 35 "TrialSearch$Space" "ways" "[J", .fieldLink RX3 26 "TrialSearch$Space" "many" "[I", .fieldLink RX3 41 "TrialSearch$Space" "waysBelow" "[[J", .methodLink RX3 65 yX3_isThere, .instanceMethod yX3_isThere, .selects RX3 yX3_isThere yX3_isThere, .initialized RX3, .code yX3_isThere cX3_isThere 4 (some .boolean), .fieldLink RX3 29 "TrialSearch$Space" "on" "[I", .fieldLink RX3 32 "TrialSearch$Space" "set" "[I", .methodLink RX3 61 yX3_hasBit, .static yX3_hasBit, .code yX3_hasBit cX3_hasBit 2 (some .boolean), .static yX5_cut, .initialized RX5, .code yX5_cut cX5_cut 4 (some .long)] ++ wsX30)
def wsX3_place : List Cond := .code yX3_place cX3_place 8 (some .long) :: ([.fieldLink RX3 15 "TrialSearch$Space" "all" "J", .fieldLink RX3 9 "TrialSearch$Space" "names" "I", .fieldLink RX3 35 "TrialSearch$Space" "ways" "[J", .fieldLink RX3 41 "TrialSearch$Space" "waysBelow" "[[J", .static yX5_cut, .initialized RX5, .code yX5_cut cX5_cut 4 (some .long)] ++ wsX30)
def wsX3_takeBits : List Cond := .code yX3_takeBits cX3_takeBits 6 (some .boolean) :: ([.fieldLink RX3 9 "TrialSearch$Space" "names" "I", .fieldLink RX3 26 "TrialSearch$Space" "many" "[I", .methodLink RX3 65 yX3_isThere, .instanceMethod yX3_isThere, .selects RX3 yX3_isThere yX3_isThere, .initialized RX3, .code yX3_isThere cX3_isThere 4 (some .boolean), .fieldLink RX3 29 "TrialSearch$Space" "on" "[I", .fieldLink RX3 32 "TrialSearch$Space" "set" "[I", .methodLink RX3 61 yX3_hasBit, .static yX3_hasBit, .code yX3_hasBit cX3_hasBit 2 (some .boolean)] ++ wsX30)
def wsX3_pickEach_r1 : List Cond := [Cond.fieldLink RX3 9 "TrialSearch$Space" "names" "I", Cond.fieldLink RX3 26 "TrialSearch$Space" "many" "[I", Cond.methodLink RX3 65 yX3_isThere, Cond.instanceMethod yX3_isThere, Cond.selects RX3 yX3_isThere yX3_isThere, Cond.initialized RX3, Cond.code yX3_isThere cX3_isThere 4 (some .boolean), Cond.fieldLink RX3 29 "TrialSearch$Space" "on" "[I", Cond.fieldLink RX3 32 "TrialSearch$Space" "set" "[I", Cond.methodLink RX3 61 yX3_hasBit, Cond.static yX3_hasBit, Cond.code yX3_hasBit cX3_hasBit 2 (some .boolean), Cond.methodLink RX3 73 yX2_hash, Cond.static yX2_hash, Cond.initialized RX2, Cond.code yX2_hash cX2_hash 3 (some .int), Cond.constant RX2 7 (-1640531527), Cond.constant RX2 8 (-2048144789), Cond.constant RX2 9 (-1028477387), Cond.methodLink RX3 79 yX2_pick, Cond.static yX2_pick, Cond.code yX2_pick cX2_pick 7 (some .long), Cond.constant RX2 16 (1000000), Cond.methodLink RX2 10 yX2_bitsFor]
def wsX3_pickEach_r2 : List Cond := [Cond.static yX2_bitsFor, Cond.code yX2_bitsFor cX2_bitsFor 3 (some .int), Cond.methodLink RX2 17 yX2_twoHashes, Cond.static yX2_twoHashes, Cond.code yX2_twoHashes cX2_twoHashes 6 (some .long), Cond.constantLong RX2 25 (4294967295), Cond.methodLink RX2 21 yX2_hash]
def wsX3_pickEach : List Cond := .code yX3_pickEach cX3_pickEach 4 none :: ((wsX3_pickEach_r1 ++ wsX3_pickEach_r2) ++ wsX30)
def wsX3_apartAt : List Cond := .code yX3_apartAt cX3_apartAt 4 (some .int) :: ([.methodLink RX3 87 Lib.Math.abs.name, .static Lib.Math.abs.name, .initialized "java/lang/Math", .code Lib.Math.abs.name Lib.Math.abs.code 1 (some .int), .fieldLink RX3 26 "TrialSearch$Space" "many" "[I", .static yX5_cut, .initialized RX5, .code yX5_cut cX5_cut 4 (some .long)] ++ wsX30)
def wsX3_apart : List Cond := .code yX3_apart cX3_apart 5 (some .int) :: ([.fieldLink RX3 9 "TrialSearch$Space" "names" "I", .methodLink RX3 83 yX3_apartAt, .instanceMethod yX3_apartAt, .selects RX3 yX3_apartAt yX3_apartAt, .initialized RX3, .code yX3_apartAt cX3_apartAt 4 (some .int), .methodLink RX3 87 Lib.Math.abs.name, .static Lib.Math.abs.name, .initialized "java/lang/Math", .code Lib.Math.abs.name Lib.Math.abs.code 1 (some .int), .fieldLink RX3 26 "TrialSearch$Space" "many" "[I", .static yX5_cut, .initialized RX5, .code yX5_cut cX5_cut 4 (some .long)] ++ wsX30)
def wsX4_init : List Cond := .code yX4_init cX4_init 2 none :: ([.methodLink RX4 3 objectInit, .instanceMethod objectInit, .code objectInit ⟨#[0xb1]⟩ 1 none, .fieldLink RX4 9 "TrialSearch$Trials" "made" "I", .fieldLink RX4 15 "TrialSearch$Trials" "scored" "I", .arrayClass .long, .fieldLink RX4 18 "TrialSearch$Trials" "places" "[J", .arrayClass .int, .fieldLink RX4 22 "TrialSearch$Trials" "states" "[I", .fieldLink RX4 26 "TrialSearch$Trials" "scores" "[I", .fieldLink RX4 29 "TrialSearch$Trials" "steps" "[I", .classLink RX4 32 "[[I", .fieldLink RX4 34 "TrialSearch$Trials" "reports" "[[I", .fieldLink RX4 37 "TrialSearch$Trials" "space" "LTrialSearch$Space;", .fieldLink RX4 41 "TrialSearch$Trials" "values" "[[I", .fieldLink RX4 44 "TrialSearch$Trials" "nearGaps" "[I", .fieldLink RX4 47 "TrialSearch$Trials" "nearScores" "[I", .fieldLink RX4 50 "TrialSearch$Trials" "others" "[I"] ++ wsX40)
def wsX4_add_r1 : List Cond := [Cond.fieldLink RX4 9 "TrialSearch$Trials" "made" "I", Cond.fieldLink RX4 18 "TrialSearch$Trials" "places" "[J", Cond.fieldLink RX4 22 "TrialSearch$Trials" "states" "[I", Cond.fieldLink RX4 37 "TrialSearch$Trials" "space" "LTrialSearch$Space;", Cond.fieldLink RX4 41 "TrialSearch$Trials" "values" "[[I", Cond.methodLink RX4 53 yX3_read, Cond.instanceMethod yX3_read, Cond.selects RX3 yX3_read yX3_read, Cond.initialized RX3, Cond.code yX3_read cX3_read 10 none, Cond.fieldLink RX3 15 "TrialSearch$Space" "all" "J", Cond.fieldLink RX3 9 "TrialSearch$Space" "names" "I", Cond.fieldLink RX3 35 "TrialSearch$Space" "ways" "[J", Cond.fieldLink RX3 26 "TrialSearch$Space" "many" "[I", Cond.fieldLink RX3 41 "TrialSearch$Space" "waysBelow" "[[J", Cond.methodLink RX3 65 yX3_isThere, Cond.instanceMethod yX3_isThere, Cond.selects RX3 yX3_isThere yX3_isThere, Cond.code yX3_isThere cX3_isThere 4 (some .boolean), Cond.fieldLink RX3 29 "TrialSearch$Space" "on" "[I", Cond.fieldLink RX3 32 "TrialSearch$Space" "set" "[I", Cond.methodLink RX3 61 yX3_hasBit, Cond.static yX3_hasBit, Cond.code yX3_hasBit cX3_hasBit 2 (some .boolean)]
def wsX4_add_r2 : List Cond := [Cond.static yX5_cut, Cond.initialized RX5, Cond.code yX5_cut cX5_cut 4 (some .long)]
def wsX4_add : List Cond := .code yX4_add cX4_add 4 (some .int) :: ((wsX4_add_r1 ++ wsX4_add_r2) ++ wsX40 ++ wsX30)
def wsX4_holdNear : List Cond := .code yX4_holdNear cX4_holdNear 8 (some .int) :: ([.fieldLink RX4 44 "TrialSearch$Trials" "nearGaps" "[I", .methodLink RX4 87 Lib.Math.min.name, .static Lib.Math.min.name, .initialized "java/lang/Math", .code Lib.Math.min.name Lib.Math.min.code 2 (some .int), .fieldLink RX4 47 "TrialSearch$Trials" "nearScores" "[I"] ++ wsX40)
def wsX4_nearSum_r1 : List Cond := [Cond.fieldLink RX4 37 "TrialSearch$Trials" "space" "LTrialSearch$Space;", Cond.fieldLink RX4 76 "TrialSearch$Space" "left" "[I", Cond.fieldLink RX4 9 "TrialSearch$Trials" "made" "I", Cond.fieldLink RX4 22 "TrialSearch$Trials" "states" "[I", Cond.fieldLink RX4 41 "TrialSearch$Trials" "values" "[[I", Cond.fieldLink RX4 26 "TrialSearch$Trials" "scores" "[I", Cond.fieldLink RX4 47 "TrialSearch$Trials" "nearScores" "[I", Cond.methodLink RX4 53 yX3_read, Cond.instanceMethod yX3_read, Cond.selects RX3 yX3_read yX3_read, Cond.initialized RX3, Cond.code yX3_read cX3_read 10 none, Cond.fieldLink RX3 15 "TrialSearch$Space" "all" "J", Cond.fieldLink RX3 9 "TrialSearch$Space" "names" "I", Cond.fieldLink RX3 35 "TrialSearch$Space" "ways" "[J", Cond.fieldLink RX3 26 "TrialSearch$Space" "many" "[I", Cond.fieldLink RX3 41 "TrialSearch$Space" "waysBelow" "[[J", Cond.methodLink RX3 65 yX3_isThere, Cond.instanceMethod yX3_isThere, Cond.selects RX3 yX3_isThere yX3_isThere, Cond.code yX3_isThere cX3_isThere 4 (some .boolean), Cond.fieldLink RX3 29 "TrialSearch$Space" "on" "[I", Cond.fieldLink RX3 32 "TrialSearch$Space" "set" "[I", Cond.methodLink RX3 61 yX3_hasBit]
def wsX4_nearSum_r2 : List Cond := [Cond.static yX3_hasBit, Cond.code yX3_hasBit cX3_hasBit 2 (some .boolean), Cond.static yX5_cut, Cond.initialized RX5, Cond.code yX5_cut cX5_cut 4 (some .long), Cond.methodLink RX4 79 yX3_apart, Cond.instanceMethod yX3_apart, Cond.selects RX3 yX3_apart yX3_apart, Cond.code yX3_apart cX3_apart 5 (some .int), Cond.methodLink RX3 83 yX3_apartAt, Cond.instanceMethod yX3_apartAt, Cond.selects RX3 yX3_apartAt yX3_apartAt, Cond.code yX3_apartAt cX3_apartAt 4 (some .int), Cond.methodLink RX3 87 Lib.Math.abs.name, Cond.static Lib.Math.abs.name, Cond.initialized "java/lang/Math", Cond.code Lib.Math.abs.name Lib.Math.abs.code 1 (some .int), Cond.methodLink RX4 83 yX4_holdNear, Cond.instanceMethod yX4_holdNear, Cond.selects RX4 yX4_holdNear yX4_holdNear, Cond.initialized RX4, Cond.code yX4_holdNear cX4_holdNear 8 (some .int), Cond.fieldLink RX4 44 "TrialSearch$Trials" "nearGaps" "[I", Cond.methodLink RX4 87 Lib.Math.min.name]
def wsX4_nearSum_r3 : List Cond := [Cond.static Lib.Math.min.name, Cond.code Lib.Math.min.name Lib.Math.min.code 2 (some .int)]
def wsX4_nearSum : List Cond := .code yX4_nearSum cX4_nearSum 8 (some .long) :: ((wsX4_nearSum_r1 ++ (wsX4_nearSum_r2 ++ wsX4_nearSum_r3)) ++ wsX40 ++ wsX30)
def wsX4_bestCandidate_r1 : List Cond := [Cond.fieldLink RX4 37 "TrialSearch$Trials" "space" "LTrialSearch$Space;", Cond.fieldLink RX4 59 "TrialSearch$Space" "all" "J", Cond.fieldLink RX4 15 "TrialSearch$Trials" "scored" "I", Cond.methodLink RX4 63 yX2_hash, Cond.static yX2_hash, Cond.initialized RX2, Cond.code yX2_hash cX2_hash 3 (some .int), Cond.constant RX2 7 (-1640531527), Cond.constant RX2 8 (-2048144789), Cond.constant RX2 9 (-1028477387), Cond.methodLink RX4 69 yX2_pick, Cond.static yX2_pick, Cond.code yX2_pick cX2_pick 7 (some .long), Cond.constant RX2 16 (1000000), Cond.methodLink RX2 10 yX2_bitsFor, Cond.static yX2_bitsFor, Cond.code yX2_bitsFor cX2_bitsFor 3 (some .int), Cond.methodLink RX2 17 yX2_twoHashes, Cond.static yX2_twoHashes, Cond.code yX2_twoHashes cX2_twoHashes 6 (some .long), Cond.constantLong RX2 25 (4294967295), Cond.methodLink RX2 21 yX2_hash, Cond.methodLink RX4 73 yX4_nearSum, Cond.instanceMethod yX4_nearSum]
def wsX4_bestCandidate_r2 : List Cond := [Cond.selects RX4 yX4_nearSum yX4_nearSum, Cond.initialized RX4, Cond.code yX4_nearSum cX4_nearSum 8 (some .long), Cond.fieldLink RX4 76 "TrialSearch$Space" "left" "[I", Cond.fieldLink RX4 9 "TrialSearch$Trials" "made" "I", Cond.fieldLink RX4 22 "TrialSearch$Trials" "states" "[I", Cond.fieldLink RX4 41 "TrialSearch$Trials" "values" "[[I", Cond.fieldLink RX4 26 "TrialSearch$Trials" "scores" "[I", Cond.fieldLink RX4 47 "TrialSearch$Trials" "nearScores" "[I", Cond.methodLink RX4 53 yX3_read, Cond.instanceMethod yX3_read, Cond.selects RX3 yX3_read yX3_read, Cond.initialized RX3, Cond.code yX3_read cX3_read 10 none, Cond.fieldLink RX3 15 "TrialSearch$Space" "all" "J", Cond.fieldLink RX3 9 "TrialSearch$Space" "names" "I", Cond.fieldLink RX3 35 "TrialSearch$Space" "ways" "[J", Cond.fieldLink RX3 26 "TrialSearch$Space" "many" "[I", Cond.fieldLink RX3 41 "TrialSearch$Space" "waysBelow" "[[J", Cond.methodLink RX3 65 yX3_isThere, Cond.instanceMethod yX3_isThere, Cond.selects RX3 yX3_isThere yX3_isThere, Cond.code yX3_isThere cX3_isThere 4 (some .boolean), Cond.fieldLink RX3 29 "TrialSearch$Space" "on" "[I"]
def wsX4_bestCandidate_r3 : List Cond := [Cond.fieldLink RX3 32 "TrialSearch$Space" "set" "[I", Cond.methodLink RX3 61 yX3_hasBit, Cond.static yX3_hasBit, Cond.code yX3_hasBit cX3_hasBit 2 (some .boolean), Cond.static yX5_cut, Cond.initialized RX5, Cond.code yX5_cut cX5_cut 4 (some .long), Cond.methodLink RX4 79 yX3_apart, Cond.instanceMethod yX3_apart, Cond.selects RX3 yX3_apart yX3_apart, Cond.code yX3_apart cX3_apart 5 (some .int), Cond.methodLink RX3 83 yX3_apartAt, Cond.instanceMethod yX3_apartAt, Cond.selects RX3 yX3_apartAt yX3_apartAt, Cond.code yX3_apartAt cX3_apartAt 4 (some .int), Cond.methodLink RX3 87 Lib.Math.abs.name, Cond.static Lib.Math.abs.name, Cond.initialized "java/lang/Math", Cond.code Lib.Math.abs.name Lib.Math.abs.code 1 (some .int), Cond.methodLink RX4 83 yX4_holdNear, Cond.instanceMethod yX4_holdNear, Cond.selects RX4 yX4_holdNear yX4_holdNear, Cond.code yX4_holdNear cX4_holdNear 8 (some .int), Cond.fieldLink RX4 44 "TrialSearch$Trials" "nearGaps" "[I"]
def wsX4_bestCandidate_r4 : List Cond := [Cond.methodLink RX4 87 Lib.Math.min.name, Cond.static Lib.Math.min.name, Cond.code Lib.Math.min.name Lib.Math.min.code 2 (some .int)]
def wsX4_bestCandidate : List Cond := .code yX4_bestCandidate cX4_bestCandidate 13 (some .long) :: ((wsX4_bestCandidate_r1 ++ (wsX4_bestCandidate_r2 ++ (wsX4_bestCandidate_r3 ++ wsX4_bestCandidate_r4))) ++ wsX40 ++ wsX30)
def wsX4_close : List Cond := .code yX4_close cX4_close 4 (some .int) :: ([.fieldLink RX4 22 "TrialSearch$Trials" "states" "[I", .fieldLink RX4 26 "TrialSearch$Trials" "scores" "[I", .fieldLink RX4 15 "TrialSearch$Trials" "scored" "I"] ++ wsX40)
def wsX4_sortIn : List Cond := .code yX4_sortIn cX4_sortIn 4 none :: ([.fieldLink RX4 50 "TrialSearch$Trials" "others" "[I"] ++ wsX40)
def wsX4_isBelowMiddle : List Cond := .code yX4_isBelowMiddle cX4_isBelowMiddle 7 (some .boolean) :: ([.fieldLink RX4 9 "TrialSearch$Trials" "made" "I", .fieldLink RX4 29 "TrialSearch$Trials" "steps" "[I", .fieldLink RX4 34 "TrialSearch$Trials" "reports" "[[I", .fieldLink RX4 50 "TrialSearch$Trials" "others" "[I", .methodLink RX4 96 yX4_sortIn, .instanceMethod yX4_sortIn, .selects RX4 yX4_sortIn yX4_sortIn, .initialized RX4, .code yX4_sortIn cX4_sortIn 4 none] ++ wsX40)
def wsX4_addReport : List Cond := .code yX4_addReport cX4_addReport 6 (some .int) :: ([.fieldLink RX4 29 "TrialSearch$Trials" "steps" "[I", .fieldLink RX4 34 "TrialSearch$Trials" "reports" "[[I", .fieldLink RX4 22 "TrialSearch$Trials" "states" "[I", .methodLink RX4 92 yX4_isBelowMiddle, .instanceMethod yX4_isBelowMiddle, .selects RX4 yX4_isBelowMiddle yX4_isBelowMiddle, .initialized RX4, .code yX4_isBelowMiddle cX4_isBelowMiddle 7 (some .boolean), .fieldLink RX4 9 "TrialSearch$Trials" "made" "I", .fieldLink RX4 50 "TrialSearch$Trials" "others" "[I", .methodLink RX4 96 yX4_sortIn, .instanceMethod yX4_sortIn, .selects RX4 yX4_sortIn yX4_sortIn, .code yX4_sortIn cX4_sortIn 4 none] ++ wsX40)
def wsX4_firstGreatest : List Cond := .code yX4_firstGreatest cX4_firstGreatest 3 (some .int) :: ([.fieldLink RX4 9 "TrialSearch$Trials" "made" "I", .fieldLink RX4 22 "TrialSearch$Trials" "states" "[I", .fieldLink RX4 26 "TrialSearch$Trials" "scores" "[I"] ++ wsX40)
def wsX5_init_r1 : List Cond := [Cond.methodLink RX5 3 objectInit, Cond.instanceMethod objectInit, Cond.code objectInit ⟨#[0xb1]⟩ 1 none, Cond.classLink RX5 9 RX3, Cond.instantiable RX3 9, Cond.initialized RX3, Cond.fieldLink RX5 12 "TrialSearch" "space" "LTrialSearch$Space;", Cond.classLink RX5 16 RX4, Cond.instantiable RX4 12, Cond.initialized RX4, Cond.fieldLink RX5 21 "TrialSearch" "trials" "LTrialSearch$Trials;", Cond.classLink RX5 25 RX1, Cond.instantiable RX1 10, Cond.initialized RX1, Cond.fieldLink RX5 28 "TrialSearch" "rounds" "LTrialSearch$Rounds;", Cond.classLink RX5 32 RX0, Cond.instantiable RX0 8, Cond.initialized RX0, Cond.fieldLink RX5 35 "TrialSearch" "parts" "LTrialSearch$Folds;", Cond.methodLink RX5 11 yX3_init, Cond.instanceMethod yX3_init, Cond.code yX3_init cX3_init 1 none, Cond.methodLink RX3 3 objectInit, Cond.fieldLink RX3 9 "TrialSearch$Space" "names" "I"]
def wsX5_init_r2 : List Cond := [Cond.fieldLink RX3 15 "TrialSearch$Space" "all" "J", Cond.arrayClass .int, Cond.fieldLink RX3 19 "TrialSearch$Space" "left" "[I", Cond.fieldLink RX3 23 "TrialSearch$Space" "right" "[I", Cond.fieldLink RX3 26 "TrialSearch$Space" "many" "[I", Cond.fieldLink RX3 29 "TrialSearch$Space" "on" "[I", Cond.fieldLink RX3 32 "TrialSearch$Space" "set" "[I", Cond.arrayClass .long, Cond.fieldLink RX3 35 "TrialSearch$Space" "ways" "[J", Cond.classLink RX3 39 "[[J", Cond.fieldLink RX3 41 "TrialSearch$Space" "waysBelow" "[[J", Cond.methodLink RX5 18 yX4_init, Cond.instanceMethod yX4_init, Cond.code yX4_init cX4_init 2 none, Cond.methodLink RX4 3 objectInit, Cond.fieldLink RX4 9 "TrialSearch$Trials" "made" "I", Cond.fieldLink RX4 15 "TrialSearch$Trials" "scored" "I", Cond.fieldLink RX4 18 "TrialSearch$Trials" "places" "[J", Cond.fieldLink RX4 22 "TrialSearch$Trials" "states" "[I", Cond.fieldLink RX4 26 "TrialSearch$Trials" "scores" "[I", Cond.fieldLink RX4 29 "TrialSearch$Trials" "steps" "[I", Cond.classLink RX4 32 "[[I", Cond.fieldLink RX4 34 "TrialSearch$Trials" "reports" "[[I", Cond.fieldLink RX4 37 "TrialSearch$Trials" "space" "LTrialSearch$Space;"]
def wsX5_init_r3 : List Cond := [Cond.fieldLink RX4 41 "TrialSearch$Trials" "values" "[[I", Cond.fieldLink RX4 44 "TrialSearch$Trials" "nearGaps" "[I", Cond.fieldLink RX4 47 "TrialSearch$Trials" "nearScores" "[I", Cond.fieldLink RX4 50 "TrialSearch$Trials" "others" "[I", Cond.methodLink RX5 27 yX1_init, Cond.instanceMethod yX1_init, Cond.code yX1_init cX1_init 1 none, Cond.methodLink RX1 3 objectInit, Cond.fieldLink RX1 9 "TrialSearch$Rounds" "started" "Z", Cond.fieldLink RX1 15 "TrialSearch$Rounds" "spent" "J", Cond.fieldLink RX1 19 "TrialSearch$Rounds" "marks" "[I", Cond.fieldLink RX1 23 "TrialSearch$Rounds" "stands" "[I", Cond.methodLink RX5 34 yX0_init, Cond.instanceMethod yX0_init, Cond.code yX0_init cX0_init 1 none, Cond.methodLink RX0 3 objectInit, Cond.fieldLink RX0 9 "TrialSearch$Folds" "rows" "I", Cond.fieldLink RX0 15 "TrialSearch$Folds" "outer" "I", Cond.fieldLink RX0 18 "TrialSearch$Folds" "inner" "I", Cond.fieldLink RX0 21 "TrialSearch$Folds" "outerOf" "[I", Cond.fieldLink RX0 25 "TrialSearch$Folds" "innerOf" "[I", Cond.fieldLink RX0 28 "TrialSearch$Folds" "tested" "[I", Cond.classLink RX0 31 "[[I", Cond.fieldLink RX0 33 "TrialSearch$Folds" "chosen" "[[I"]
def wsX5_init_r4 : List Cond := [Cond.fieldLink RX0 36 "TrialSearch$Folds" "order" "[J"]
def wsX5_init : List Cond := .code yX5_init cX5_init 1 none :: ((wsX5_init_r1 ++ (wsX5_init_r2 ++ (wsX5_init_r3 ++ wsX5_init_r4))) ++ wsX30 ++ wsX50 ++ wsX40 ++ wsX10 ++ wsX00)
def wsX5_within : List Cond := .code yX5_within cX5_within 6 (some .boolean) :: ([])
def wsX5_name_r1 : List Cond := [Cond.constantLong RX5 39 (30), Cond.constantLong RX5 45 (-1), Cond.fieldLink RX5 12 "TrialSearch" "space" "LTrialSearch$Space;", Cond.fieldLink RX5 47 "TrialSearch$Space" "names" "I", Cond.constantLong RX5 51 (1073741823), Cond.fieldLink RX5 21 "TrialSearch" "trials" "LTrialSearch$Trials;", Cond.fieldLink RX5 53 "TrialSearch$Trials" "made" "I", Cond.methodLink RX5 41 yX5_within, Cond.static yX5_within, Cond.initialized RX5, Cond.code yX5_within cX5_within 6 (some .boolean), Cond.methodLink RX5 56 yX3_add, Cond.instanceMethod yX3_add, Cond.selects RX3 yX3_add yX3_add, Cond.initialized RX3, Cond.code yX3_add cX3_add 5 (some .int), Cond.fieldLink RX3 9 "TrialSearch$Space" "names" "I", Cond.fieldLink RX3 26 "TrialSearch$Space" "many" "[I", Cond.fieldLink RX3 29 "TrialSearch$Space" "on" "[I", Cond.fieldLink RX3 32 "TrialSearch$Space" "set" "[I", Cond.methodLink RX3 44 yX3_countWays, Cond.instanceMethod yX3_countWays, Cond.selects RX3 yX3_countWays yX3_countWays, Cond.code yX3_countWays cX3_countWays 2 none]
def wsX5_name_r2 : List Cond := [Cond.fieldLink RX3 15 "TrialSearch$Space" "all" "J", Cond.fieldLink RX3 41 "TrialSearch$Space" "waysBelow" "[[J", Cond.fieldLink RX3 35 "TrialSearch$Space" "ways" "[J", Cond.methodLink RX3 47 yJ7_fill_d0a16, Cond.static yJ7_fill_d0a16, Cond.initialized RJ7, Cond.code yJ7_fill_d0a16 cJ7_fill_d0a16 5 none, Cond.methodLink RX3 53 yX3_sumOfWays, Cond.instanceMethod yX3_sumOfWays, Cond.selects RX3 yX3_sumOfWays yX3_sumOfWays, Cond.code yX3_sumOfWays cX3_sumOfWays 5 (some .long), Cond.methodLink RX3 57 yX3_hang, Cond.instanceMethod yX3_hang, Cond.selects RX3 yX3_hang yX3_hang, Cond.code yX3_hang cX3_hang 4 none, Cond.methodLink RX3 61 yX3_hasBit, Cond.static yX3_hasBit, Cond.code yX3_hasBit cX3_hasBit 2 (some .boolean)]
def wsX5_name : List Cond := .code yX5_name cX5_name 4 (some .int) :: ((wsX5_name_r1 ++ wsX5_name_r2) ++ wsX50 ++ wsX30 ++ wsX40)
def wsX5_points : List Cond := .code yX5_points cX5_points 1 (some .long) :: ([.fieldLink RX5 12 "TrialSearch" "space" "LTrialSearch$Space;", .fieldLink RX5 60 "TrialSearch$Space" "all" "J"] ++ wsX50 ++ wsX30)
def wsX5_isPoint : List Cond := .code yX5_isPoint cX5_isPoint 3 (some .boolean) :: ([.fieldLink RX5 12 "TrialSearch" "space" "LTrialSearch$Space;", .fieldLink RX5 60 "TrialSearch$Space" "all" "J", .methodLink RX5 41 yX5_within, .static yX5_within, .initialized RX5, .code yX5_within cX5_within 6 (some .boolean)] ++ wsX50 ++ wsX30)
def wsX5_value_r1 : List Cond := [Cond.fieldLink RX5 12 "TrialSearch" "space" "LTrialSearch$Space;", Cond.fieldLink RX5 47 "TrialSearch$Space" "names" "I", Cond.fieldLink RX5 68 "TrialSearch$Space" "left" "[I", Cond.methodLink RX5 64 yX5_isPoint, Cond.instanceMethod yX5_isPoint, Cond.selects RX5 yX5_isPoint yX5_isPoint, Cond.initialized RX5, Cond.code yX5_isPoint cX5_isPoint 3 (some .boolean), Cond.fieldLink RX5 60 "TrialSearch$Space" "all" "J", Cond.methodLink RX5 41 yX5_within, Cond.static yX5_within, Cond.code yX5_within cX5_within 6 (some .boolean), Cond.methodLink RX5 72 yX3_read, Cond.instanceMethod yX3_read, Cond.selects RX3 yX3_read yX3_read, Cond.initialized RX3, Cond.code yX3_read cX3_read 10 none, Cond.fieldLink RX3 15 "TrialSearch$Space" "all" "J", Cond.fieldLink RX3 9 "TrialSearch$Space" "names" "I", Cond.fieldLink RX3 35 "TrialSearch$Space" "ways" "[J", Cond.fieldLink RX3 26 "TrialSearch$Space" "many" "[I", Cond.fieldLink RX3 41 "TrialSearch$Space" "waysBelow" "[[J", Cond.methodLink RX3 65 yX3_isThere, Cond.instanceMethod yX3_isThere]
def wsX5_value_r2 : List Cond := [Cond.selects RX3 yX3_isThere yX3_isThere, Cond.code yX3_isThere cX3_isThere 4 (some .boolean), Cond.fieldLink RX3 29 "TrialSearch$Space" "on" "[I", Cond.fieldLink RX3 32 "TrialSearch$Space" "set" "[I", Cond.methodLink RX3 61 yX3_hasBit, Cond.static yX3_hasBit, Cond.code yX3_hasBit cX3_hasBit 2 (some .boolean), Cond.static yX5_cut, Cond.code yX5_cut cX5_cut 4 (some .long)]
def wsX5_value : List Cond := .code yX5_value cX5_value 4 (some .int) :: ((wsX5_value_r1 ++ wsX5_value_r2) ++ wsX50 ++ wsX30)
def wsX5_number_r1 : List Cond := [Cond.fieldLink RX5 12 "TrialSearch" "space" "LTrialSearch$Space;", Cond.fieldLink RX5 68 "TrialSearch$Space" "left" "[I", Cond.constantLong RX5 84 (-2), Cond.methodLink RX5 76 yX3_takeBits, Cond.instanceMethod yX3_takeBits, Cond.selects RX3 yX3_takeBits yX3_takeBits, Cond.initialized RX3, Cond.code yX3_takeBits cX3_takeBits 6 (some .boolean), Cond.fieldLink RX3 9 "TrialSearch$Space" "names" "I", Cond.fieldLink RX3 26 "TrialSearch$Space" "many" "[I", Cond.methodLink RX3 65 yX3_isThere, Cond.instanceMethod yX3_isThere, Cond.selects RX3 yX3_isThere yX3_isThere, Cond.code yX3_isThere cX3_isThere 4 (some .boolean), Cond.fieldLink RX3 29 "TrialSearch$Space" "on" "[I", Cond.fieldLink RX3 32 "TrialSearch$Space" "set" "[I", Cond.methodLink RX3 61 yX3_hasBit, Cond.static yX3_hasBit, Cond.code yX3_hasBit cX3_hasBit 2 (some .boolean), Cond.methodLink RX5 80 yX3_place, Cond.instanceMethod yX3_place, Cond.selects RX3 yX3_place yX3_place, Cond.code yX3_place cX3_place 8 (some .long), Cond.fieldLink RX3 15 "TrialSearch$Space" "all" "J"]
def wsX5_number_r2 : List Cond := [Cond.fieldLink RX3 35 "TrialSearch$Space" "ways" "[J", Cond.fieldLink RX3 41 "TrialSearch$Space" "waysBelow" "[[J", Cond.static yX5_cut, Cond.initialized RX5, Cond.code yX5_cut cX5_cut 4 (some .long)]
def wsX5_number : List Cond := .code yX5_number cX5_number 3 (some .long) :: ((wsX5_number_r1 ++ wsX5_number_r2) ++ wsX50 ++ wsX30)
def wsX5_distance_r1 : List Cond := [Cond.fieldLink RX5 12 "TrialSearch" "space" "LTrialSearch$Space;", Cond.fieldLink RX5 68 "TrialSearch$Space" "left" "[I", Cond.fieldLink RX5 86 "TrialSearch$Space" "right" "[I", Cond.methodLink RX5 64 yX5_isPoint, Cond.instanceMethod yX5_isPoint, Cond.selects RX5 yX5_isPoint yX5_isPoint, Cond.initialized RX5, Cond.code yX5_isPoint cX5_isPoint 3 (some .boolean), Cond.fieldLink RX5 60 "TrialSearch$Space" "all" "J", Cond.methodLink RX5 41 yX5_within, Cond.static yX5_within, Cond.code yX5_within cX5_within 6 (some .boolean), Cond.methodLink RX5 72 yX3_read, Cond.instanceMethod yX3_read, Cond.selects RX3 yX3_read yX3_read, Cond.initialized RX3, Cond.code yX3_read cX3_read 10 none, Cond.fieldLink RX3 15 "TrialSearch$Space" "all" "J", Cond.fieldLink RX3 9 "TrialSearch$Space" "names" "I", Cond.fieldLink RX3 35 "TrialSearch$Space" "ways" "[J", Cond.fieldLink RX3 26 "TrialSearch$Space" "many" "[I", Cond.fieldLink RX3 41 "TrialSearch$Space" "waysBelow" "[[J", Cond.methodLink RX3 65 yX3_isThere, Cond.instanceMethod yX3_isThere]
def wsX5_distance_r2 : List Cond := [Cond.selects RX3 yX3_isThere yX3_isThere, Cond.code yX3_isThere cX3_isThere 4 (some .boolean), Cond.fieldLink RX3 29 "TrialSearch$Space" "on" "[I", Cond.fieldLink RX3 32 "TrialSearch$Space" "set" "[I", Cond.methodLink RX3 61 yX3_hasBit, Cond.static yX3_hasBit, Cond.code yX3_hasBit cX3_hasBit 2 (some .boolean), Cond.static yX5_cut, Cond.code yX5_cut cX5_cut 4 (some .long), Cond.methodLink RX5 89 yX3_apart, Cond.instanceMethod yX3_apart, Cond.selects RX3 yX3_apart yX3_apart, Cond.code yX3_apart cX3_apart 5 (some .int), Cond.methodLink RX3 83 yX3_apartAt, Cond.instanceMethod yX3_apartAt, Cond.selects RX3 yX3_apartAt yX3_apartAt, Cond.code yX3_apartAt cX3_apartAt 4 (some .int), Cond.methodLink RX3 87 Lib.Math.abs.name, Cond.static Lib.Math.abs.name, Cond.initialized "java/lang/Math", Cond.code Lib.Math.abs.name Lib.Math.abs.code 1 (some .int)]
def wsX5_distance : List Cond := .code yX5_distance cX5_distance 5 (some .int) :: ((wsX5_distance_r1 ++ wsX5_distance_r2) ++ wsX50 ++ wsX30)
def wsX5_placeBy_r1 : List Cond := [Cond.fieldLink RX5 12 "TrialSearch" "space" "LTrialSearch$Space;", Cond.fieldLink RX5 60 "TrialSearch$Space" "all" "J", Cond.fieldLink RX5 68 "TrialSearch$Space" "left" "[I", Cond.methodLink RX5 272 yX5_rest, Cond.static yX5_rest, Cond.initialized RX5, Cond.code yX5_rest cX5_rest 4 (some .long), Cond.methodLink RX5 275 yX2_pick, Cond.static yX2_pick, Cond.initialized RX2, Cond.code yX2_pick cX2_pick 7 (some .long), Cond.constant RX2 16 (1000000), Cond.methodLink RX2 10 yX2_bitsFor, Cond.static yX2_bitsFor, Cond.code yX2_bitsFor cX2_bitsFor 3 (some .int), Cond.methodLink RX2 17 yX2_twoHashes, Cond.static yX2_twoHashes, Cond.code yX2_twoHashes cX2_twoHashes 6 (some .long), Cond.constantLong RX2 25 (4294967295), Cond.methodLink RX2 21 yX2_hash, Cond.static yX2_hash, Cond.code yX2_hash cX2_hash 3 (some .int), Cond.constant RX2 7 (-1640531527), Cond.constant RX2 8 (-2048144789)]
def wsX5_placeBy_r2 : List Cond := [Cond.constant RX2 9 (-1028477387), Cond.methodLink RX5 280 yX3_pickEach, Cond.instanceMethod yX3_pickEach, Cond.selects RX3 yX3_pickEach yX3_pickEach, Cond.initialized RX3, Cond.code yX3_pickEach cX3_pickEach 4 none, Cond.fieldLink RX3 9 "TrialSearch$Space" "names" "I", Cond.fieldLink RX3 26 "TrialSearch$Space" "many" "[I", Cond.methodLink RX3 65 yX3_isThere, Cond.instanceMethod yX3_isThere, Cond.selects RX3 yX3_isThere yX3_isThere, Cond.code yX3_isThere cX3_isThere 4 (some .boolean), Cond.fieldLink RX3 29 "TrialSearch$Space" "on" "[I", Cond.fieldLink RX3 32 "TrialSearch$Space" "set" "[I", Cond.methodLink RX3 61 yX3_hasBit, Cond.static yX3_hasBit, Cond.code yX3_hasBit cX3_hasBit 2 (some .boolean), Cond.methodLink RX3 73 yX2_hash, Cond.methodLink RX3 79 yX2_pick, Cond.methodLink RX5 80 yX3_place, Cond.instanceMethod yX3_place, Cond.selects RX3 yX3_place yX3_place, Cond.code yX3_place cX3_place 8 (some .long), Cond.fieldLink RX3 15 "TrialSearch$Space" "all" "J"]
def wsX5_placeBy_r3 : List Cond := [Cond.fieldLink RX3 35 "TrialSearch$Space" "ways" "[J", Cond.fieldLink RX3 41 "TrialSearch$Space" "waysBelow" "[[J", Cond.static yX5_cut, Cond.code yX5_cut cX5_cut 4 (some .long)]
def wsX5_placeBy : List Cond := .code yX5_placeBy cX5_placeBy 3 (some .long) :: ((wsX5_placeBy_r1 ++ (wsX5_placeBy_r2 ++ wsX5_placeBy_r3)) ++ wsX50 ++ wsX30)
def wsX5_trial_r1 : List Cond := [Cond.constantLong RX5 93 (2), Cond.fieldLink RX5 21 "TrialSearch" "trials" "LTrialSearch$Trials;", Cond.fieldLink RX5 53 "TrialSearch$Trials" "made" "I", Cond.methodLink RX5 41 yX5_within, Cond.static yX5_within, Cond.initialized RX5, Cond.code yX5_within cX5_within 6 (some .boolean), Cond.methodLink RX5 95 yX5_placeBy, Cond.instanceMethod yX5_placeBy, Cond.selects RX5 yX5_placeBy yX5_placeBy, Cond.code yX5_placeBy cX5_placeBy 3 (some .long), Cond.fieldLink RX5 12 "TrialSearch" "space" "LTrialSearch$Space;", Cond.fieldLink RX5 60 "TrialSearch$Space" "all" "J", Cond.fieldLink RX5 68 "TrialSearch$Space" "left" "[I", Cond.methodLink RX5 272 yX5_rest, Cond.static yX5_rest, Cond.code yX5_rest cX5_rest 4 (some .long), Cond.methodLink RX5 275 yX2_pick, Cond.static yX2_pick, Cond.initialized RX2, Cond.code yX2_pick cX2_pick 7 (some .long), Cond.constant RX2 16 (1000000), Cond.methodLink RX2 10 yX2_bitsFor, Cond.static yX2_bitsFor]
def wsX5_trial_r2 : List Cond := [Cond.code yX2_bitsFor cX2_bitsFor 3 (some .int), Cond.methodLink RX2 17 yX2_twoHashes, Cond.static yX2_twoHashes, Cond.code yX2_twoHashes cX2_twoHashes 6 (some .long), Cond.constantLong RX2 25 (4294967295), Cond.methodLink RX2 21 yX2_hash, Cond.static yX2_hash, Cond.code yX2_hash cX2_hash 3 (some .int), Cond.constant RX2 7 (-1640531527), Cond.constant RX2 8 (-2048144789), Cond.constant RX2 9 (-1028477387), Cond.methodLink RX5 280 yX3_pickEach, Cond.instanceMethod yX3_pickEach, Cond.selects RX3 yX3_pickEach yX3_pickEach, Cond.initialized RX3, Cond.code yX3_pickEach cX3_pickEach 4 none, Cond.fieldLink RX3 9 "TrialSearch$Space" "names" "I", Cond.fieldLink RX3 26 "TrialSearch$Space" "many" "[I", Cond.methodLink RX3 65 yX3_isThere, Cond.instanceMethod yX3_isThere, Cond.selects RX3 yX3_isThere yX3_isThere, Cond.code yX3_isThere cX3_isThere 4 (some .boolean), Cond.fieldLink RX3 29 "TrialSearch$Space" "on" "[I", Cond.fieldLink RX3 32 "TrialSearch$Space" "set" "[I"]
def wsX5_trial_r3 : List Cond := [Cond.methodLink RX3 61 yX3_hasBit, Cond.static yX3_hasBit, Cond.code yX3_hasBit cX3_hasBit 2 (some .boolean), Cond.methodLink RX3 73 yX2_hash, Cond.methodLink RX3 79 yX2_pick, Cond.methodLink RX5 80 yX3_place, Cond.instanceMethod yX3_place, Cond.selects RX3 yX3_place yX3_place, Cond.code yX3_place cX3_place 8 (some .long), Cond.fieldLink RX3 15 "TrialSearch$Space" "all" "J", Cond.fieldLink RX3 35 "TrialSearch$Space" "ways" "[J", Cond.fieldLink RX3 41 "TrialSearch$Space" "waysBelow" "[[J", Cond.static yX5_cut, Cond.code yX5_cut cX5_cut 4 (some .long), Cond.methodLink RX5 99 yX4_add, Cond.instanceMethod yX4_add, Cond.selects RX4 yX4_add yX4_add, Cond.initialized RX4, Cond.code yX4_add cX4_add 4 (some .int), Cond.fieldLink RX4 9 "TrialSearch$Trials" "made" "I", Cond.fieldLink RX4 18 "TrialSearch$Trials" "places" "[J", Cond.fieldLink RX4 22 "TrialSearch$Trials" "states" "[I", Cond.fieldLink RX4 37 "TrialSearch$Trials" "space" "LTrialSearch$Space;", Cond.fieldLink RX4 41 "TrialSearch$Trials" "values" "[[I"]
def wsX5_trial_r4 : List Cond := [Cond.methodLink RX4 53 yX3_read, Cond.instanceMethod yX3_read, Cond.selects RX3 yX3_read yX3_read, Cond.code yX3_read cX3_read 10 none]
def wsX5_trial : List Cond := .code yX5_trial cX5_trial 3 (some .int) :: ((wsX5_trial_r1 ++ (wsX5_trial_r2 ++ (wsX5_trial_r3 ++ wsX5_trial_r4))) ++ wsX50 ++ wsX40 ++ wsX30)
def wsX5_guess_r1 : List Cond := [Cond.constantLong RX5 102 (40), Cond.constantLong RX5 104 (5), Cond.fieldLink RX5 21 "TrialSearch" "trials" "LTrialSearch$Trials;", Cond.fieldLink RX5 53 "TrialSearch$Trials" "made" "I", Cond.methodLink RX5 41 yX5_within, Cond.static yX5_within, Cond.initialized RX5, Cond.code yX5_within cX5_within 6 (some .boolean), Cond.methodLink RX5 106 yX4_bestCandidate, Cond.instanceMethod yX4_bestCandidate, Cond.selects RX4 yX4_bestCandidate yX4_bestCandidate, Cond.initialized RX4, Cond.code yX4_bestCandidate cX4_bestCandidate 13 (some .long), Cond.fieldLink RX4 37 "TrialSearch$Trials" "space" "LTrialSearch$Space;", Cond.fieldLink RX4 59 "TrialSearch$Space" "all" "J", Cond.fieldLink RX4 15 "TrialSearch$Trials" "scored" "I", Cond.methodLink RX4 63 yX2_hash, Cond.static yX2_hash, Cond.initialized RX2, Cond.code yX2_hash cX2_hash 3 (some .int), Cond.constant RX2 7 (-1640531527), Cond.constant RX2 8 (-2048144789), Cond.constant RX2 9 (-1028477387), Cond.methodLink RX4 69 yX2_pick]
def wsX5_guess_r2 : List Cond := [Cond.static yX2_pick, Cond.code yX2_pick cX2_pick 7 (some .long), Cond.constant RX2 16 (1000000), Cond.methodLink RX2 10 yX2_bitsFor, Cond.static yX2_bitsFor, Cond.code yX2_bitsFor cX2_bitsFor 3 (some .int), Cond.methodLink RX2 17 yX2_twoHashes, Cond.static yX2_twoHashes, Cond.code yX2_twoHashes cX2_twoHashes 6 (some .long), Cond.constantLong RX2 25 (4294967295), Cond.methodLink RX2 21 yX2_hash, Cond.methodLink RX4 73 yX4_nearSum, Cond.instanceMethod yX4_nearSum, Cond.selects RX4 yX4_nearSum yX4_nearSum, Cond.code yX4_nearSum cX4_nearSum 8 (some .long), Cond.fieldLink RX4 76 "TrialSearch$Space" "left" "[I", Cond.fieldLink RX4 9 "TrialSearch$Trials" "made" "I", Cond.fieldLink RX4 22 "TrialSearch$Trials" "states" "[I", Cond.fieldLink RX4 41 "TrialSearch$Trials" "values" "[[I", Cond.fieldLink RX4 26 "TrialSearch$Trials" "scores" "[I", Cond.fieldLink RX4 47 "TrialSearch$Trials" "nearScores" "[I", Cond.methodLink RX4 53 yX3_read, Cond.instanceMethod yX3_read, Cond.selects RX3 yX3_read yX3_read]
def wsX5_guess_r3 : List Cond := [Cond.initialized RX3, Cond.code yX3_read cX3_read 10 none, Cond.fieldLink RX3 15 "TrialSearch$Space" "all" "J", Cond.fieldLink RX3 9 "TrialSearch$Space" "names" "I", Cond.fieldLink RX3 35 "TrialSearch$Space" "ways" "[J", Cond.fieldLink RX3 26 "TrialSearch$Space" "many" "[I", Cond.fieldLink RX3 41 "TrialSearch$Space" "waysBelow" "[[J", Cond.methodLink RX3 65 yX3_isThere, Cond.instanceMethod yX3_isThere, Cond.selects RX3 yX3_isThere yX3_isThere, Cond.code yX3_isThere cX3_isThere 4 (some .boolean), Cond.fieldLink RX3 29 "TrialSearch$Space" "on" "[I", Cond.fieldLink RX3 32 "TrialSearch$Space" "set" "[I", Cond.methodLink RX3 61 yX3_hasBit, Cond.static yX3_hasBit, Cond.code yX3_hasBit cX3_hasBit 2 (some .boolean), Cond.static yX5_cut, Cond.code yX5_cut cX5_cut 4 (some .long), Cond.methodLink RX4 79 yX3_apart, Cond.instanceMethod yX3_apart, Cond.selects RX3 yX3_apart yX3_apart, Cond.code yX3_apart cX3_apart 5 (some .int), Cond.methodLink RX3 83 yX3_apartAt, Cond.instanceMethod yX3_apartAt]
def wsX5_guess_r4 : List Cond := [Cond.selects RX3 yX3_apartAt yX3_apartAt, Cond.code yX3_apartAt cX3_apartAt 4 (some .int), Cond.methodLink RX3 87 Lib.Math.abs.name, Cond.static Lib.Math.abs.name, Cond.initialized "java/lang/Math", Cond.code Lib.Math.abs.name Lib.Math.abs.code 1 (some .int), Cond.methodLink RX4 83 yX4_holdNear, Cond.instanceMethod yX4_holdNear, Cond.selects RX4 yX4_holdNear yX4_holdNear, Cond.code yX4_holdNear cX4_holdNear 8 (some .int), Cond.fieldLink RX4 44 "TrialSearch$Trials" "nearGaps" "[I", Cond.methodLink RX4 87 Lib.Math.min.name, Cond.static Lib.Math.min.name, Cond.code Lib.Math.min.name Lib.Math.min.code 2 (some .int), Cond.methodLink RX5 99 yX4_add, Cond.instanceMethod yX4_add, Cond.selects RX4 yX4_add yX4_add, Cond.code yX4_add cX4_add 4 (some .int), Cond.fieldLink RX4 18 "TrialSearch$Trials" "places" "[J"]
def wsX5_guess : List Cond := .code yX5_guess cX5_guess 4 (some .int) :: ((wsX5_guess_r1 ++ (wsX5_guess_r2 ++ (wsX5_guess_r3 ++ wsX5_guess_r4))) ++ wsX50 ++ wsX40 ++ wsX30)
def wsX5_commonDivisor : List Cond := .code yX5_commonDivisor cX5_commonDivisor 11 (some .long) :: ([.methodLink RX5 272 yX5_rest, .static yX5_rest, .initialized RX5, .code yX5_rest cX5_rest 4 (some .long)])
def wsX5_forecast_r1 : List Cond := [Cond.constantLong RX5 104 (5), Cond.constantLong RX5 110 (-1000000000000000001), Cond.fieldLink RX5 21 "TrialSearch" "trials" "LTrialSearch$Trials;", Cond.fieldLink RX5 112 "TrialSearch$Trials" "scored" "I", Cond.constantLong RX5 115 (-1000000000000000002), Cond.methodLink RX5 121 Lib.Math.min.name, Cond.static Lib.Math.min.name, Cond.initialized "java/lang/Math", Cond.code Lib.Math.min.name Lib.Math.min.code 2 (some .int), Cond.methodLink RX5 127 Lib.MathLoose.abs_long.x, Cond.static Lib.MathLoose.abs_long.x, Cond.code Lib.MathLoose.abs_long.x Lib.MathLoose.abs_long.code 2 (some .long), Cond.methodLink RX5 64 yX5_isPoint, Cond.instanceMethod yX5_isPoint, Cond.selects RX5 yX5_isPoint yX5_isPoint, Cond.initialized RX5, Cond.code yX5_isPoint cX5_isPoint 3 (some .boolean), Cond.fieldLink RX5 12 "TrialSearch" "space" "LTrialSearch$Space;", Cond.fieldLink RX5 60 "TrialSearch$Space" "all" "J", Cond.methodLink RX5 41 yX5_within, Cond.static yX5_within, Cond.code yX5_within cX5_within 6 (some .boolean), Cond.methodLink RX5 117 yX4_nearSum, Cond.instanceMethod yX4_nearSum]
def wsX5_forecast_r2 : List Cond := [Cond.selects RX4 yX4_nearSum yX4_nearSum, Cond.initialized RX4, Cond.code yX4_nearSum cX4_nearSum 8 (some .long), Cond.fieldLink RX4 37 "TrialSearch$Trials" "space" "LTrialSearch$Space;", Cond.fieldLink RX4 76 "TrialSearch$Space" "left" "[I", Cond.fieldLink RX4 9 "TrialSearch$Trials" "made" "I", Cond.fieldLink RX4 22 "TrialSearch$Trials" "states" "[I", Cond.fieldLink RX4 41 "TrialSearch$Trials" "values" "[[I", Cond.fieldLink RX4 26 "TrialSearch$Trials" "scores" "[I", Cond.fieldLink RX4 47 "TrialSearch$Trials" "nearScores" "[I", Cond.methodLink RX4 53 yX3_read, Cond.instanceMethod yX3_read, Cond.selects RX3 yX3_read yX3_read, Cond.initialized RX3, Cond.code yX3_read cX3_read 10 none, Cond.fieldLink RX3 15 "TrialSearch$Space" "all" "J", Cond.fieldLink RX3 9 "TrialSearch$Space" "names" "I", Cond.fieldLink RX3 35 "TrialSearch$Space" "ways" "[J", Cond.fieldLink RX3 26 "TrialSearch$Space" "many" "[I", Cond.fieldLink RX3 41 "TrialSearch$Space" "waysBelow" "[[J", Cond.methodLink RX3 65 yX3_isThere, Cond.instanceMethod yX3_isThere, Cond.selects RX3 yX3_isThere yX3_isThere, Cond.code yX3_isThere cX3_isThere 4 (some .boolean)]
def wsX5_forecast_r3 : List Cond := [Cond.fieldLink RX3 29 "TrialSearch$Space" "on" "[I", Cond.fieldLink RX3 32 "TrialSearch$Space" "set" "[I", Cond.methodLink RX3 61 yX3_hasBit, Cond.static yX3_hasBit, Cond.code yX3_hasBit cX3_hasBit 2 (some .boolean), Cond.static yX5_cut, Cond.code yX5_cut cX5_cut 4 (some .long), Cond.methodLink RX4 79 yX3_apart, Cond.instanceMethod yX3_apart, Cond.selects RX3 yX3_apart yX3_apart, Cond.code yX3_apart cX3_apart 5 (some .int), Cond.methodLink RX3 83 yX3_apartAt, Cond.instanceMethod yX3_apartAt, Cond.selects RX3 yX3_apartAt yX3_apartAt, Cond.code yX3_apartAt cX3_apartAt 4 (some .int), Cond.methodLink RX3 87 Lib.Math.abs.name, Cond.static Lib.Math.abs.name, Cond.code Lib.Math.abs.name Lib.Math.abs.code 1 (some .int), Cond.methodLink RX4 83 yX4_holdNear, Cond.instanceMethod yX4_holdNear, Cond.selects RX4 yX4_holdNear yX4_holdNear, Cond.code yX4_holdNear cX4_holdNear 8 (some .int), Cond.fieldLink RX4 44 "TrialSearch$Trials" "nearGaps" "[I", Cond.methodLink RX4 87 Lib.Math.min.name]
def wsX5_forecast_r4 : List Cond := [Cond.methodLink RX5 131 yX5_commonDivisor, Cond.static yX5_commonDivisor, Cond.code yX5_commonDivisor cX5_commonDivisor 11 (some .long), Cond.methodLink RX5 272 yX5_rest, Cond.static yX5_rest, Cond.code yX5_rest cX5_rest 4 (some .long), Cond.methodLink RX5 135 yX5_cut]
def wsX5_forecast : List Cond := .code yX5_forecast cX5_forecast 11 (some .long) :: ((wsX5_forecast_r1 ++ (wsX5_forecast_r2 ++ (wsX5_forecast_r3 ++ wsX5_forecast_r4))) ++ wsX50 ++ wsX40 ++ wsX30)
def wsX5_isTrial : List Cond := .code yX5_isTrial cX5_isTrial 2 (some .boolean) :: ([.fieldLink RX5 21 "TrialSearch" "trials" "LTrialSearch$Trials;", .fieldLink RX5 53 "TrialSearch$Trials" "made" "I", .methodLink RX5 41 yX5_within, .static yX5_within, .initialized RX5, .code yX5_within cX5_within 6 (some .boolean)] ++ wsX50 ++ wsX40)
def wsX5_isMark : List Cond := .code yX5_isMark cX5_isMark 2 (some .boolean) :: ([.constantLong RX5 264 (-1000000), .constantLong RX5 183 (1000000), .methodLink RX5 41 yX5_within, .static yX5_within, .initialized RX5, .code yX5_within cX5_within 6 (some .boolean)])
def wsX5_score : List Cond := .code yX5_score cX5_score 4 (some .int) :: ([.fieldLink RX5 21 "TrialSearch" "trials" "LTrialSearch$Trials;", .fieldLink RX5 146 "TrialSearch$Trials" "states" "[I", .methodLink RX5 138 yX5_isTrial, .instanceMethod yX5_isTrial, .selects RX5 yX5_isTrial yX5_isTrial, .initialized RX5, .code yX5_isTrial cX5_isTrial 2 (some .boolean), .fieldLink RX5 53 "TrialSearch$Trials" "made" "I", .methodLink RX5 41 yX5_within, .static yX5_within, .code yX5_within cX5_within 6 (some .boolean), .methodLink RX5 142 yX5_isMark, .static yX5_isMark, .code yX5_isMark cX5_isMark 2 (some .boolean), .constantLong RX5 264 (-1000000), .constantLong RX5 183 (1000000), .methodLink RX5 149 yX4_close, .instanceMethod yX4_close, .selects RX4 yX4_close yX4_close, .initialized RX4, .code yX4_close cX4_close 4 (some .int), .fieldLink RX4 22 "TrialSearch$Trials" "states" "[I", .fieldLink RX4 26 "TrialSearch$Trials" "scores" "[I", .fieldLink RX4 15 "TrialSearch$Trials" "scored" "I"] ++ wsX50 ++ wsX40)
def wsX5_report_r1 : List Cond := [Cond.constantLong RX5 153 (60), Cond.fieldLink RX5 21 "TrialSearch" "trials" "LTrialSearch$Trials;", Cond.fieldLink RX5 146 "TrialSearch$Trials" "states" "[I", Cond.fieldLink RX5 155 "TrialSearch$Trials" "steps" "[I", Cond.methodLink RX5 138 yX5_isTrial, Cond.instanceMethod yX5_isTrial, Cond.selects RX5 yX5_isTrial yX5_isTrial, Cond.initialized RX5, Cond.code yX5_isTrial cX5_isTrial 2 (some .boolean), Cond.fieldLink RX5 53 "TrialSearch$Trials" "made" "I", Cond.methodLink RX5 41 yX5_within, Cond.static yX5_within, Cond.code yX5_within cX5_within 6 (some .boolean), Cond.methodLink RX5 142 yX5_isMark, Cond.static yX5_isMark, Cond.code yX5_isMark cX5_isMark 2 (some .boolean), Cond.constantLong RX5 264 (-1000000), Cond.constantLong RX5 183 (1000000), Cond.methodLink RX5 158 yX4_addReport, Cond.instanceMethod yX4_addReport, Cond.selects RX4 yX4_addReport yX4_addReport, Cond.initialized RX4, Cond.code yX4_addReport cX4_addReport 6 (some .int), Cond.fieldLink RX4 29 "TrialSearch$Trials" "steps" "[I"]
def wsX5_report_r2 : List Cond := [Cond.fieldLink RX4 34 "TrialSearch$Trials" "reports" "[[I", Cond.fieldLink RX4 22 "TrialSearch$Trials" "states" "[I", Cond.methodLink RX4 92 yX4_isBelowMiddle, Cond.instanceMethod yX4_isBelowMiddle, Cond.selects RX4 yX4_isBelowMiddle yX4_isBelowMiddle, Cond.code yX4_isBelowMiddle cX4_isBelowMiddle 7 (some .boolean), Cond.fieldLink RX4 9 "TrialSearch$Trials" "made" "I", Cond.fieldLink RX4 50 "TrialSearch$Trials" "others" "[I", Cond.methodLink RX4 96 yX4_sortIn, Cond.instanceMethod yX4_sortIn, Cond.selects RX4 yX4_sortIn yX4_sortIn, Cond.code yX4_sortIn cX4_sortIn 4 none]
def wsX5_report : List Cond := .code yX5_report cX5_report 4 (some .int) :: ((wsX5_report_r1 ++ wsX5_report_r2) ++ wsX50 ++ wsX40)
def wsX5_told : List Cond := .code yX5_told cX5_told 3 (some .int) :: ([.fieldLink RX5 21 "TrialSearch" "trials" "LTrialSearch$Trials;", .fieldLink RX5 146 "TrialSearch$Trials" "states" "[I", .fieldLink RX5 161 "TrialSearch$Trials" "scores" "[I", .fieldLink RX5 155 "TrialSearch$Trials" "steps" "[I", .fieldLink RX5 28 "TrialSearch" "rounds" "LTrialSearch$Rounds;", .fieldLink RX5 164 "TrialSearch$Rounds" "marks" "[I", .methodLink RX5 138 yX5_isTrial, .instanceMethod yX5_isTrial, .selects RX5 yX5_isTrial yX5_isTrial, .initialized RX5, .code yX5_isTrial cX5_isTrial 2 (some .boolean), .fieldLink RX5 53 "TrialSearch$Trials" "made" "I", .methodLink RX5 41 yX5_within, .static yX5_within, .code yX5_within cX5_within 6 (some .boolean), .methodLink RX5 167 yX1_isIn, .instanceMethod yX1_isIn, .selects RX1 yX1_isIn yX1_isIn, .initialized RX1, .code yX1_isIn cX1_isIn 2 (some .boolean), .fieldLink RX1 23 "TrialSearch$Rounds" "stands" "[I"] ++ wsX50 ++ wsX40 ++ wsX10)
def wsX5_point : List Cond := .code yX5_point cX5_point 2 (some .long) :: ([.fieldLink RX5 21 "TrialSearch" "trials" "LTrialSearch$Trials;", .fieldLink RX5 170 "TrialSearch$Trials" "places" "[J", .constantLong RX5 45 (-1), .methodLink RX5 138 yX5_isTrial, .instanceMethod yX5_isTrial, .selects RX5 yX5_isTrial yX5_isTrial, .initialized RX5, .code yX5_isTrial cX5_isTrial 2 (some .boolean), .fieldLink RX5 53 "TrialSearch$Trials" "made" "I", .methodLink RX5 41 yX5_within, .static yX5_within, .code yX5_within cX5_within 6 (some .boolean)] ++ wsX50 ++ wsX40)
def wsX5_reported : List Cond := .code yX5_reported cX5_reported 3 (some .int) :: ([.fieldLink RX5 21 "TrialSearch" "trials" "LTrialSearch$Trials;", .fieldLink RX5 155 "TrialSearch$Trials" "steps" "[I", .constant RX5 174 (-2000000), .fieldLink RX5 175 "TrialSearch$Trials" "reports" "[[I", .methodLink RX5 138 yX5_isTrial, .instanceMethod yX5_isTrial, .selects RX5 yX5_isTrial yX5_isTrial, .initialized RX5, .code yX5_isTrial cX5_isTrial 2 (some .boolean), .fieldLink RX5 53 "TrialSearch$Trials" "made" "I", .methodLink RX5 41 yX5_within, .static yX5_within, .code yX5_within cX5_within 6 (some .boolean)] ++ wsX50 ++ wsX40)
def wsX5_best : List Cond := .code yX5_best cX5_best 1 (some .int) :: ([.fieldLink RX5 21 "TrialSearch" "trials" "LTrialSearch$Trials;", .methodLink RX5 179 yX4_firstGreatest, .instanceMethod yX4_firstGreatest, .selects RX4 yX4_firstGreatest yX4_firstGreatest, .initialized RX4, .code yX4_firstGreatest cX4_firstGreatest 3 (some .int), .fieldLink RX4 9 "TrialSearch$Trials" "made" "I", .fieldLink RX4 22 "TrialSearch$Trials" "states" "[I", .fieldLink RX4 26 "TrialSearch$Trials" "scores" "[I"] ++ wsX50 ++ wsX40)
def wsX5_bracket_r1 : List Cond := [Cond.constantLong RX5 153 (60), Cond.fieldLink RX5 21 "TrialSearch" "trials" "LTrialSearch$Trials;", Cond.fieldLink RX5 53 "TrialSearch$Trials" "made" "I", Cond.constantLong RX5 183 (1000000), Cond.constantLong RX5 93 (2), Cond.constantLong RX5 104 (5), Cond.fieldLink RX5 28 "TrialSearch" "rounds" "LTrialSearch$Rounds;", Cond.methodLink RX5 41 yX5_within, Cond.static yX5_within, Cond.initialized RX5, Cond.code yX5_within cX5_within 6 (some .boolean), Cond.methodLink RX5 185 yX1_start, Cond.instanceMethod yX1_start, Cond.selects RX1 yX1_start yX1_start, Cond.initialized RX1, Cond.code yX1_start cX1_start 6 none, Cond.fieldLink RX1 9 "TrialSearch$Rounds" "started" "Z", Cond.fieldLink RX1 26 "TrialSearch$Rounds" "over" "Z", Cond.fieldLink RX1 15 "TrialSearch$Rounds" "spent" "J", Cond.fieldLink RX1 29 "TrialSearch$Rounds" "halved" "I", Cond.fieldLink RX1 33 "TrialSearch$Rounds" "budget" "I", Cond.fieldLink RX1 36 "TrialSearch$Rounds" "factor" "I", Cond.fieldLink RX1 19 "TrialSearch$Rounds" "marks" "[I", Cond.fieldLink RX1 23 "TrialSearch$Rounds" "stands" "[I"]
def wsX5_bracket_r2 : List Cond := [Cond.fieldLink RX1 39 "TrialSearch$Rounds" "in" "I", Cond.fieldLink RX1 42 "TrialSearch$Rounds" "waiting" "I"]
def wsX5_bracket : List Cond := .code yX5_bracket cX5_bracket 5 (some .int) :: ((wsX5_bracket_r1 ++ wsX5_bracket_r2) ++ wsX50 ++ wsX40 ++ wsX10)
def wsX5_result_r1 : List Cond := [Cond.fieldLink RX5 28 "TrialSearch" "rounds" "LTrialSearch$Rounds;", Cond.methodLink RX5 138 yX5_isTrial, Cond.instanceMethod yX5_isTrial, Cond.selects RX5 yX5_isTrial yX5_isTrial, Cond.initialized RX5, Cond.code yX5_isTrial cX5_isTrial 2 (some .boolean), Cond.fieldLink RX5 21 "TrialSearch" "trials" "LTrialSearch$Trials;", Cond.fieldLink RX5 53 "TrialSearch$Trials" "made" "I", Cond.methodLink RX5 41 yX5_within, Cond.static yX5_within, Cond.code yX5_within cX5_within 6 (some .boolean), Cond.methodLink RX5 142 yX5_isMark, Cond.static yX5_isMark, Cond.code yX5_isMark cX5_isMark 2 (some .boolean), Cond.constantLong RX5 264 (-1000000), Cond.constantLong RX5 183 (1000000), Cond.methodLink RX5 189 yX1_isWaiting, Cond.instanceMethod yX1_isWaiting, Cond.selects RX1 yX1_isWaiting yX1_isWaiting, Cond.initialized RX1, Cond.code yX1_isWaiting cX1_isWaiting 2 (some .boolean), Cond.fieldLink RX1 23 "TrialSearch$Rounds" "stands" "[I", Cond.methodLink RX5 192 yX1_mark, Cond.instanceMethod yX1_mark]
def wsX5_result_r2 : List Cond := [Cond.selects RX1 yX1_mark yX1_mark, Cond.code yX1_mark cX1_mark 4 (some .int), Cond.fieldLink RX1 19 "TrialSearch$Rounds" "marks" "[I", Cond.fieldLink RX1 15 "TrialSearch$Rounds" "spent" "J", Cond.fieldLink RX1 33 "TrialSearch$Rounds" "budget" "I", Cond.fieldLink RX1 42 "TrialSearch$Rounds" "waiting" "I"]
def wsX5_result : List Cond := .code yX5_result cX5_result 4 (some .int) :: ((wsX5_result_r1 ++ wsX5_result_r2) ++ wsX50 ++ wsX40 ++ wsX10)
def wsX5_halve_r1 : List Cond := [Cond.fieldLink RX5 28 "TrialSearch" "rounds" "LTrialSearch$Rounds;", Cond.methodLink RX5 195 yX1_canEnd, Cond.instanceMethod yX1_canEnd, Cond.selects RX1 yX1_canEnd yX1_canEnd, Cond.initialized RX1, Cond.code yX1_canEnd cX1_canEnd 1 (some .boolean), Cond.fieldLink RX1 9 "TrialSearch$Rounds" "started" "Z", Cond.fieldLink RX1 26 "TrialSearch$Rounds" "over" "Z", Cond.fieldLink RX1 42 "TrialSearch$Rounds" "waiting" "I", Cond.methodLink RX5 199 yX1_end, Cond.instanceMethod yX1_end, Cond.selects RX1 yX1_end yX1_end, Cond.code yX1_end cX1_end 4 (some .int), Cond.fieldLink RX1 39 "TrialSearch$Rounds" "in" "I", Cond.fieldLink RX1 36 "TrialSearch$Rounds" "factor" "I", Cond.methodLink RX1 49 Lib.MathLoose.max_long.x, Cond.static Lib.MathLoose.max_long.x, Cond.initialized "java/lang/Math", Cond.code Lib.MathLoose.max_long.x Lib.MathLoose.max_long.code 4 (some .long), Cond.fieldLink RX1 29 "TrialSearch$Rounds" "halved" "I", Cond.fieldLink RX1 33 "TrialSearch$Rounds" "budget" "I", Cond.constantLong RX1 61 (1000000000), Cond.methodLink RX1 63 Lib.MathLoose.min_long.x, Cond.static Lib.MathLoose.min_long.x]
def wsX5_halve_r2 : List Cond := [Cond.code Lib.MathLoose.min_long.x Lib.MathLoose.min_long.code 4 (some .long), Cond.static yX5_cut, Cond.initialized RX5, Cond.code yX5_cut cX5_cut 4 (some .long), Cond.methodLink RX1 54 yX1_keepGreatest, Cond.instanceMethod yX1_keepGreatest, Cond.selects RX1 yX1_keepGreatest yX1_keepGreatest, Cond.code yX1_keepGreatest cX1_keepGreatest 3 (some .boolean), Cond.fieldLink RX1 23 "TrialSearch$Rounds" "stands" "[I", Cond.fieldLink RX1 19 "TrialSearch$Rounds" "marks" "[I", Cond.methodLink RX1 58 yX1_openRound, Cond.instanceMethod yX1_openRound, Cond.selects RX1 yX1_openRound yX1_openRound, Cond.code yX1_openRound cX1_openRound 2 none]
def wsX5_halve : List Cond := .code yX5_halve cX5_halve 1 (some .int) :: ((wsX5_halve_r1 ++ wsX5_halve_r2) ++ wsX50 ++ wsX10)
def wsX5_round : List Cond := .code yX5_round cX5_round 2 (some .int) :: ([.constantLong RX5 202 (3), .fieldLink RX5 28 "TrialSearch" "rounds" "LTrialSearch$Rounds;", .fieldLink RX5 204 "TrialSearch$Rounds" "started" "Z", .methodLink RX5 41 yX5_within, .static yX5_within, .initialized RX5, .code yX5_within cX5_within 6 (some .boolean), .methodLink RX5 208 yX1_tell, .instanceMethod yX1_tell, .selects RX1 yX1_tell yX1_tell, .initialized RX1, .code yX1_tell cX1_tell 2 (some .int), .fieldLink RX1 39 "TrialSearch$Rounds" "in" "I", .fieldLink RX1 29 "TrialSearch$Rounds" "halved" "I", .fieldLink RX1 33 "TrialSearch$Rounds" "budget" "I", .fieldLink RX1 26 "TrialSearch$Rounds" "over" "Z"] ++ wsX50 ++ wsX10)
def wsX5_cost : List Cond := .code yX5_cost cX5_cost 1 (some .long) :: ([.fieldLink RX5 28 "TrialSearch" "rounds" "LTrialSearch$Rounds;", .fieldLink RX5 212 "TrialSearch$Rounds" "spent" "J"] ++ wsX50 ++ wsX10)
def wsX5_power : List Cond := .code yX5_power cX5_power 5 (some .long) :: ([])
def wsX5_lastBracket : List Cond := .code yX5_lastBracket cX5_lastBracket 3 (some .int) :: ([.methodLink RX5 218 yX5_power, .static yX5_power, .initialized RX5, .code yX5_power cX5_power 5 (some .long)])
def wsX5_cutUp : List Cond := .code yX5_cutUp cX5_cutUp 4 (some .long) :: ([.methodLink RX5 135 yX5_cut, .static yX5_cut, .initialized RX5, .code yX5_cut cX5_cut 4 (some .long)])
def wsX5_plan : List Cond := .code yX5_plan cX5_plan 8 (some .int) :: ([.constantLong RX5 183 (1000000), .constantLong RX5 93 (2), .constantLong RX5 104 (5), .constantLong RX5 45 (-1), .methodLink RX5 41 yX5_within, .static yX5_within, .initialized RX5, .code yX5_within cX5_within 6 (some .boolean), .methodLink RX5 215 yX5_lastBracket, .static yX5_lastBracket, .code yX5_lastBracket cX5_lastBracket 3 (some .int), .methodLink RX5 218 yX5_power, .static yX5_power, .code yX5_power cX5_power 5 (some .long), .methodLink RX5 221 yX5_cutUp, .static yX5_cutUp, .code yX5_cutUp cX5_cutUp 4 (some .long), .methodLink RX5 135 yX5_cut, .static yX5_cut, .code yX5_cut cX5_cut 4 (some .long)])
def wsX5_folds_r1 : List Cond := [Cond.constantLong RX5 224 (200), Cond.constantLong RX5 93 (2), Cond.constantLong RX5 226 (10), Cond.fieldLink RX5 35 "TrialSearch" "parts" "LTrialSearch$Folds;", Cond.methodLink RX5 41 yX5_within, Cond.static yX5_within, Cond.initialized RX5, Cond.code yX5_within cX5_within 6 (some .boolean), Cond.methodLink RX5 228 yX0_make, Cond.instanceMethod yX0_make, Cond.selects RX0 yX0_make yX0_make, Cond.initialized RX0, Cond.code yX0_make cX0_make 7 none, Cond.fieldLink RX0 9 "TrialSearch$Folds" "rows" "I", Cond.fieldLink RX0 15 "TrialSearch$Folds" "outer" "I", Cond.fieldLink RX0 18 "TrialSearch$Folds" "inner" "I", Cond.fieldLink RX0 28 "TrialSearch$Folds" "tested" "[I", Cond.fieldLink RX0 33 "TrialSearch$Folds" "chosen" "[[I", Cond.fieldLink RX0 36 "TrialSearch$Folds" "order" "[J", Cond.fieldLink RX0 21 "TrialSearch$Folds" "outerOf" "[I", Cond.fieldLink RX0 25 "TrialSearch$Folds" "innerOf" "[I", Cond.methodLink RX0 40 yJ7_fill_53178, Cond.static yJ7_fill_53178, Cond.initialized RJ7]
def wsX5_folds_r2 : List Cond := [Cond.code yJ7_fill_53178 cJ7_fill_53178 4 none, Cond.methodLink RX0 46 yX2_hash, Cond.static yX2_hash, Cond.initialized RX2, Cond.code yX2_hash cX2_hash 3 (some .int), Cond.constant RX2 7 (-1640531527), Cond.constant RX2 8 (-2048144789), Cond.constant RX2 9 (-1028477387), Cond.methodLink RX0 52 yX0_sortIn, Cond.instanceMethod yX0_sortIn, Cond.selects RX0 yX0_sortIn yX0_sortIn, Cond.code yX0_sortIn cX0_sortIn 7 none, Cond.methodLink RX0 63 arraycopyName, Cond.native arraycopyName, Cond.static arraycopyName, Cond.initialized "java/lang/System", Cond.static yX5_rest, Cond.code yX5_rest cX5_rest 4 (some .long), Cond.static yX5_cut, Cond.code yX5_cut cX5_cut 4 (some .long)]
def wsX5_folds : List Cond := .code yX5_folds cX5_folds 5 (some .int) :: ((wsX5_folds_r1 ++ wsX5_folds_r2) ++ wsX50 ++ wsX00)
def wsX5_isRow : List Cond := .code yX5_isRow cX5_isRow 2 (some .boolean) :: ([.fieldLink RX5 35 "TrialSearch" "parts" "LTrialSearch$Folds;", .fieldLink RX5 266 "TrialSearch$Folds" "rows" "I", .methodLink RX5 41 yX5_within, .static yX5_within, .initialized RX5, .code yX5_within cX5_within 6 (some .boolean)] ++ wsX50 ++ wsX00)
def wsX5_fold : List Cond := .code yX5_fold cX5_fold 3 (some .int) :: ([.fieldLink RX5 35 "TrialSearch" "parts" "LTrialSearch$Folds;", .fieldLink RX5 234 "TrialSearch$Folds" "outerOf" "[I", .fieldLink RX5 237 "TrialSearch$Folds" "innerOf" "[I", .methodLink RX5 231 yX5_isRow, .instanceMethod yX5_isRow, .selects RX5 yX5_isRow yX5_isRow, .initialized RX5, .code yX5_isRow cX5_isRow 2 (some .boolean), .fieldLink RX5 266 "TrialSearch$Folds" "rows" "I", .methodLink RX5 41 yX5_within, .static yX5_within, .code yX5_within cX5_within 6 (some .boolean)] ++ wsX50 ++ wsX00)
def wsX5_isOuter : List Cond := .code yX5_isOuter cX5_isOuter 2 (some .boolean) :: ([.fieldLink RX5 35 "TrialSearch" "parts" "LTrialSearch$Folds;", .fieldLink RX5 269 "TrialSearch$Folds" "outer" "I", .methodLink RX5 41 yX5_within, .static yX5_within, .initialized RX5, .code yX5_within cX5_within 6 (some .boolean)] ++ wsX50 ++ wsX00)
def wsX5_use_r1 : List Cond := [Cond.constantLong RX5 45 (-1), Cond.fieldLink RX5 35 "TrialSearch" "parts" "LTrialSearch$Folds;", Cond.fieldLink RX5 243 "TrialSearch$Folds" "inner" "I", Cond.fieldLink RX5 246 "TrialSearch$Folds" "tested" "[I", Cond.methodLink RX5 240 yX5_isOuter, Cond.instanceMethod yX5_isOuter, Cond.selects RX5 yX5_isOuter yX5_isOuter, Cond.initialized RX5, Cond.code yX5_isOuter cX5_isOuter 2 (some .boolean), Cond.fieldLink RX5 269 "TrialSearch$Folds" "outer" "I", Cond.methodLink RX5 41 yX5_within, Cond.static yX5_within, Cond.code yX5_within cX5_within 6 (some .boolean), Cond.methodLink RX5 249 yX0_test, Cond.instanceMethod yX0_test, Cond.selects RX0 yX0_test yX0_test, Cond.initialized RX0, Cond.code yX0_test cX0_test 4 (some .int), Cond.fieldLink RX0 28 "TrialSearch$Folds" "tested" "[I", Cond.fieldLink RX0 9 "TrialSearch$Folds" "rows" "I", Cond.fieldLink RX0 21 "TrialSearch$Folds" "outerOf" "[I", Cond.methodLink RX5 252 yX0_choose, Cond.instanceMethod yX0_choose, Cond.selects RX0 yX0_choose yX0_choose]
def wsX5_use_r2 : List Cond := [Cond.code yX0_choose cX0_choose 5 (some .int), Cond.fieldLink RX0 33 "TrialSearch$Folds" "chosen" "[[I", Cond.fieldLink RX0 25 "TrialSearch$Folds" "innerOf" "[I"]
def wsX5_use : List Cond := .code yX5_use cX5_use 3 (some .int) :: ((wsX5_use_r1 ++ wsX5_use_r2) ++ wsX50 ++ wsX00)
def wsX5_used_r1 : List Cond := [Cond.fieldLink RX5 35 "TrialSearch" "parts" "LTrialSearch$Folds;", Cond.methodLink RX5 231 yX5_isRow, Cond.instanceMethod yX5_isRow, Cond.selects RX5 yX5_isRow yX5_isRow, Cond.initialized RX5, Cond.code yX5_isRow cX5_isRow 2 (some .boolean), Cond.fieldLink RX5 266 "TrialSearch$Folds" "rows" "I", Cond.methodLink RX5 41 yX5_within, Cond.static yX5_within, Cond.code yX5_within cX5_within 6 (some .boolean), Cond.methodLink RX5 240 yX5_isOuter, Cond.instanceMethod yX5_isOuter, Cond.selects RX5 yX5_isOuter yX5_isOuter, Cond.code yX5_isOuter cX5_isOuter 2 (some .boolean), Cond.fieldLink RX5 269 "TrialSearch$Folds" "outer" "I", Cond.methodLink RX5 255 yX0_trained, Cond.instanceMethod yX0_trained, Cond.selects RX0 yX0_trained yX0_trained, Cond.initialized RX0, Cond.code yX0_trained cX0_trained 5 (some .int), Cond.fieldLink RX0 21 "TrialSearch$Folds" "outerOf" "[I", Cond.fieldLink RX0 28 "TrialSearch$Folds" "tested" "[I", Cond.fieldLink RX0 18 "TrialSearch$Folds" "inner" "I", Cond.fieldLink RX0 25 "TrialSearch$Folds" "innerOf" "[I"]
def wsX5_used_r2 : List Cond := [Cond.fieldLink RX0 33 "TrialSearch$Folds" "chosen" "[[I", Cond.methodLink RX5 258 yX0_validated, Cond.instanceMethod yX0_validated, Cond.selects RX0 yX0_validated yX0_validated, Cond.code yX0_validated cX0_validated 3 (some .int), Cond.methodLink RX5 261 yX0_testing, Cond.instanceMethod yX0_testing, Cond.selects RX0 yX0_testing yX0_testing, Cond.code yX0_testing cX0_testing 3 (some .int)]
def wsX5_used : List Cond := .code yX5_used cX5_used 4 (some .int) :: ((wsX5_used_r1 ++ wsX5_used_r2) ++ wsX50 ++ wsX00)
def wsX6_hash : List Cond := .code yX6_hash cX6_hash 3 (some .int) :: ([.constant RX6 1 (-1640531527), .constant RX6 2 (-2048144789), .constant RX6 3 (-1028477387)])
def wsX6_pick : List Cond := .code yX6_pick cX6_pick 7 (some .long) :: ([.constantLong RX6 10 (4294967295), .methodLink RX6 4 yX6_hash, .static yX6_hash, .initialized RX6, .code yX6_hash cX6_hash 3 (some .int), .constant RX6 1 (-1640531527), .constant RX6 2 (-2048144789), .constant RX6 3 (-1028477387)])
def wsX6_in : List Cond := .code yX6_in cX6_in 6 (some .boolean) :: ([])
def wsX6_init_r1 : List Cond := [Cond.methodLink RX6 12 objectInit, Cond.instanceMethod objectInit, Cond.code objectInit ⟨#[0xb1]⟩ 1 none, Cond.arrayClass .int, Cond.fieldLink RX6 18 "TrialSearchModel" "many" "[I", Cond.fieldLink RX6 22 "TrialSearchModel" "on" "[I", Cond.fieldLink RX6 25 "TrialSearchModel" "set" "[I", Cond.arrayClass .long, Cond.fieldLink RX6 28 "TrialSearchModel" "ways" "[J", Cond.fieldLink RX6 32 "TrialSearchModel" "values" "[I", Cond.fieldLink RX6 35 "TrialSearchModel" "pointOf" "[J", Cond.fieldLink RX6 38 "TrialSearchModel" "state" "[I", Cond.fieldLink RX6 41 "TrialSearchModel" "score" "[I", Cond.fieldLink RX6 44 "TrialSearchModel" "reports" "[I", Cond.fieldLink RX6 47 "TrialSearchModel" "reported" "[I", Cond.arrayClass .boolean, Cond.fieldLink RX6 50 "TrialSearchModel" "isTaken" "[Z", Cond.fieldLink RX6 54 "TrialSearchModel" "far" "[I", Cond.fieldLink RX6 57 "TrialSearchModel" "isIn" "[Z", Cond.fieldLink RX6 60 "TrialSearchModel" "hasResult" "[Z", Cond.fieldLink RX6 63 "TrialSearchModel" "hasFailed" "[Z", Cond.fieldLink RX6 66 "TrialSearchModel" "result" "[I", Cond.fieldLink RX6 69 "TrialSearchModel" "place" "[I", Cond.fieldLink RX6 72 "TrialSearchModel" "isTested" "[Z"]
def wsX6_init_r2 : List Cond := [Cond.fieldLink RX6 75 "TrialSearchModel" "counts" "[I"]
def wsX6_init : List Cond := .code yX6_init cX6_init 1 none :: ((wsX6_init_r1 ++ wsX6_init_r2) ++ wsX60)
def wsX6_waysOf : List Cond := .code yX6_waysOf cX6_waysOf 6 (some .long) :: ([.fieldLink RX6 86 "TrialSearchModel" "names" "I", .fieldLink RX6 22 "TrialSearchModel" "on" "[I", .fieldLink RX6 25 "TrialSearchModel" "set" "[I", .fieldLink RX6 28 "TrialSearchModel" "ways" "[J"] ++ wsX60)
def wsX6_name : List Cond := .code yX6_name cX6_name 6 (some .int) :: ([.constantLong RX6 78 (30), .constantLong RX6 84 (-1), .fieldLink RX6 86 "TrialSearchModel" "names" "I", .constantLong RX6 90 (1073741823), .fieldLink RX6 92 "TrialSearchModel" "trials" "I", .fieldLink RX6 18 "TrialSearchModel" "many" "[I", .fieldLink RX6 22 "TrialSearchModel" "on" "[I", .fieldLink RX6 25 "TrialSearchModel" "set" "[I", .fieldLink RX6 28 "TrialSearchModel" "ways" "[J", .methodLink RX6 80 yX6_in, .static yX6_in, .initialized RX6, .code yX6_in cX6_in 6 (some .boolean), .methodLink RX6 95 yX6_waysOf, .instanceMethod yX6_waysOf, .selects RX6 yX6_waysOf yX6_waysOf, .code yX6_waysOf cX6_waysOf 6 (some .long)] ++ wsX60)
def wsX6_points : List Cond := .code yX6_points cX6_points 4 (some .long) :: ([.fieldLink RX6 86 "TrialSearchModel" "names" "I", .fieldLink RX6 22 "TrialSearchModel" "on" "[I", .fieldLink RX6 28 "TrialSearchModel" "ways" "[J"] ++ wsX60)
def wsX6_isThere : List Cond := .code yX6_isThere cX6_isThere 3 (some .boolean) :: ([.fieldLink RX6 22 "TrialSearchModel" "on" "[I", .fieldLink RX6 32 "TrialSearchModel" "values" "[I", .fieldLink RX6 25 "TrialSearchModel" "set" "[I"] ++ wsX60)
def wsX6_behind : List Cond := .code yX6_behind cX6_behind 6 (some .long) :: ([.fieldLink RX6 86 "TrialSearchModel" "names" "I", .fieldLink RX6 22 "TrialSearchModel" "on" "[I", .fieldLink RX6 28 "TrialSearchModel" "ways" "[J", .methodLink RX6 99 yX6_isThere, .instanceMethod yX6_isThere, .selects RX6 yX6_isThere yX6_isThere, .initialized RX6, .code yX6_isThere cX6_isThere 3 (some .boolean), .fieldLink RX6 32 "TrialSearchModel" "values" "[I", .fieldLink RX6 25 "TrialSearchModel" "set" "[I"] ++ wsX60)
def wsX6_find : List Cond := .code yX6_find cX6_find 9 none :: ([.fieldLink RX6 86 "TrialSearchModel" "names" "I", .fieldLink RX6 32 "TrialSearchModel" "values" "[I", .methodLink RX6 99 yX6_isThere, .instanceMethod yX6_isThere, .selects RX6 yX6_isThere yX6_isThere, .initialized RX6, .code yX6_isThere cX6_isThere 3 (some .boolean), .fieldLink RX6 22 "TrialSearchModel" "on" "[I", .fieldLink RX6 25 "TrialSearchModel" "set" "[I", .methodLink RX6 103 yX6_behind, .instanceMethod yX6_behind, .selects RX6 yX6_behind yX6_behind, .code yX6_behind cX6_behind 6 (some .long), .fieldLink RX6 28 "TrialSearchModel" "ways" "[J"] ++ wsX60)
def wsX6_noPoint : List Cond := .code yX6_noPoint cX6_noPoint 3 (some .boolean) :: ([.methodLink RX6 106 yX6_points, .instanceMethod yX6_points, .selects RX6 yX6_points yX6_points, .initialized RX6, .code yX6_points cX6_points 4 (some .long), .fieldLink RX6 86 "TrialSearchModel" "names" "I", .fieldLink RX6 22 "TrialSearchModel" "on" "[I", .fieldLink RX6 28 "TrialSearchModel" "ways" "[J", .methodLink RX6 80 yX6_in, .static yX6_in, .code yX6_in cX6_in 6 (some .boolean)] ++ wsX60)
def wsX6_value_r1 : List Cond := [Cond.fieldLink RX6 86 "TrialSearchModel" "names" "I", Cond.fieldLink RX6 32 "TrialSearchModel" "values" "[I", Cond.methodLink RX6 110 yX6_noPoint, Cond.instanceMethod yX6_noPoint, Cond.selects RX6 yX6_noPoint yX6_noPoint, Cond.initialized RX6, Cond.code yX6_noPoint cX6_noPoint 3 (some .boolean), Cond.methodLink RX6 106 yX6_points, Cond.instanceMethod yX6_points, Cond.selects RX6 yX6_points yX6_points, Cond.code yX6_points cX6_points 4 (some .long), Cond.fieldLink RX6 22 "TrialSearchModel" "on" "[I", Cond.fieldLink RX6 28 "TrialSearchModel" "ways" "[J", Cond.methodLink RX6 80 yX6_in, Cond.static yX6_in, Cond.code yX6_in cX6_in 6 (some .boolean), Cond.methodLink RX6 114 yX6_find, Cond.instanceMethod yX6_find, Cond.selects RX6 yX6_find yX6_find, Cond.code yX6_find cX6_find 9 none, Cond.methodLink RX6 99 yX6_isThere, Cond.instanceMethod yX6_isThere, Cond.selects RX6 yX6_isThere yX6_isThere, Cond.code yX6_isThere cX6_isThere 3 (some .boolean)]
def wsX6_value_r2 : List Cond := [Cond.fieldLink RX6 25 "TrialSearchModel" "set" "[I", Cond.methodLink RX6 103 yX6_behind, Cond.instanceMethod yX6_behind, Cond.selects RX6 yX6_behind yX6_behind, Cond.code yX6_behind cX6_behind 6 (some .long)]
def wsX6_value : List Cond := .code yX6_value cX6_value 4 (some .int) :: ((wsX6_value_r1 ++ wsX6_value_r2) ++ wsX60)
def wsX6_numberOf : List Cond := .code yX6_numberOf cX6_numberOf 6 (some .long) :: ([.fieldLink RX6 86 "TrialSearchModel" "names" "I", .fieldLink RX6 32 "TrialSearchModel" "values" "[I", .methodLink RX6 103 yX6_behind, .instanceMethod yX6_behind, .selects RX6 yX6_behind yX6_behind, .initialized RX6, .code yX6_behind cX6_behind 6 (some .long), .fieldLink RX6 22 "TrialSearchModel" "on" "[I", .fieldLink RX6 28 "TrialSearchModel" "ways" "[J", .methodLink RX6 99 yX6_isThere, .instanceMethod yX6_isThere, .selects RX6 yX6_isThere yX6_isThere, .code yX6_isThere cX6_isThere 3 (some .boolean), .fieldLink RX6 25 "TrialSearchModel" "set" "[I"] ++ wsX60)
def wsX6_number : List Cond := .code yX6_number cX6_number 4 (some .long) :: ([.fieldLink RX6 86 "TrialSearchModel" "names" "I", .fieldLink RX6 32 "TrialSearchModel" "values" "[I", .constantLong RX6 118 (31), .fieldLink RX6 18 "TrialSearchModel" "many" "[I", .constantLong RX6 120 (-2), .methodLink RX6 99 yX6_isThere, .instanceMethod yX6_isThere, .selects RX6 yX6_isThere yX6_isThere, .initialized RX6, .code yX6_isThere cX6_isThere 3 (some .boolean), .fieldLink RX6 22 "TrialSearchModel" "on" "[I", .fieldLink RX6 25 "TrialSearchModel" "set" "[I", .methodLink RX6 122 yX6_numberOf, .instanceMethod yX6_numberOf, .selects RX6 yX6_numberOf yX6_numberOf, .code yX6_numberOf cX6_numberOf 6 (some .long), .methodLink RX6 103 yX6_behind, .instanceMethod yX6_behind, .selects RX6 yX6_behind yX6_behind, .code yX6_behind cX6_behind 6 (some .long), .fieldLink RX6 28 "TrialSearchModel" "ways" "[J"] ++ wsX60)
def wsX6_distanceOf : List Cond := .code yX6_distanceOf cX6_distanceOf 10 (some .int) :: ([.fieldLink RX6 86 "TrialSearchModel" "names" "I", .fieldLink RX6 32 "TrialSearchModel" "values" "[I", .fieldLink RX6 18 "TrialSearchModel" "many" "[I", .methodLink RX6 114 yX6_find, .instanceMethod yX6_find, .selects RX6 yX6_find yX6_find, .initialized RX6, .code yX6_find cX6_find 9 none, .methodLink RX6 99 yX6_isThere, .instanceMethod yX6_isThere, .selects RX6 yX6_isThere yX6_isThere, .code yX6_isThere cX6_isThere 3 (some .boolean), .fieldLink RX6 22 "TrialSearchModel" "on" "[I", .fieldLink RX6 25 "TrialSearchModel" "set" "[I", .methodLink RX6 103 yX6_behind, .instanceMethod yX6_behind, .selects RX6 yX6_behind yX6_behind, .code yX6_behind cX6_behind 6 (some .long), .fieldLink RX6 28 "TrialSearchModel" "ways" "[J"] ++ wsX60)
def wsX6_distance_r1 : List Cond := [Cond.methodLink RX6 110 yX6_noPoint, Cond.instanceMethod yX6_noPoint, Cond.selects RX6 yX6_noPoint yX6_noPoint, Cond.initialized RX6, Cond.code yX6_noPoint cX6_noPoint 3 (some .boolean), Cond.methodLink RX6 106 yX6_points, Cond.instanceMethod yX6_points, Cond.selects RX6 yX6_points yX6_points, Cond.code yX6_points cX6_points 4 (some .long), Cond.fieldLink RX6 86 "TrialSearchModel" "names" "I", Cond.fieldLink RX6 22 "TrialSearchModel" "on" "[I", Cond.fieldLink RX6 28 "TrialSearchModel" "ways" "[J", Cond.methodLink RX6 80 yX6_in, Cond.static yX6_in, Cond.code yX6_in cX6_in 6 (some .boolean), Cond.methodLink RX6 125 yX6_distanceOf, Cond.instanceMethod yX6_distanceOf, Cond.selects RX6 yX6_distanceOf yX6_distanceOf, Cond.code yX6_distanceOf cX6_distanceOf 10 (some .int), Cond.fieldLink RX6 32 "TrialSearchModel" "values" "[I", Cond.fieldLink RX6 18 "TrialSearchModel" "many" "[I", Cond.methodLink RX6 114 yX6_find, Cond.instanceMethod yX6_find, Cond.selects RX6 yX6_find yX6_find]
def wsX6_distance_r2 : List Cond := [Cond.code yX6_find cX6_find 9 none, Cond.methodLink RX6 99 yX6_isThere, Cond.instanceMethod yX6_isThere, Cond.selects RX6 yX6_isThere yX6_isThere, Cond.code yX6_isThere cX6_isThere 3 (some .boolean), Cond.fieldLink RX6 25 "TrialSearchModel" "set" "[I", Cond.methodLink RX6 103 yX6_behind, Cond.instanceMethod yX6_behind, Cond.selects RX6 yX6_behind yX6_behind, Cond.code yX6_behind cX6_behind 6 (some .long)]
def wsX6_distance : List Cond := .code yX6_distance cX6_distance 5 (some .int) :: ((wsX6_distance_r1 ++ wsX6_distance_r2) ++ wsX60)
def wsX6_add : List Cond := .code yX6_add cX6_add 3 (some .int) :: ([.fieldLink RX6 35 "TrialSearchModel" "pointOf" "[J", .fieldLink RX6 92 "TrialSearchModel" "trials" "I", .fieldLink RX6 38 "TrialSearchModel" "state" "[I", .fieldLink RX6 41 "TrialSearchModel" "score" "[I", .fieldLink RX6 44 "TrialSearchModel" "reports" "[I"] ++ wsX60)
def wsX6_trial_r1 : List Cond := [Cond.constantLong RX6 129 (2), Cond.fieldLink RX6 92 "TrialSearchModel" "trials" "I", Cond.fieldLink RX6 86 "TrialSearchModel" "names" "I", Cond.fieldLink RX6 32 "TrialSearchModel" "values" "[I", Cond.fieldLink RX6 18 "TrialSearchModel" "many" "[I", Cond.methodLink RX6 80 yX6_in, Cond.static yX6_in, Cond.initialized RX6, Cond.code yX6_in cX6_in 6 (some .boolean), Cond.methodLink RX6 106 yX6_points, Cond.instanceMethod yX6_points, Cond.selects RX6 yX6_points yX6_points, Cond.code yX6_points cX6_points 4 (some .long), Cond.fieldLink RX6 22 "TrialSearchModel" "on" "[I", Cond.fieldLink RX6 28 "TrialSearchModel" "ways" "[J", Cond.methodLink RX6 131 yX6_pick, Cond.static yX6_pick, Cond.code yX6_pick cX6_pick 7 (some .long), Cond.constantLong RX6 10 (4294967295), Cond.methodLink RX6 4 yX6_hash, Cond.static yX6_hash, Cond.code yX6_hash cX6_hash 3 (some .int), Cond.constant RX6 1 (-1640531527), Cond.constant RX6 2 (-2048144789)]
def wsX6_trial_r2 : List Cond := [Cond.constant RX6 3 (-1028477387), Cond.methodLink RX6 135 yX6_add, Cond.instanceMethod yX6_add, Cond.selects RX6 yX6_add yX6_add, Cond.code yX6_add cX6_add 3 (some .int), Cond.fieldLink RX6 35 "TrialSearchModel" "pointOf" "[J", Cond.fieldLink RX6 38 "TrialSearchModel" "state" "[I", Cond.fieldLink RX6 41 "TrialSearchModel" "score" "[I", Cond.fieldLink RX6 44 "TrialSearchModel" "reports" "[I", Cond.methodLink RX6 99 yX6_isThere, Cond.instanceMethod yX6_isThere, Cond.selects RX6 yX6_isThere yX6_isThere, Cond.code yX6_isThere cX6_isThere 3 (some .boolean), Cond.fieldLink RX6 25 "TrialSearchModel" "set" "[I", Cond.methodLink RX6 122 yX6_numberOf, Cond.instanceMethod yX6_numberOf, Cond.selects RX6 yX6_numberOf yX6_numberOf, Cond.code yX6_numberOf cX6_numberOf 6 (some .long), Cond.methodLink RX6 103 yX6_behind, Cond.instanceMethod yX6_behind, Cond.selects RX6 yX6_behind yX6_behind, Cond.code yX6_behind cX6_behind 6 (some .long)]
def wsX6_trial : List Cond := .code yX6_trial cX6_trial 4 (some .int) :: ((wsX6_trial_r1 ++ wsX6_trial_r2) ++ wsX60)
def wsX6_near_r1 : List Cond := [Cond.fieldLink RX6 92 "TrialSearchModel" "trials" "I", Cond.fieldLink RX6 50 "TrialSearchModel" "isTaken" "[Z", Cond.fieldLink RX6 54 "TrialSearchModel" "far" "[I", Cond.fieldLink RX6 38 "TrialSearchModel" "state" "[I", Cond.fieldLink RX6 35 "TrialSearchModel" "pointOf" "[J", Cond.fieldLink RX6 139 "TrialSearchModel" "taken" "I", Cond.fieldLink RX6 41 "TrialSearchModel" "score" "[I", Cond.methodLink RX6 125 yX6_distanceOf, Cond.instanceMethod yX6_distanceOf, Cond.selects RX6 yX6_distanceOf yX6_distanceOf, Cond.initialized RX6, Cond.code yX6_distanceOf cX6_distanceOf 10 (some .int), Cond.fieldLink RX6 86 "TrialSearchModel" "names" "I", Cond.fieldLink RX6 32 "TrialSearchModel" "values" "[I", Cond.fieldLink RX6 18 "TrialSearchModel" "many" "[I", Cond.methodLink RX6 114 yX6_find, Cond.instanceMethod yX6_find, Cond.selects RX6 yX6_find yX6_find, Cond.code yX6_find cX6_find 9 none, Cond.methodLink RX6 99 yX6_isThere, Cond.instanceMethod yX6_isThere, Cond.selects RX6 yX6_isThere yX6_isThere, Cond.code yX6_isThere cX6_isThere 3 (some .boolean), Cond.fieldLink RX6 22 "TrialSearchModel" "on" "[I"]
def wsX6_near_r2 : List Cond := [Cond.fieldLink RX6 25 "TrialSearchModel" "set" "[I", Cond.methodLink RX6 103 yX6_behind, Cond.instanceMethod yX6_behind, Cond.selects RX6 yX6_behind yX6_behind, Cond.code yX6_behind cX6_behind 6 (some .long), Cond.fieldLink RX6 28 "TrialSearchModel" "ways" "[J"]
def wsX6_near : List Cond := .code yX6_near cX6_near 9 (some .long) :: ((wsX6_near_r1 ++ wsX6_near_r2) ++ wsX60)
def wsX6_guess_r1 : List Cond := [Cond.constantLong RX6 142 (40), Cond.constantLong RX6 144 (5), Cond.fieldLink RX6 92 "TrialSearchModel" "trials" "I", Cond.fieldLink RX6 139 "TrialSearchModel" "taken" "I", Cond.methodLink RX6 80 yX6_in, Cond.static yX6_in, Cond.initialized RX6, Cond.code yX6_in cX6_in 6 (some .boolean), Cond.methodLink RX6 4 yX6_hash, Cond.static yX6_hash, Cond.code yX6_hash cX6_hash 3 (some .int), Cond.constant RX6 1 (-1640531527), Cond.constant RX6 2 (-2048144789), Cond.constant RX6 3 (-1028477387), Cond.methodLink RX6 106 yX6_points, Cond.instanceMethod yX6_points, Cond.selects RX6 yX6_points yX6_points, Cond.code yX6_points cX6_points 4 (some .long), Cond.fieldLink RX6 86 "TrialSearchModel" "names" "I", Cond.fieldLink RX6 22 "TrialSearchModel" "on" "[I", Cond.fieldLink RX6 28 "TrialSearchModel" "ways" "[J", Cond.methodLink RX6 131 yX6_pick, Cond.static yX6_pick, Cond.code yX6_pick cX6_pick 7 (some .long)]
def wsX6_guess_r2 : List Cond := [Cond.constantLong RX6 10 (4294967295), Cond.methodLink RX6 146 yX6_near, Cond.instanceMethod yX6_near, Cond.selects RX6 yX6_near yX6_near, Cond.code yX6_near cX6_near 9 (some .long), Cond.fieldLink RX6 50 "TrialSearchModel" "isTaken" "[Z", Cond.fieldLink RX6 54 "TrialSearchModel" "far" "[I", Cond.fieldLink RX6 38 "TrialSearchModel" "state" "[I", Cond.fieldLink RX6 35 "TrialSearchModel" "pointOf" "[J", Cond.fieldLink RX6 41 "TrialSearchModel" "score" "[I", Cond.methodLink RX6 125 yX6_distanceOf, Cond.instanceMethod yX6_distanceOf, Cond.selects RX6 yX6_distanceOf yX6_distanceOf, Cond.code yX6_distanceOf cX6_distanceOf 10 (some .int), Cond.fieldLink RX6 32 "TrialSearchModel" "values" "[I", Cond.fieldLink RX6 18 "TrialSearchModel" "many" "[I", Cond.methodLink RX6 114 yX6_find, Cond.instanceMethod yX6_find, Cond.selects RX6 yX6_find yX6_find, Cond.code yX6_find cX6_find 9 none, Cond.methodLink RX6 99 yX6_isThere, Cond.instanceMethod yX6_isThere, Cond.selects RX6 yX6_isThere yX6_isThere, Cond.code yX6_isThere cX6_isThere 3 (some .boolean)]
def wsX6_guess_r3 : List Cond := [Cond.fieldLink RX6 25 "TrialSearchModel" "set" "[I", Cond.methodLink RX6 103 yX6_behind, Cond.instanceMethod yX6_behind, Cond.selects RX6 yX6_behind yX6_behind, Cond.code yX6_behind cX6_behind 6 (some .long), Cond.methodLink RX6 135 yX6_add, Cond.instanceMethod yX6_add, Cond.selects RX6 yX6_add yX6_add, Cond.code yX6_add cX6_add 3 (some .int), Cond.fieldLink RX6 44 "TrialSearchModel" "reports" "[I"]
def wsX6_guess : List Cond := .code yX6_guess cX6_guess 13 (some .int) :: ((wsX6_guess_r1 ++ (wsX6_guess_r2 ++ wsX6_guess_r3)) ++ wsX60)
def wsX6_divisor : List Cond := .code yX6_divisor cX6_divisor 10 (some .long) :: ([])
def wsX6_forecast_r1 : List Cond := [Cond.constantLong RX6 144 (5), Cond.constantLong RX6 150 (-1000000000000000001), Cond.fieldLink RX6 139 "TrialSearchModel" "taken" "I", Cond.constantLong RX6 152 (-1000000000000000002), Cond.methodLink RX6 110 yX6_noPoint, Cond.instanceMethod yX6_noPoint, Cond.selects RX6 yX6_noPoint yX6_noPoint, Cond.initialized RX6, Cond.code yX6_noPoint cX6_noPoint 3 (some .boolean), Cond.methodLink RX6 106 yX6_points, Cond.instanceMethod yX6_points, Cond.selects RX6 yX6_points yX6_points, Cond.code yX6_points cX6_points 4 (some .long), Cond.fieldLink RX6 86 "TrialSearchModel" "names" "I", Cond.fieldLink RX6 22 "TrialSearchModel" "on" "[I", Cond.fieldLink RX6 28 "TrialSearchModel" "ways" "[J", Cond.methodLink RX6 80 yX6_in, Cond.static yX6_in, Cond.code yX6_in cX6_in 6 (some .boolean), Cond.methodLink RX6 146 yX6_near, Cond.instanceMethod yX6_near, Cond.selects RX6 yX6_near yX6_near, Cond.code yX6_near cX6_near 9 (some .long), Cond.fieldLink RX6 92 "TrialSearchModel" "trials" "I"]
def wsX6_forecast_r2 : List Cond := [Cond.fieldLink RX6 50 "TrialSearchModel" "isTaken" "[Z", Cond.fieldLink RX6 54 "TrialSearchModel" "far" "[I", Cond.fieldLink RX6 38 "TrialSearchModel" "state" "[I", Cond.fieldLink RX6 35 "TrialSearchModel" "pointOf" "[J", Cond.fieldLink RX6 41 "TrialSearchModel" "score" "[I", Cond.methodLink RX6 125 yX6_distanceOf, Cond.instanceMethod yX6_distanceOf, Cond.selects RX6 yX6_distanceOf yX6_distanceOf, Cond.code yX6_distanceOf cX6_distanceOf 10 (some .int), Cond.fieldLink RX6 32 "TrialSearchModel" "values" "[I", Cond.fieldLink RX6 18 "TrialSearchModel" "many" "[I", Cond.methodLink RX6 114 yX6_find, Cond.instanceMethod yX6_find, Cond.selects RX6 yX6_find yX6_find, Cond.code yX6_find cX6_find 9 none, Cond.methodLink RX6 99 yX6_isThere, Cond.instanceMethod yX6_isThere, Cond.selects RX6 yX6_isThere yX6_isThere, Cond.code yX6_isThere cX6_isThere 3 (some .boolean), Cond.fieldLink RX6 25 "TrialSearchModel" "set" "[I", Cond.methodLink RX6 103 yX6_behind, Cond.instanceMethod yX6_behind, Cond.selects RX6 yX6_behind yX6_behind, Cond.code yX6_behind cX6_behind 6 (some .long)]
def wsX6_forecast_r3 : List Cond := [Cond.methodLink RX6 154 yX6_divisor, Cond.static yX6_divisor, Cond.code yX6_divisor cX6_divisor 10 (some .long)]
def wsX6_forecast : List Cond := .code yX6_forecast cX6_forecast 9 (some .long) :: ((wsX6_forecast_r1 ++ (wsX6_forecast_r2 ++ wsX6_forecast_r3)) ++ wsX60)
def wsX6_noTrial : List Cond := .code yX6_noTrial cX6_noTrial 2 (some .boolean) :: ([.fieldLink RX6 92 "TrialSearchModel" "trials" "I", .methodLink RX6 80 yX6_in, .static yX6_in, .initialized RX6, .code yX6_in cX6_in 6 (some .boolean)] ++ wsX60)
def wsX6_isScore : List Cond := .code yX6_isScore cX6_isScore 1 (some .boolean) :: ([.constantLong RX6 158 (-1000000), .constantLong RX6 160 (1000000), .methodLink RX6 80 yX6_in, .static yX6_in, .initialized RX6, .code yX6_in cX6_in 6 (some .boolean)])
def wsX6_score : List Cond := .code yX6_score cX6_score 6 (some .int) :: ([.fieldLink RX6 38 "TrialSearchModel" "state" "[I", .fieldLink RX6 41 "TrialSearchModel" "score" "[I", .fieldLink RX6 92 "TrialSearchModel" "trials" "I", .methodLink RX6 162 yX6_noTrial, .instanceMethod yX6_noTrial, .selects RX6 yX6_noTrial yX6_noTrial, .initialized RX6, .code yX6_noTrial cX6_noTrial 2 (some .boolean), .methodLink RX6 80 yX6_in, .static yX6_in, .code yX6_in cX6_in 6 (some .boolean), .methodLink RX6 166 yX6_isScore, .static yX6_isScore, .code yX6_isScore cX6_isScore 1 (some .boolean), .constantLong RX6 158 (-1000000), .constantLong RX6 160 (1000000)] ++ wsX60)
def wsX6_prunes : List Cond := .code yX6_prunes cX6_prunes 8 (some .boolean) :: ([.fieldLink RX6 92 "TrialSearchModel" "trials" "I", .fieldLink RX6 44 "TrialSearchModel" "reports" "[I", .fieldLink RX6 47 "TrialSearchModel" "reported" "[I"] ++ wsX60)
def wsX6_report : List Cond := .code yX6_report cX6_report 5 (some .int) :: ([.constantLong RX6 169 (60), .fieldLink RX6 38 "TrialSearchModel" "state" "[I", .fieldLink RX6 44 "TrialSearchModel" "reports" "[I", .fieldLink RX6 47 "TrialSearchModel" "reported" "[I", .methodLink RX6 162 yX6_noTrial, .instanceMethod yX6_noTrial, .selects RX6 yX6_noTrial yX6_noTrial, .initialized RX6, .code yX6_noTrial cX6_noTrial 2 (some .boolean), .fieldLink RX6 92 "TrialSearchModel" "trials" "I", .methodLink RX6 80 yX6_in, .static yX6_in, .code yX6_in cX6_in 6 (some .boolean), .methodLink RX6 166 yX6_isScore, .static yX6_isScore, .code yX6_isScore cX6_isScore 1 (some .boolean), .constantLong RX6 158 (-1000000), .constantLong RX6 160 (1000000), .methodLink RX6 171 yX6_prunes, .instanceMethod yX6_prunes, .selects RX6 yX6_prunes yX6_prunes, .code yX6_prunes cX6_prunes 8 (some .boolean)] ++ wsX60)
def wsX6_told : List Cond := .code yX6_told cX6_told 3 (some .int) :: ([.fieldLink RX6 38 "TrialSearchModel" "state" "[I", .fieldLink RX6 41 "TrialSearchModel" "score" "[I", .fieldLink RX6 44 "TrialSearchModel" "reports" "[I", .fieldLink RX6 57 "TrialSearchModel" "isIn" "[Z", .fieldLink RX6 60 "TrialSearchModel" "hasResult" "[Z", .fieldLink RX6 66 "TrialSearchModel" "result" "[I", .methodLink RX6 162 yX6_noTrial, .instanceMethod yX6_noTrial, .selects RX6 yX6_noTrial yX6_noTrial, .initialized RX6, .code yX6_noTrial cX6_noTrial 2 (some .boolean), .fieldLink RX6 92 "TrialSearchModel" "trials" "I", .methodLink RX6 80 yX6_in, .static yX6_in, .code yX6_in cX6_in 6 (some .boolean)] ++ wsX60)
def wsX6_point : List Cond := .code yX6_point cX6_point 2 (some .long) :: ([.constantLong RX6 84 (-1), .fieldLink RX6 35 "TrialSearchModel" "pointOf" "[J", .methodLink RX6 162 yX6_noTrial, .instanceMethod yX6_noTrial, .selects RX6 yX6_noTrial yX6_noTrial, .initialized RX6, .code yX6_noTrial cX6_noTrial 2 (some .boolean), .fieldLink RX6 92 "TrialSearchModel" "trials" "I", .methodLink RX6 80 yX6_in, .static yX6_in, .code yX6_in cX6_in 6 (some .boolean)] ++ wsX60)
def wsX6_reported : List Cond := .code yX6_reported cX6_reported 3 (some .int) :: ([.fieldLink RX6 44 "TrialSearchModel" "reports" "[I", .constant RX6 175 (-2000000), .fieldLink RX6 47 "TrialSearchModel" "reported" "[I", .methodLink RX6 162 yX6_noTrial, .instanceMethod yX6_noTrial, .selects RX6 yX6_noTrial yX6_noTrial, .initialized RX6, .code yX6_noTrial cX6_noTrial 2 (some .boolean), .fieldLink RX6 92 "TrialSearchModel" "trials" "I", .methodLink RX6 80 yX6_in, .static yX6_in, .code yX6_in cX6_in 6 (some .boolean)] ++ wsX60)
def wsX6_best : List Cond := .code yX6_best cX6_best 3 (some .int) :: ([.fieldLink RX6 92 "TrialSearchModel" "trials" "I", .fieldLink RX6 38 "TrialSearchModel" "state" "[I", .fieldLink RX6 41 "TrialSearchModel" "score" "[I"] ++ wsX60)
def wsX6_clear : List Cond := .code yX6_clear cX6_clear 2 none :: ([.fieldLink RX6 60 "TrialSearchModel" "hasResult" "[Z", .fieldLink RX6 63 "TrialSearchModel" "hasFailed" "[Z", .fieldLink RX6 66 "TrialSearchModel" "result" "[I"] ++ wsX60)
def wsX6_bracket : List Cond := .code yX6_bracket cX6_bracket 6 (some .int) :: ([.constantLong RX6 169 (60), .fieldLink RX6 92 "TrialSearchModel" "trials" "I", .constantLong RX6 160 (1000000), .constantLong RX6 129 (2), .constantLong RX6 144 (5), .fieldLink RX6 176 "TrialSearchModel" "isBracket" "Z", .fieldLink RX6 180 "TrialSearchModel" "budget" "I", .fieldLink RX6 183 "TrialSearchModel" "factor" "I", .fieldLink RX6 186 "TrialSearchModel" "halved" "I", .fieldLink RX6 189 "TrialSearchModel" "isOver" "Z", .fieldLink RX6 192 "TrialSearchModel" "cost" "J", .fieldLink RX6 57 "TrialSearchModel" "isIn" "[Z", .methodLink RX6 80 yX6_in, .static yX6_in, .initialized RX6, .code yX6_in cX6_in 6 (some .boolean), .methodLink RX6 196 yX6_clear, .instanceMethod yX6_clear, .selects RX6 yX6_clear yX6_clear, .code yX6_clear cX6_clear 2 none, .fieldLink RX6 60 "TrialSearchModel" "hasResult" "[Z", .fieldLink RX6 63 "TrialSearchModel" "hasFailed" "[Z", .fieldLink RX6 66 "TrialSearchModel" "result" "[I"] ++ wsX60)
def wsX6_open : List Cond := .code yX6_open cX6_open 3 (some .int) :: ([.fieldLink RX6 57 "TrialSearchModel" "isIn" "[Z", .fieldLink RX6 60 "TrialSearchModel" "hasResult" "[Z", .fieldLink RX6 63 "TrialSearchModel" "hasFailed" "[Z"] ++ wsX60)
def wsX6_inside : List Cond := .code yX6_inside cX6_inside 3 (some .int) :: ([.fieldLink RX6 57 "TrialSearchModel" "isIn" "[Z"] ++ wsX60)
def wsX6_result_r1 : List Cond := [Cond.fieldLink RX6 176 "TrialSearchModel" "isBracket" "Z", Cond.fieldLink RX6 57 "TrialSearchModel" "isIn" "[Z", Cond.fieldLink RX6 60 "TrialSearchModel" "hasResult" "[Z", Cond.fieldLink RX6 63 "TrialSearchModel" "hasFailed" "[Z", Cond.fieldLink RX6 66 "TrialSearchModel" "result" "[I", Cond.fieldLink RX6 192 "TrialSearchModel" "cost" "J", Cond.fieldLink RX6 180 "TrialSearchModel" "budget" "I", Cond.methodLink RX6 162 yX6_noTrial, Cond.instanceMethod yX6_noTrial, Cond.selects RX6 yX6_noTrial yX6_noTrial, Cond.initialized RX6, Cond.code yX6_noTrial cX6_noTrial 2 (some .boolean), Cond.fieldLink RX6 92 "TrialSearchModel" "trials" "I", Cond.methodLink RX6 80 yX6_in, Cond.static yX6_in, Cond.code yX6_in cX6_in 6 (some .boolean), Cond.methodLink RX6 166 yX6_isScore, Cond.static yX6_isScore, Cond.code yX6_isScore cX6_isScore 1 (some .boolean), Cond.constantLong RX6 158 (-1000000), Cond.constantLong RX6 160 (1000000), Cond.methodLink RX6 200 yX6_open, Cond.instanceMethod yX6_open, Cond.selects RX6 yX6_open yX6_open]
def wsX6_result_r2 : List Cond := [Cond.code yX6_open cX6_open 3 (some .int)]
def wsX6_result : List Cond := .code yX6_result cX6_result 4 (some .int) :: ((wsX6_result_r1 ++ wsX6_result_r2) ++ wsX60)
def wsX6_halve_r1 : List Cond := [Cond.fieldLink RX6 176 "TrialSearchModel" "isBracket" "Z", Cond.fieldLink RX6 189 "TrialSearchModel" "isOver" "Z", Cond.fieldLink RX6 183 "TrialSearchModel" "factor" "I", Cond.fieldLink RX6 50 "TrialSearchModel" "isTaken" "[Z", Cond.fieldLink RX6 57 "TrialSearchModel" "isIn" "[Z", Cond.fieldLink RX6 60 "TrialSearchModel" "hasResult" "[Z", Cond.fieldLink RX6 66 "TrialSearchModel" "result" "[I", Cond.fieldLink RX6 180 "TrialSearchModel" "budget" "I", Cond.constantLong RX6 207 (1000000000), Cond.constant RX6 209 (1000000000), Cond.fieldLink RX6 186 "TrialSearchModel" "halved" "I", Cond.methodLink RX6 200 yX6_open, Cond.instanceMethod yX6_open, Cond.selects RX6 yX6_open yX6_open, Cond.initialized RX6, Cond.code yX6_open cX6_open 3 (some .int), Cond.fieldLink RX6 63 "TrialSearchModel" "hasFailed" "[Z", Cond.methodLink RX6 204 yX6_inside, Cond.instanceMethod yX6_inside, Cond.selects RX6 yX6_inside yX6_inside, Cond.code yX6_inside cX6_inside 3 (some .int), Cond.methodLink RX6 196 yX6_clear, Cond.instanceMethod yX6_clear, Cond.selects RX6 yX6_clear yX6_clear]
def wsX6_halve_r2 : List Cond := [Cond.code yX6_clear cX6_clear 2 none]
def wsX6_halve : List Cond := .code yX6_halve cX6_halve 5 (some .int) :: ((wsX6_halve_r1 ++ wsX6_halve_r2) ++ wsX60)
def wsX6_round : List Cond := .code yX6_round cX6_round 2 (some .int) :: ([.constantLong RX6 210 (3), .fieldLink RX6 176 "TrialSearchModel" "isBracket" "Z", .fieldLink RX6 186 "TrialSearchModel" "halved" "I", .fieldLink RX6 180 "TrialSearchModel" "budget" "I", .fieldLink RX6 189 "TrialSearchModel" "isOver" "Z", .methodLink RX6 80 yX6_in, .static yX6_in, .initialized RX6, .code yX6_in cX6_in 6 (some .boolean), .methodLink RX6 204 yX6_inside, .instanceMethod yX6_inside, .selects RX6 yX6_inside yX6_inside, .code yX6_inside cX6_inside 3 (some .int), .fieldLink RX6 57 "TrialSearchModel" "isIn" "[Z"] ++ wsX60)
def wsX6_cost : List Cond := .code yX6_cost cX6_cost 1 (some .long) :: ([.fieldLink RX6 192 "TrialSearchModel" "cost" "J"] ++ wsX60)
def wsX6_plan : List Cond := .code yX6_plan cX6_plan 9 (some .int) :: ([.constantLong RX6 160 (1000000), .constantLong RX6 129 (2), .constantLong RX6 144 (5), .constantLong RX6 84 (-1), .methodLink RX6 80 yX6_in, .static yX6_in, .initialized RX6, .code yX6_in cX6_in 6 (some .boolean)])
def wsX6_folds : List Cond := .code yX6_folds cX6_folds 9 (some .int) :: ([.constantLong RX6 212 (200), .constantLong RX6 129 (2), .constantLong RX6 214 (10), .fieldLink RX6 216 "TrialSearchModel" "rows" "I", .fieldLink RX6 219 "TrialSearchModel" "outers" "I", .fieldLink RX6 222 "TrialSearchModel" "inners" "I", .fieldLink RX6 69 "TrialSearchModel" "place" "[I", .fieldLink RX6 75 "TrialSearchModel" "counts" "[I", .fieldLink RX6 72 "TrialSearchModel" "isTested" "[Z", .methodLink RX6 80 yX6_in, .static yX6_in, .initialized RX6, .code yX6_in cX6_in 6 (some .boolean), .methodLink RX6 4 yX6_hash, .static yX6_hash, .code yX6_hash cX6_hash 3 (some .int), .constant RX6 1 (-1640531527), .constant RX6 2 (-2048144789), .constant RX6 3 (-1028477387)] ++ wsX60)
def wsX6_outerOf : List Cond := .code yX6_outerOf cX6_outerOf 2 (some .int) :: ([.fieldLink RX6 69 "TrialSearchModel" "place" "[I", .fieldLink RX6 219 "TrialSearchModel" "outers" "I"] ++ wsX60)
def wsX6_innerOf : List Cond := .code yX6_innerOf cX6_innerOf 2 (some .int) :: ([.fieldLink RX6 69 "TrialSearchModel" "place" "[I", .fieldLink RX6 219 "TrialSearchModel" "outers" "I", .fieldLink RX6 222 "TrialSearchModel" "inners" "I"] ++ wsX60)
def wsX6_fold : List Cond := .code yX6_fold cX6_fold 3 (some .int) :: ([.fieldLink RX6 216 "TrialSearchModel" "rows" "I", .methodLink RX6 80 yX6_in, .static yX6_in, .initialized RX6, .code yX6_in cX6_in 6 (some .boolean), .methodLink RX6 225 yX6_outerOf, .instanceMethod yX6_outerOf, .selects RX6 yX6_outerOf yX6_outerOf, .code yX6_outerOf cX6_outerOf 2 (some .int), .fieldLink RX6 69 "TrialSearchModel" "place" "[I", .fieldLink RX6 219 "TrialSearchModel" "outers" "I", .methodLink RX6 229 yX6_innerOf, .instanceMethod yX6_innerOf, .selects RX6 yX6_innerOf yX6_innerOf, .code yX6_innerOf cX6_innerOf 2 (some .int), .fieldLink RX6 222 "TrialSearchModel" "inners" "I"] ++ wsX60)
def wsX6_use : List Cond := .code yX6_use cX6_use 8 (some .int) :: ([.fieldLink RX6 216 "TrialSearchModel" "rows" "I", .fieldLink RX6 219 "TrialSearchModel" "outers" "I", .constantLong RX6 84 (-1), .fieldLink RX6 222 "TrialSearchModel" "inners" "I", .fieldLink RX6 72 "TrialSearchModel" "isTested" "[Z", .fieldLink RX6 75 "TrialSearchModel" "counts" "[I", .methodLink RX6 80 yX6_in, .static yX6_in, .initialized RX6, .code yX6_in cX6_in 6 (some .boolean), .methodLink RX6 225 yX6_outerOf, .instanceMethod yX6_outerOf, .selects RX6 yX6_outerOf yX6_outerOf, .code yX6_outerOf cX6_outerOf 2 (some .int), .fieldLink RX6 69 "TrialSearchModel" "place" "[I", .methodLink RX6 229 yX6_innerOf, .instanceMethod yX6_innerOf, .selects RX6 yX6_innerOf yX6_innerOf, .code yX6_innerOf cX6_innerOf 2 (some .int)] ++ wsX60)
def wsX6_used : List Cond := .code yX6_used cX6_used 4 (some .int) :: ([.fieldLink RX6 216 "TrialSearchModel" "rows" "I", .fieldLink RX6 219 "TrialSearchModel" "outers" "I", .constantLong RX6 129 (2), .fieldLink RX6 75 "TrialSearchModel" "counts" "[I", .methodLink RX6 80 yX6_in, .static yX6_in, .initialized RX6, .code yX6_in cX6_in 6 (some .boolean)] ++ wsX60)
def wsJ9_abs_0f7a4 : List Cond := .code yJ9_abs_0f7a4 cJ9_abs_0f7a4 1 (some .int) :: ([])
def wsJ9_abs_067f4 : List Cond := .code yJ9_abs_067f4 cJ9_abs_067f4 2 (some .long) :: ([])
def wsJ9_max_f86c9 : List Cond := .code yJ9_max_f86c9 cJ9_max_f86c9 4 (some .long) :: ([])
def wsJ9_min_7cf53 : List Cond := .code yJ9_min_7cf53 cJ9_min_7cf53 2 (some .int) :: ([])
def wsJ9_min_f86c9 : List Cond := .code yJ9_min_f86c9 cJ9_min_f86c9 4 (some .long) :: ([])
def wsL_law_r1 : List Cond := [Cond.classLink RL 7 RX5, Cond.instantiable RX5 4, Cond.initialized RX5, Cond.classLink RL 10 RX6, Cond.instantiable RX6 31, Cond.initialized RX6, Cond.constantLong RL 23 (4294967295), Cond.methodLink RL 9 yX5_init, Cond.instanceMethod yX5_init, Cond.code yX5_init cX5_init 1 none, Cond.methodLink RX5 3 objectInit, Cond.instanceMethod objectInit, Cond.code objectInit ⟨#[0xb1]⟩ 1 none, Cond.classLink RX5 9 RX3, Cond.instantiable RX3 9, Cond.initialized RX3, Cond.fieldLink RX5 12 "TrialSearch" "space" "LTrialSearch$Space;", Cond.classLink RX5 16 RX4, Cond.instantiable RX4 12, Cond.initialized RX4, Cond.fieldLink RX5 21 "TrialSearch" "trials" "LTrialSearch$Trials;", Cond.classLink RX5 25 RX1, Cond.instantiable RX1 10, Cond.initialized RX1]
def wsL_law_r2 : List Cond := [Cond.fieldLink RX5 28 "TrialSearch" "rounds" "LTrialSearch$Rounds;", Cond.classLink RX5 32 RX0, Cond.instantiable RX0 8, Cond.initialized RX0, Cond.fieldLink RX5 35 "TrialSearch" "parts" "LTrialSearch$Folds;", Cond.methodLink RX5 11 yX3_init, Cond.instanceMethod yX3_init, Cond.code yX3_init cX3_init 1 none, Cond.methodLink RX3 3 objectInit, Cond.fieldLink RX3 9 "TrialSearch$Space" "names" "I", Cond.fieldLink RX3 15 "TrialSearch$Space" "all" "J", Cond.arrayClass .int, Cond.fieldLink RX3 19 "TrialSearch$Space" "left" "[I", Cond.fieldLink RX3 23 "TrialSearch$Space" "right" "[I", Cond.fieldLink RX3 26 "TrialSearch$Space" "many" "[I", Cond.fieldLink RX3 29 "TrialSearch$Space" "on" "[I", Cond.fieldLink RX3 32 "TrialSearch$Space" "set" "[I", Cond.arrayClass .long, Cond.fieldLink RX3 35 "TrialSearch$Space" "ways" "[J", Cond.classLink RX3 39 "[[J", Cond.fieldLink RX3 41 "TrialSearch$Space" "waysBelow" "[[J", Cond.methodLink RX5 18 yX4_init, Cond.instanceMethod yX4_init, Cond.code yX4_init cX4_init 2 none]
def wsL_law_r3 : List Cond := [Cond.methodLink RX4 3 objectInit, Cond.fieldLink RX4 9 "TrialSearch$Trials" "made" "I", Cond.fieldLink RX4 15 "TrialSearch$Trials" "scored" "I", Cond.fieldLink RX4 18 "TrialSearch$Trials" "places" "[J", Cond.fieldLink RX4 22 "TrialSearch$Trials" "states" "[I", Cond.fieldLink RX4 26 "TrialSearch$Trials" "scores" "[I", Cond.fieldLink RX4 29 "TrialSearch$Trials" "steps" "[I", Cond.classLink RX4 32 "[[I", Cond.fieldLink RX4 34 "TrialSearch$Trials" "reports" "[[I", Cond.fieldLink RX4 37 "TrialSearch$Trials" "space" "LTrialSearch$Space;", Cond.fieldLink RX4 41 "TrialSearch$Trials" "values" "[[I", Cond.fieldLink RX4 44 "TrialSearch$Trials" "nearGaps" "[I", Cond.fieldLink RX4 47 "TrialSearch$Trials" "nearScores" "[I", Cond.fieldLink RX4 50 "TrialSearch$Trials" "others" "[I", Cond.methodLink RX5 27 yX1_init, Cond.instanceMethod yX1_init, Cond.code yX1_init cX1_init 1 none, Cond.methodLink RX1 3 objectInit, Cond.fieldLink RX1 9 "TrialSearch$Rounds" "started" "Z", Cond.fieldLink RX1 15 "TrialSearch$Rounds" "spent" "J", Cond.fieldLink RX1 19 "TrialSearch$Rounds" "marks" "[I", Cond.fieldLink RX1 23 "TrialSearch$Rounds" "stands" "[I", Cond.methodLink RX5 34 yX0_init, Cond.instanceMethod yX0_init]
def wsL_law_r4 : List Cond := [Cond.code yX0_init cX0_init 1 none, Cond.methodLink RX0 3 objectInit, Cond.fieldLink RX0 9 "TrialSearch$Folds" "rows" "I", Cond.fieldLink RX0 15 "TrialSearch$Folds" "outer" "I", Cond.fieldLink RX0 18 "TrialSearch$Folds" "inner" "I", Cond.fieldLink RX0 21 "TrialSearch$Folds" "outerOf" "[I", Cond.fieldLink RX0 25 "TrialSearch$Folds" "innerOf" "[I", Cond.fieldLink RX0 28 "TrialSearch$Folds" "tested" "[I", Cond.classLink RX0 31 "[[I", Cond.fieldLink RX0 33 "TrialSearch$Folds" "chosen" "[[I", Cond.fieldLink RX0 36 "TrialSearch$Folds" "order" "[J", Cond.methodLink RL 12 yX6_init, Cond.instanceMethod yX6_init, Cond.code yX6_init cX6_init 1 none, Cond.methodLink RX6 12 objectInit, Cond.fieldLink RX6 18 "TrialSearchModel" "many" "[I", Cond.fieldLink RX6 22 "TrialSearchModel" "on" "[I", Cond.fieldLink RX6 25 "TrialSearchModel" "set" "[I", Cond.fieldLink RX6 28 "TrialSearchModel" "ways" "[J", Cond.fieldLink RX6 32 "TrialSearchModel" "values" "[I", Cond.fieldLink RX6 35 "TrialSearchModel" "pointOf" "[J", Cond.fieldLink RX6 38 "TrialSearchModel" "state" "[I", Cond.fieldLink RX6 41 "TrialSearchModel" "score" "[I", Cond.fieldLink RX6 44 "TrialSearchModel" "reports" "[I"]
def wsL_law_r5 : List Cond := [Cond.fieldLink RX6 47 "TrialSearchModel" "reported" "[I", Cond.arrayClass .boolean, Cond.fieldLink RX6 50 "TrialSearchModel" "isTaken" "[Z", Cond.fieldLink RX6 54 "TrialSearchModel" "far" "[I", Cond.fieldLink RX6 57 "TrialSearchModel" "isIn" "[Z", Cond.fieldLink RX6 60 "TrialSearchModel" "hasResult" "[Z", Cond.fieldLink RX6 63 "TrialSearchModel" "hasFailed" "[Z", Cond.fieldLink RX6 66 "TrialSearchModel" "result" "[I", Cond.fieldLink RX6 69 "TrialSearchModel" "place" "[I", Cond.fieldLink RX6 72 "TrialSearchModel" "isTested" "[Z", Cond.fieldLink RX6 75 "TrialSearchModel" "counts" "[I", Cond.methodLink RL 13 yX5_name, Cond.instanceMethod yX5_name, Cond.selects RX5 yX5_name yX5_name, Cond.code yX5_name cX5_name 4 (some .int), Cond.constantLong RX5 39 (30), Cond.constantLong RX5 45 (-1), Cond.fieldLink RX5 47 "TrialSearch$Space" "names" "I", Cond.constantLong RX5 51 (1073741823), Cond.fieldLink RX5 53 "TrialSearch$Trials" "made" "I", Cond.methodLink RX5 41 yX5_within, Cond.static yX5_within, Cond.code yX5_within cX5_within 6 (some .boolean), Cond.methodLink RX5 56 yX3_add]
def wsL_law_r6 : List Cond := [Cond.instanceMethod yX3_add, Cond.selects RX3 yX3_add yX3_add, Cond.code yX3_add cX3_add 5 (some .int), Cond.methodLink RX3 44 yX3_countWays, Cond.instanceMethod yX3_countWays, Cond.selects RX3 yX3_countWays yX3_countWays, Cond.code yX3_countWays cX3_countWays 2 none, Cond.methodLink RX3 47 yJ7_fill_d0a16, Cond.static yJ7_fill_d0a16, Cond.initialized RJ7, Cond.code yJ7_fill_d0a16 cJ7_fill_d0a16 5 none, Cond.methodLink RX3 53 yX3_sumOfWays, Cond.instanceMethod yX3_sumOfWays, Cond.selects RX3 yX3_sumOfWays yX3_sumOfWays, Cond.code yX3_sumOfWays cX3_sumOfWays 5 (some .long), Cond.methodLink RX3 57 yX3_hang, Cond.instanceMethod yX3_hang, Cond.selects RX3 yX3_hang yX3_hang, Cond.code yX3_hang cX3_hang 4 none, Cond.methodLink RX3 61 yX3_hasBit, Cond.static yX3_hasBit, Cond.code yX3_hasBit cX3_hasBit 2 (some .boolean), Cond.methodLink RL 17 yX6_name, Cond.instanceMethod yX6_name]
def wsL_law_r7 : List Cond := [Cond.selects RX6 yX6_name yX6_name, Cond.code yX6_name cX6_name 6 (some .int), Cond.constantLong RX6 78 (30), Cond.constantLong RX6 84 (-1), Cond.fieldLink RX6 86 "TrialSearchModel" "names" "I", Cond.constantLong RX6 90 (1073741823), Cond.fieldLink RX6 92 "TrialSearchModel" "trials" "I", Cond.methodLink RX6 80 yX6_in, Cond.static yX6_in, Cond.code yX6_in cX6_in 6 (some .boolean), Cond.methodLink RX6 95 yX6_waysOf, Cond.instanceMethod yX6_waysOf, Cond.selects RX6 yX6_waysOf yX6_waysOf, Cond.code yX6_waysOf cX6_waysOf 6 (some .long), Cond.methodLink RL 18 yX5_points, Cond.instanceMethod yX5_points, Cond.selects RX5 yX5_points yX5_points, Cond.code yX5_points cX5_points 1 (some .long), Cond.fieldLink RX5 60 "TrialSearch$Space" "all" "J", Cond.methodLink RL 22 yX6_points, Cond.instanceMethod yX6_points, Cond.selects RX6 yX6_points yX6_points, Cond.code yX6_points cX6_points 4 (some .long), Cond.methodLink RL 25 yX5_value]
def wsL_law_r8 : List Cond := [Cond.instanceMethod yX5_value, Cond.selects RX5 yX5_value yX5_value, Cond.code yX5_value cX5_value 4 (some .int), Cond.fieldLink RX5 68 "TrialSearch$Space" "left" "[I", Cond.methodLink RX5 64 yX5_isPoint, Cond.instanceMethod yX5_isPoint, Cond.selects RX5 yX5_isPoint yX5_isPoint, Cond.code yX5_isPoint cX5_isPoint 3 (some .boolean), Cond.methodLink RX5 72 yX3_read, Cond.instanceMethod yX3_read, Cond.selects RX3 yX3_read yX3_read, Cond.code yX3_read cX3_read 10 none, Cond.methodLink RX3 65 yX3_isThere, Cond.instanceMethod yX3_isThere, Cond.selects RX3 yX3_isThere yX3_isThere, Cond.code yX3_isThere cX3_isThere 4 (some .boolean), Cond.static yX5_cut, Cond.code yX5_cut cX5_cut 4 (some .long), Cond.methodLink RL 29 yX6_value, Cond.instanceMethod yX6_value, Cond.selects RX6 yX6_value yX6_value, Cond.code yX6_value cX6_value 4 (some .int), Cond.methodLink RX6 110 yX6_noPoint, Cond.instanceMethod yX6_noPoint]
def wsL_law_r9 : List Cond := [Cond.selects RX6 yX6_noPoint yX6_noPoint, Cond.code yX6_noPoint cX6_noPoint 3 (some .boolean), Cond.methodLink RX6 106 yX6_points, Cond.methodLink RX6 114 yX6_find, Cond.instanceMethod yX6_find, Cond.selects RX6 yX6_find yX6_find, Cond.code yX6_find cX6_find 9 none, Cond.methodLink RX6 99 yX6_isThere, Cond.instanceMethod yX6_isThere, Cond.selects RX6 yX6_isThere yX6_isThere, Cond.code yX6_isThere cX6_isThere 3 (some .boolean), Cond.methodLink RX6 103 yX6_behind, Cond.instanceMethod yX6_behind, Cond.selects RX6 yX6_behind yX6_behind, Cond.code yX6_behind cX6_behind 6 (some .long), Cond.methodLink RL 30 yX5_number, Cond.instanceMethod yX5_number, Cond.selects RX5 yX5_number yX5_number, Cond.code yX5_number cX5_number 3 (some .long), Cond.constantLong RX5 84 (-2), Cond.methodLink RX5 76 yX3_takeBits, Cond.instanceMethod yX3_takeBits, Cond.selects RX3 yX3_takeBits yX3_takeBits, Cond.code yX3_takeBits cX3_takeBits 6 (some .boolean)]
def wsL_law_r10 : List Cond := [Cond.methodLink RX5 80 yX3_place, Cond.instanceMethod yX3_place, Cond.selects RX3 yX3_place yX3_place, Cond.code yX3_place cX3_place 8 (some .long), Cond.methodLink RL 34 yX6_number, Cond.instanceMethod yX6_number, Cond.selects RX6 yX6_number yX6_number, Cond.code yX6_number cX6_number 4 (some .long), Cond.constantLong RX6 118 (31), Cond.constantLong RX6 120 (-2), Cond.methodLink RX6 122 yX6_numberOf, Cond.instanceMethod yX6_numberOf, Cond.selects RX6 yX6_numberOf yX6_numberOf, Cond.code yX6_numberOf cX6_numberOf 6 (some .long), Cond.methodLink RL 35 yX5_distance, Cond.instanceMethod yX5_distance, Cond.selects RX5 yX5_distance yX5_distance, Cond.code yX5_distance cX5_distance 5 (some .int), Cond.fieldLink RX5 86 "TrialSearch$Space" "right" "[I", Cond.methodLink RX5 89 yX3_apart, Cond.instanceMethod yX3_apart, Cond.selects RX3 yX3_apart yX3_apart, Cond.code yX3_apart cX3_apart 5 (some .int), Cond.methodLink RX3 83 yX3_apartAt]
def wsL_law_r11 : List Cond := [Cond.instanceMethod yX3_apartAt, Cond.selects RX3 yX3_apartAt yX3_apartAt, Cond.code yX3_apartAt cX3_apartAt 4 (some .int), Cond.methodLink RX3 87 Lib.Math.abs.name, Cond.static Lib.Math.abs.name, Cond.initialized "java/lang/Math", Cond.code Lib.Math.abs.name Lib.Math.abs.code 1 (some .int), Cond.methodLink RL 39 yX6_distance, Cond.instanceMethod yX6_distance, Cond.selects RX6 yX6_distance yX6_distance, Cond.code yX6_distance cX6_distance 5 (some .int), Cond.methodLink RX6 125 yX6_distanceOf, Cond.instanceMethod yX6_distanceOf, Cond.selects RX6 yX6_distanceOf yX6_distanceOf, Cond.code yX6_distanceOf cX6_distanceOf 10 (some .int), Cond.methodLink RL 40 yX5_trial, Cond.instanceMethod yX5_trial, Cond.selects RX5 yX5_trial yX5_trial, Cond.code yX5_trial cX5_trial 3 (some .int), Cond.constantLong RX5 93 (2), Cond.methodLink RX5 95 yX5_placeBy, Cond.instanceMethod yX5_placeBy, Cond.selects RX5 yX5_placeBy yX5_placeBy, Cond.code yX5_placeBy cX5_placeBy 3 (some .long)]
def wsL_law_r12 : List Cond := [Cond.methodLink RX5 272 yX5_rest, Cond.static yX5_rest, Cond.code yX5_rest cX5_rest 4 (some .long), Cond.methodLink RX5 275 yX2_pick, Cond.static yX2_pick, Cond.initialized RX2, Cond.code yX2_pick cX2_pick 7 (some .long), Cond.constant RX2 16 (1000000), Cond.methodLink RX2 10 yX2_bitsFor, Cond.static yX2_bitsFor, Cond.code yX2_bitsFor cX2_bitsFor 3 (some .int), Cond.methodLink RX2 17 yX2_twoHashes, Cond.static yX2_twoHashes, Cond.code yX2_twoHashes cX2_twoHashes 6 (some .long), Cond.constantLong RX2 25 (4294967295), Cond.methodLink RX2 21 yX2_hash, Cond.static yX2_hash, Cond.code yX2_hash cX2_hash 3 (some .int), Cond.constant RX2 7 (-1640531527), Cond.constant RX2 8 (-2048144789), Cond.constant RX2 9 (-1028477387), Cond.methodLink RX5 280 yX3_pickEach, Cond.instanceMethod yX3_pickEach, Cond.selects RX3 yX3_pickEach yX3_pickEach]
def wsL_law_r13 : List Cond := [Cond.code yX3_pickEach cX3_pickEach 4 none, Cond.methodLink RX3 73 yX2_hash, Cond.methodLink RX3 79 yX2_pick, Cond.methodLink RX5 99 yX4_add, Cond.instanceMethod yX4_add, Cond.selects RX4 yX4_add yX4_add, Cond.code yX4_add cX4_add 4 (some .int), Cond.methodLink RX4 53 yX3_read, Cond.methodLink RL 44 yX6_trial, Cond.instanceMethod yX6_trial, Cond.selects RX6 yX6_trial yX6_trial, Cond.code yX6_trial cX6_trial 4 (some .int), Cond.constantLong RX6 129 (2), Cond.methodLink RX6 131 yX6_pick, Cond.static yX6_pick, Cond.code yX6_pick cX6_pick 7 (some .long), Cond.constantLong RX6 10 (4294967295), Cond.methodLink RX6 4 yX6_hash, Cond.static yX6_hash, Cond.code yX6_hash cX6_hash 3 (some .int), Cond.constant RX6 1 (-1640531527), Cond.constant RX6 2 (-2048144789), Cond.constant RX6 3 (-1028477387), Cond.methodLink RX6 135 yX6_add]
def wsL_law_r14 : List Cond := [Cond.instanceMethod yX6_add, Cond.selects RX6 yX6_add yX6_add, Cond.code yX6_add cX6_add 3 (some .int), Cond.methodLink RL 45 yX5_guess, Cond.instanceMethod yX5_guess, Cond.selects RX5 yX5_guess yX5_guess, Cond.code yX5_guess cX5_guess 4 (some .int), Cond.constantLong RX5 102 (40), Cond.constantLong RX5 104 (5), Cond.methodLink RX5 106 yX4_bestCandidate, Cond.instanceMethod yX4_bestCandidate, Cond.selects RX4 yX4_bestCandidate yX4_bestCandidate, Cond.code yX4_bestCandidate cX4_bestCandidate 13 (some .long), Cond.fieldLink RX4 59 "TrialSearch$Space" "all" "J", Cond.methodLink RX4 63 yX2_hash, Cond.methodLink RX4 69 yX2_pick, Cond.methodLink RX4 73 yX4_nearSum, Cond.instanceMethod yX4_nearSum, Cond.selects RX4 yX4_nearSum yX4_nearSum, Cond.code yX4_nearSum cX4_nearSum 8 (some .long), Cond.fieldLink RX4 76 "TrialSearch$Space" "left" "[I", Cond.methodLink RX4 79 yX3_apart, Cond.methodLink RX4 83 yX4_holdNear, Cond.instanceMethod yX4_holdNear]
def wsL_law_r15 : List Cond := [Cond.selects RX4 yX4_holdNear yX4_holdNear, Cond.code yX4_holdNear cX4_holdNear 8 (some .int), Cond.methodLink RX4 87 Lib.Math.min.name, Cond.static Lib.Math.min.name, Cond.code Lib.Math.min.name Lib.Math.min.code 2 (some .int), Cond.methodLink RL 48 yX6_guess, Cond.instanceMethod yX6_guess, Cond.selects RX6 yX6_guess yX6_guess, Cond.code yX6_guess cX6_guess 13 (some .int), Cond.constantLong RX6 142 (40), Cond.constantLong RX6 144 (5), Cond.fieldLink RX6 139 "TrialSearchModel" "taken" "I", Cond.methodLink RX6 146 yX6_near, Cond.instanceMethod yX6_near, Cond.selects RX6 yX6_near yX6_near, Cond.code yX6_near cX6_near 9 (some .long), Cond.methodLink RL 49 yX5_forecast, Cond.instanceMethod yX5_forecast, Cond.selects RX5 yX5_forecast yX5_forecast, Cond.code yX5_forecast cX5_forecast 11 (some .long), Cond.constantLong RX5 110 (-1000000000000000001), Cond.fieldLink RX5 112 "TrialSearch$Trials" "scored" "I", Cond.constantLong RX5 115 (-1000000000000000002), Cond.methodLink RX5 121 Lib.Math.min.name]
def wsL_law_r16 : List Cond := [Cond.methodLink RX5 127 Lib.MathLoose.abs_long.x, Cond.static Lib.MathLoose.abs_long.x, Cond.code Lib.MathLoose.abs_long.x Lib.MathLoose.abs_long.code 2 (some .long), Cond.methodLink RX5 117 yX4_nearSum, Cond.methodLink RX5 131 yX5_commonDivisor, Cond.static yX5_commonDivisor, Cond.code yX5_commonDivisor cX5_commonDivisor 11 (some .long), Cond.methodLink RX5 135 yX5_cut, Cond.methodLink RL 53 yX6_forecast, Cond.instanceMethod yX6_forecast, Cond.selects RX6 yX6_forecast yX6_forecast, Cond.code yX6_forecast cX6_forecast 9 (some .long), Cond.constantLong RX6 150 (-1000000000000000001), Cond.constantLong RX6 152 (-1000000000000000002), Cond.methodLink RX6 154 yX6_divisor, Cond.static yX6_divisor, Cond.code yX6_divisor cX6_divisor 10 (some .long), Cond.methodLink RL 54 yX5_score, Cond.instanceMethod yX5_score, Cond.selects RX5 yX5_score yX5_score, Cond.code yX5_score cX5_score 4 (some .int), Cond.fieldLink RX5 146 "TrialSearch$Trials" "states" "[I", Cond.methodLink RX5 138 yX5_isTrial, Cond.instanceMethod yX5_isTrial]
def wsL_law_r17 : List Cond := [Cond.selects RX5 yX5_isTrial yX5_isTrial, Cond.code yX5_isTrial cX5_isTrial 2 (some .boolean), Cond.methodLink RX5 142 yX5_isMark, Cond.static yX5_isMark, Cond.code yX5_isMark cX5_isMark 2 (some .boolean), Cond.constantLong RX5 264 (-1000000), Cond.constantLong RX5 183 (1000000), Cond.methodLink RX5 149 yX4_close, Cond.instanceMethod yX4_close, Cond.selects RX4 yX4_close yX4_close, Cond.code yX4_close cX4_close 4 (some .int), Cond.methodLink RL 58 yX6_score, Cond.instanceMethod yX6_score, Cond.selects RX6 yX6_score yX6_score, Cond.code yX6_score cX6_score 6 (some .int), Cond.methodLink RX6 162 yX6_noTrial, Cond.instanceMethod yX6_noTrial, Cond.selects RX6 yX6_noTrial yX6_noTrial, Cond.code yX6_noTrial cX6_noTrial 2 (some .boolean), Cond.methodLink RX6 166 yX6_isScore, Cond.static yX6_isScore, Cond.code yX6_isScore cX6_isScore 1 (some .boolean), Cond.constantLong RX6 158 (-1000000), Cond.constantLong RX6 160 (1000000)]
def wsL_law_r18 : List Cond := [Cond.methodLink RL 59 yX5_report, Cond.instanceMethod yX5_report, Cond.selects RX5 yX5_report yX5_report, Cond.code yX5_report cX5_report 4 (some .int), Cond.constantLong RX5 153 (60), Cond.fieldLink RX5 155 "TrialSearch$Trials" "steps" "[I", Cond.methodLink RX5 158 yX4_addReport, Cond.instanceMethod yX4_addReport, Cond.selects RX4 yX4_addReport yX4_addReport, Cond.code yX4_addReport cX4_addReport 6 (some .int), Cond.methodLink RX4 92 yX4_isBelowMiddle, Cond.instanceMethod yX4_isBelowMiddle, Cond.selects RX4 yX4_isBelowMiddle yX4_isBelowMiddle, Cond.code yX4_isBelowMiddle cX4_isBelowMiddle 7 (some .boolean), Cond.methodLink RX4 96 yX4_sortIn, Cond.instanceMethod yX4_sortIn, Cond.selects RX4 yX4_sortIn yX4_sortIn, Cond.code yX4_sortIn cX4_sortIn 4 none, Cond.methodLink RL 62 yX6_report, Cond.instanceMethod yX6_report, Cond.selects RX6 yX6_report yX6_report, Cond.code yX6_report cX6_report 5 (some .int), Cond.constantLong RX6 169 (60), Cond.methodLink RX6 171 yX6_prunes]
def wsL_law_r19 : List Cond := [Cond.instanceMethod yX6_prunes, Cond.selects RX6 yX6_prunes yX6_prunes, Cond.code yX6_prunes cX6_prunes 8 (some .boolean), Cond.methodLink RL 63 yX5_told, Cond.instanceMethod yX5_told, Cond.selects RX5 yX5_told yX5_told, Cond.code yX5_told cX5_told 3 (some .int), Cond.fieldLink RX5 161 "TrialSearch$Trials" "scores" "[I", Cond.fieldLink RX5 164 "TrialSearch$Rounds" "marks" "[I", Cond.methodLink RX5 167 yX1_isIn, Cond.instanceMethod yX1_isIn, Cond.selects RX1 yX1_isIn yX1_isIn, Cond.code yX1_isIn cX1_isIn 2 (some .boolean), Cond.methodLink RL 66 yX6_told, Cond.instanceMethod yX6_told, Cond.selects RX6 yX6_told yX6_told, Cond.code yX6_told cX6_told 3 (some .int), Cond.methodLink RL 67 yX5_point, Cond.instanceMethod yX5_point, Cond.selects RX5 yX5_point yX5_point, Cond.code yX5_point cX5_point 2 (some .long), Cond.fieldLink RX5 170 "TrialSearch$Trials" "places" "[J", Cond.methodLink RL 71 yX6_point, Cond.instanceMethod yX6_point]
def wsL_law_r20 : List Cond := [Cond.selects RX6 yX6_point yX6_point, Cond.code yX6_point cX6_point 2 (some .long), Cond.methodLink RL 72 yX5_reported, Cond.instanceMethod yX5_reported, Cond.selects RX5 yX5_reported yX5_reported, Cond.code yX5_reported cX5_reported 3 (some .int), Cond.constant RX5 174 (-2000000), Cond.fieldLink RX5 175 "TrialSearch$Trials" "reports" "[[I", Cond.methodLink RL 75 yX6_reported, Cond.instanceMethod yX6_reported, Cond.selects RX6 yX6_reported yX6_reported, Cond.code yX6_reported cX6_reported 3 (some .int), Cond.constant RX6 175 (-2000000), Cond.methodLink RL 76 yX5_best, Cond.instanceMethod yX5_best, Cond.selects RX5 yX5_best yX5_best, Cond.code yX5_best cX5_best 1 (some .int), Cond.methodLink RX5 179 yX4_firstGreatest, Cond.instanceMethod yX4_firstGreatest, Cond.selects RX4 yX4_firstGreatest yX4_firstGreatest, Cond.code yX4_firstGreatest cX4_firstGreatest 3 (some .int), Cond.methodLink RL 80 yX6_best, Cond.instanceMethod yX6_best, Cond.selects RX6 yX6_best yX6_best]
def wsL_law_r21 : List Cond := [Cond.code yX6_best cX6_best 3 (some .int), Cond.methodLink RL 81 yX5_bracket, Cond.instanceMethod yX5_bracket, Cond.selects RX5 yX5_bracket yX5_bracket, Cond.code yX5_bracket cX5_bracket 5 (some .int), Cond.methodLink RX5 185 yX1_start, Cond.instanceMethod yX1_start, Cond.selects RX1 yX1_start yX1_start, Cond.code yX1_start cX1_start 6 none, Cond.fieldLink RX1 26 "TrialSearch$Rounds" "over" "Z", Cond.fieldLink RX1 29 "TrialSearch$Rounds" "halved" "I", Cond.fieldLink RX1 33 "TrialSearch$Rounds" "budget" "I", Cond.fieldLink RX1 36 "TrialSearch$Rounds" "factor" "I", Cond.fieldLink RX1 39 "TrialSearch$Rounds" "in" "I", Cond.fieldLink RX1 42 "TrialSearch$Rounds" "waiting" "I", Cond.methodLink RL 85 yX6_bracket, Cond.instanceMethod yX6_bracket, Cond.selects RX6 yX6_bracket yX6_bracket, Cond.code yX6_bracket cX6_bracket 6 (some .int), Cond.fieldLink RX6 176 "TrialSearchModel" "isBracket" "Z", Cond.fieldLink RX6 180 "TrialSearchModel" "budget" "I", Cond.fieldLink RX6 183 "TrialSearchModel" "factor" "I", Cond.fieldLink RX6 186 "TrialSearchModel" "halved" "I", Cond.fieldLink RX6 189 "TrialSearchModel" "isOver" "Z"]
def wsL_law_r22 : List Cond := [Cond.fieldLink RX6 192 "TrialSearchModel" "cost" "J", Cond.methodLink RX6 196 yX6_clear, Cond.instanceMethod yX6_clear, Cond.selects RX6 yX6_clear yX6_clear, Cond.code yX6_clear cX6_clear 2 none, Cond.methodLink RL 86 yX5_result, Cond.instanceMethod yX5_result, Cond.selects RX5 yX5_result yX5_result, Cond.code yX5_result cX5_result 4 (some .int), Cond.methodLink RX5 189 yX1_isWaiting, Cond.instanceMethod yX1_isWaiting, Cond.selects RX1 yX1_isWaiting yX1_isWaiting, Cond.code yX1_isWaiting cX1_isWaiting 2 (some .boolean), Cond.methodLink RX5 192 yX1_mark, Cond.instanceMethod yX1_mark, Cond.selects RX1 yX1_mark yX1_mark, Cond.code yX1_mark cX1_mark 4 (some .int), Cond.methodLink RL 89 yX6_result, Cond.instanceMethod yX6_result, Cond.selects RX6 yX6_result yX6_result, Cond.code yX6_result cX6_result 4 (some .int), Cond.methodLink RX6 200 yX6_open, Cond.instanceMethod yX6_open, Cond.selects RX6 yX6_open yX6_open]
def wsL_law_r23 : List Cond := [Cond.code yX6_open cX6_open 3 (some .int), Cond.methodLink RL 90 yX5_halve, Cond.instanceMethod yX5_halve, Cond.selects RX5 yX5_halve yX5_halve, Cond.code yX5_halve cX5_halve 1 (some .int), Cond.methodLink RX5 195 yX1_canEnd, Cond.instanceMethod yX1_canEnd, Cond.selects RX1 yX1_canEnd yX1_canEnd, Cond.code yX1_canEnd cX1_canEnd 1 (some .boolean), Cond.methodLink RX5 199 yX1_end, Cond.instanceMethod yX1_end, Cond.selects RX1 yX1_end yX1_end, Cond.code yX1_end cX1_end 4 (some .int), Cond.methodLink RX1 49 Lib.MathLoose.max_long.x, Cond.static Lib.MathLoose.max_long.x, Cond.code Lib.MathLoose.max_long.x Lib.MathLoose.max_long.code 4 (some .long), Cond.constantLong RX1 61 (1000000000), Cond.methodLink RX1 63 Lib.MathLoose.min_long.x, Cond.static Lib.MathLoose.min_long.x, Cond.code Lib.MathLoose.min_long.x Lib.MathLoose.min_long.code 4 (some .long), Cond.methodLink RX1 54 yX1_keepGreatest, Cond.instanceMethod yX1_keepGreatest, Cond.selects RX1 yX1_keepGreatest yX1_keepGreatest, Cond.code yX1_keepGreatest cX1_keepGreatest 3 (some .boolean)]
def wsL_law_r24 : List Cond := [Cond.methodLink RX1 58 yX1_openRound, Cond.instanceMethod yX1_openRound, Cond.selects RX1 yX1_openRound yX1_openRound, Cond.code yX1_openRound cX1_openRound 2 none, Cond.methodLink RL 93 yX6_halve, Cond.instanceMethod yX6_halve, Cond.selects RX6 yX6_halve yX6_halve, Cond.code yX6_halve cX6_halve 5 (some .int), Cond.constantLong RX6 207 (1000000000), Cond.constant RX6 209 (1000000000), Cond.methodLink RX6 204 yX6_inside, Cond.instanceMethod yX6_inside, Cond.selects RX6 yX6_inside yX6_inside, Cond.code yX6_inside cX6_inside 3 (some .int), Cond.methodLink RL 94 yX5_round, Cond.instanceMethod yX5_round, Cond.selects RX5 yX5_round yX5_round, Cond.code yX5_round cX5_round 2 (some .int), Cond.constantLong RX5 202 (3), Cond.fieldLink RX5 204 "TrialSearch$Rounds" "started" "Z", Cond.methodLink RX5 208 yX1_tell, Cond.instanceMethod yX1_tell, Cond.selects RX1 yX1_tell yX1_tell, Cond.code yX1_tell cX1_tell 2 (some .int)]
def wsL_law_r25 : List Cond := [Cond.methodLink RL 98 yX6_round, Cond.instanceMethod yX6_round, Cond.selects RX6 yX6_round yX6_round, Cond.code yX6_round cX6_round 2 (some .int), Cond.constantLong RX6 210 (3), Cond.methodLink RL 99 yX5_cost, Cond.instanceMethod yX5_cost, Cond.selects RX5 yX5_cost yX5_cost, Cond.code yX5_cost cX5_cost 1 (some .long), Cond.fieldLink RX5 212 "TrialSearch$Rounds" "spent" "J", Cond.methodLink RL 102 yX6_cost, Cond.instanceMethod yX6_cost, Cond.selects RX6 yX6_cost yX6_cost, Cond.code yX6_cost cX6_cost 1 (some .long), Cond.methodLink RL 103 yX5_plan, Cond.instanceMethod yX5_plan, Cond.selects RX5 yX5_plan yX5_plan, Cond.code yX5_plan cX5_plan 8 (some .int), Cond.methodLink RX5 215 yX5_lastBracket, Cond.static yX5_lastBracket, Cond.code yX5_lastBracket cX5_lastBracket 3 (some .int), Cond.methodLink RX5 218 yX5_power, Cond.static yX5_power, Cond.code yX5_power cX5_power 5 (some .long)]
def wsL_law_r26 : List Cond := [Cond.methodLink RX5 221 yX5_cutUp, Cond.static yX5_cutUp, Cond.code yX5_cutUp cX5_cutUp 4 (some .long), Cond.methodLink RL 106 yX6_plan, Cond.instanceMethod yX6_plan, Cond.selects RX6 yX6_plan yX6_plan, Cond.code yX6_plan cX6_plan 9 (some .int), Cond.methodLink RL 107 yX5_folds, Cond.instanceMethod yX5_folds, Cond.selects RX5 yX5_folds yX5_folds, Cond.code yX5_folds cX5_folds 5 (some .int), Cond.constantLong RX5 224 (200), Cond.constantLong RX5 226 (10), Cond.methodLink RX5 228 yX0_make, Cond.instanceMethod yX0_make, Cond.selects RX0 yX0_make yX0_make, Cond.code yX0_make cX0_make 7 none, Cond.methodLink RX0 40 yJ7_fill_53178, Cond.static yJ7_fill_53178, Cond.code yJ7_fill_53178 cJ7_fill_53178 4 none, Cond.methodLink RX0 46 yX2_hash, Cond.methodLink RX0 52 yX0_sortIn, Cond.instanceMethod yX0_sortIn, Cond.selects RX0 yX0_sortIn yX0_sortIn]
def wsL_law_r27 : List Cond := [Cond.code yX0_sortIn cX0_sortIn 7 none, Cond.methodLink RX0 63 arraycopyName, Cond.native arraycopyName, Cond.static arraycopyName, Cond.initialized "java/lang/System", Cond.methodLink RL 110 yX6_folds, Cond.instanceMethod yX6_folds, Cond.selects RX6 yX6_folds yX6_folds, Cond.code yX6_folds cX6_folds 9 (some .int), Cond.constantLong RX6 212 (200), Cond.constantLong RX6 214 (10), Cond.fieldLink RX6 216 "TrialSearchModel" "rows" "I", Cond.fieldLink RX6 219 "TrialSearchModel" "outers" "I", Cond.fieldLink RX6 222 "TrialSearchModel" "inners" "I", Cond.methodLink RL 111 yX5_fold, Cond.instanceMethod yX5_fold, Cond.selects RX5 yX5_fold yX5_fold, Cond.code yX5_fold cX5_fold 3 (some .int), Cond.fieldLink RX5 234 "TrialSearch$Folds" "outerOf" "[I", Cond.fieldLink RX5 237 "TrialSearch$Folds" "innerOf" "[I", Cond.methodLink RX5 231 yX5_isRow, Cond.instanceMethod yX5_isRow, Cond.selects RX5 yX5_isRow yX5_isRow, Cond.code yX5_isRow cX5_isRow 2 (some .boolean)]
def wsL_law_r28 : List Cond := [Cond.fieldLink RX5 266 "TrialSearch$Folds" "rows" "I", Cond.methodLink RL 114 yX6_fold, Cond.instanceMethod yX6_fold, Cond.selects RX6 yX6_fold yX6_fold, Cond.code yX6_fold cX6_fold 3 (some .int), Cond.methodLink RX6 225 yX6_outerOf, Cond.instanceMethod yX6_outerOf, Cond.selects RX6 yX6_outerOf yX6_outerOf, Cond.code yX6_outerOf cX6_outerOf 2 (some .int), Cond.methodLink RX6 229 yX6_innerOf, Cond.instanceMethod yX6_innerOf, Cond.selects RX6 yX6_innerOf yX6_innerOf, Cond.code yX6_innerOf cX6_innerOf 2 (some .int), Cond.methodLink RL 115 yX5_use, Cond.instanceMethod yX5_use, Cond.selects RX5 yX5_use yX5_use, Cond.code yX5_use cX5_use 3 (some .int), Cond.fieldLink RX5 243 "TrialSearch$Folds" "inner" "I", Cond.fieldLink RX5 246 "TrialSearch$Folds" "tested" "[I", Cond.methodLink RX5 240 yX5_isOuter, Cond.instanceMethod yX5_isOuter, Cond.selects RX5 yX5_isOuter yX5_isOuter, Cond.code yX5_isOuter cX5_isOuter 2 (some .boolean), Cond.fieldLink RX5 269 "TrialSearch$Folds" "outer" "I"]
def wsL_law_r29 : List Cond := [Cond.methodLink RX5 249 yX0_test, Cond.instanceMethod yX0_test, Cond.selects RX0 yX0_test yX0_test, Cond.code yX0_test cX0_test 4 (some .int), Cond.methodLink RX5 252 yX0_choose, Cond.instanceMethod yX0_choose, Cond.selects RX0 yX0_choose yX0_choose, Cond.code yX0_choose cX0_choose 5 (some .int), Cond.methodLink RL 118 yX6_use, Cond.instanceMethod yX6_use, Cond.selects RX6 yX6_use yX6_use, Cond.code yX6_use cX6_use 8 (some .int), Cond.methodLink RL 119 yX5_used, Cond.instanceMethod yX5_used, Cond.selects RX5 yX5_used yX5_used, Cond.code yX5_used cX5_used 4 (some .int), Cond.methodLink RX5 255 yX0_trained, Cond.instanceMethod yX0_trained, Cond.selects RX0 yX0_trained yX0_trained, Cond.code yX0_trained cX0_trained 5 (some .int), Cond.methodLink RX5 258 yX0_validated, Cond.instanceMethod yX0_validated, Cond.selects RX0 yX0_validated yX0_validated, Cond.code yX0_validated cX0_validated 3 (some .int)]
def wsL_law_r30 : List Cond := [Cond.methodLink RX5 261 yX0_testing, Cond.instanceMethod yX0_testing, Cond.selects RX0 yX0_testing yX0_testing, Cond.code yX0_testing cX0_testing 3 (some .int), Cond.methodLink RL 122 yX6_used, Cond.instanceMethod yX6_used, Cond.selects RX6 yX6_used yX6_used, Cond.code yX6_used cX6_used 4 (some .int)]
def wsL_law : List Cond := (wsL_law_r1 ++ (wsL_law_r2 ++ (wsL_law_r3 ++ (wsL_law_r4 ++ (wsL_law_r5 ++ (wsL_law_r6 ++ (wsL_law_r7 ++ (wsL_law_r8 ++ (wsL_law_r9 ++ (wsL_law_r10 ++ (wsL_law_r11 ++ (wsL_law_r12 ++ (wsL_law_r13 ++ (wsL_law_r14 ++ (wsL_law_r15 ++ (wsL_law_r16 ++ (wsL_law_r17 ++ (wsL_law_r18 ++ (wsL_law_r19 ++ (wsL_law_r20 ++ (wsL_law_r21 ++ (wsL_law_r22 ++ (wsL_law_r23 ++ (wsL_law_r24 ++ (wsL_law_r25 ++ (wsL_law_r26 ++ (wsL_law_r27 ++ (wsL_law_r28 ++ (wsL_law_r29 ++ wsL_law_r30))))))))))))))))))))))))))))) ++ wsX50 ++ wsX60 ++ wsX30 ++ wsX40 ++ wsX10 ++ wsX00 ++ ([] : List Cond)
set_option maxRecDepth 20000 in
theorem wsL_law_in : ∀ w ∈ wsL_law, w ∈ lw_tbl := fun w h => (goodIn_p wsL_law [47, 50, 55, 99, 151, 191, 600, 241, 245, 251, 255, 258, 262, 266, 269, 700, 704, 710, 273, 714, 277, 281, 285, 289, 292, 718, 722, 727, 731, 735, 296, 300, 304, 739, 745, 309, 313, 317, 320, 749, 753, 324, 329, 332, 335, 338, 342, 345, 353, 359, 757, 761, 764, 772, 364, 370, 376, 381, 384, 776, 782, 388, 395, 398, 786, 791, 403, 407, 410, 416, 795, 799, 802, 420, 425, 429, 433, 808, 813, 437, 441, 817, 445, 821, 449, 825, 454, 458, 830, 462, 466, 834, 838, 470, 474, 478, 842, 846, 482, 486, 490, 494, 506, 498, 502, 850, 854, 510, 515, 860, 519, 865, 523, 526, 529, 532, 869, 536, 542, 545, 550, 873, 559, 563, 879, 883, 887, 567, 571, 575, 579, 891, 583, 587, 591, 595, 895] (by decide +kernel) (by decide +kernel) w h).1
theorem inlX0 : ∀ w ∈ wsX00, w ∈ wsL_law := fun _ h => List.mem_append_left _ (List.mem_append_right _ h)
theorem inX0 : ∀ w ∈ wsX00, w ∈ lw_tbl := fun w h => wsL_law_in w (inlX0 w h)
theorem inlX1 : ∀ w ∈ wsX10, w ∈ wsL_law := fun _ h => List.mem_append_left _ (List.mem_append_left _ (List.mem_append_right _ h))
theorem inX1 : ∀ w ∈ wsX10, w ∈ lw_tbl := fun w h => wsL_law_in w (inlX1 w h)
theorem inX2 : ∀ w ∈ wsX20, w ∈ lw_tbl := by decide +kernel
theorem inlX3 : ∀ w ∈ wsX30, w ∈ wsL_law := fun _ h => List.mem_append_left _ (List.mem_append_left _ (List.mem_append_left _ (List.mem_append_left _ (List.mem_append_right _ h))))
theorem inX3 : ∀ w ∈ wsX30, w ∈ lw_tbl := fun w h => wsL_law_in w (inlX3 w h)
theorem inlX4 : ∀ w ∈ wsX40, w ∈ wsL_law := fun _ h => List.mem_append_left _ (List.mem_append_left _ (List.mem_append_left _ (List.mem_append_right _ h)))
theorem inX4 : ∀ w ∈ wsX40, w ∈ lw_tbl := fun w h => wsL_law_in w (inlX4 w h)
theorem inlX5 : ∀ w ∈ wsX50, w ∈ wsL_law := fun _ h => List.mem_append_left _ (List.mem_append_left _ (List.mem_append_left _ (List.mem_append_left _ (List.mem_append_left _ (List.mem_append_left _ (List.mem_append_right _ h))))))
theorem inX5 : ∀ w ∈ wsX50, w ∈ lw_tbl := fun w h => wsL_law_in w (inlX5 w h)
theorem inlX6 : ∀ w ∈ wsX60, w ∈ wsL_law := fun _ h => List.mem_append_left _ (List.mem_append_left _ (List.mem_append_left _ (List.mem_append_left _ (List.mem_append_left _ (List.mem_append_right _ h)))))
theorem inX6 : ∀ w ∈ wsX60, w ∈ lw_tbl := fun w h => wsL_law_in w (inlX6 w h)
theorem inJ9 : ∀ w ∈ wsJ90, w ∈ lw_tbl := by decide +kernel
theorem inJ10 : ∀ w ∈ wsJ100, w ∈ lw_tbl := by decide +kernel
theorem inJ7 : ∀ w ∈ wsJ70, w ∈ lw_tbl := by decide +kernel
abbrev vwCl : List vw_C := [(RX0, TX0, 8), (RX1, TX1, 10), (RX3, TX3, 9), (RX4, TX4, 12), (RX5, TX5, 4), (RX6, TX6, 31)]
