/-! making the objects: worlds that grow at their end -/
def uAO (ty : FieldType) (U : State) : Prop := (Cond.arrayOver (.array ty)).before #[] U = true
theorem uAO.at {ty : FieldType} {U : State} (h : uAO ty U) (args : Array Value) : (Cond.arrayOver (.array ty)).before args U = true := h
theorem uAO.alike {ty : FieldType} {s U : State} (hvm : s.vm.Alike U.vm) (h : uAO ty s) : uAO ty U := by
  have h1 := Cond.arrayOver_setVmC (args := #[]) (s := s) hvm (.array ty)
  have h2 : (Cond.arrayOver (.array ty)).before #[] (s.setVm U.vm) = true := by rw [h1]; exact h
  exact h2
def CK (g : uG) (U : State) : Prop := va_K g.1 vwCl (uT g) U ∧ uAO .int U ∧ uAO .long U
theorem CK.alike {g : uG} {s U : State} (hvm : s.vm.Alike U.vm) (h : CK g s) : CK g U := ⟨va_K.moved hvm h.1, h.2.1.alike hvm, h.2.2.alike hvm⟩
theorem CK.call {g : uG} {U : State} (f : JFrame) (mk : MethodId) (a : Array Value) (h : CK g U) : CK g (U.calling f mk a) := CK.alike (U := U.calling f mk a) (Vm.Alike.refl U.vm) h
theorem arrV_congr {cI : ClassId} {N : Nat} {f f' : Nat → Value} (h : ∀ j, j < N → f j = f' j) : arrV cI N f = arrV cI N f' := by
  unfold arrV
  congr 1
  congr 1
  funext j
  exact h j.val j.isLt
theorem va_nd_range : ∀ (n k : Nat), va_nd (List.range' k n) = true
  | 0, _ => rfl
  | n + 1, k => by
    rw [List.range'_succ]
    simp only [va_nd, Bool.and_eq_true, decide_eq_true_eq]
    refine ⟨fun h => ?_, va_nd_range n (k + 1)⟩
    have := (List.mem_range'_1.mp h).1
    omega
theorem cw_rng (pre : va_W) (x : Nat × va_E) : (List.range' 0 pre.length).map (fun i => (pre ++ [x])[i]?) = pre.map some := by
  apply List.ext_getElem?
  intro i
  rw [List.getElem?_map, List.getElem?_map]
  by_cases hi : i < pre.length
  · rw [List.getElem?_range' hi]
    simp only [Option.map_some, Nat.zero_add, Nat.one_mul]
    rw [List.getElem?_append_left hi, List.getElem?_eq_getElem hi]
    rfl
  · rw [List.getElem?_eq_none (by simp; omega), List.getElem?_eq_none (by omega)]
    rfl
/-- behind a call of a constructor on the cell that was made last -/
theorem cw_join {A0 : Nat → Prop} {D : va_G} {cl : List vw_C} {pre w1 : va_W} {x : Nat × va_E} {H H1 : Heap} (hP : va_P D cl (pre ++ [x]) H) (hD : va_D A0 (pre ++ [x])) (hk : ∀ q : Nat, q < H.size → ¬ va_A [x] H.size q → H1[q]? = H[q]?) (hF : ∀ q, va_A [x] H.size q → A0 q) (hP1 : va_P D cl w1 H1) (hD1 : va_D (va_A [x] H.size) w1) : va_P D cl (pre ++ w1) H1 ∧ va_D A0 (pre ++ w1) := by
  refine va_join (wc := [x]) hP hD [pre.length] (List.range' 0 pre.length) (by simp) (cw_rng pre x) (va_nd_range _ _) (fun i hi => ?_) hk hF hP1 hD1
  have := (List.mem_range'_1.mp hi).2
  simp
  omega
theorem cw_lastP {D : va_G} {cl : List vw_C} {pre : va_W} {x : Nat × va_E} {H : Heap} (hP : va_P D cl (pre ++ [x]) H) : va_P D cl [x] H := by
  intro k q hk
  have hz : k < 1 := (List.getElem?_eq_some_iff.mp hk).1
  rw [show k = 0 by omega] at hk
  cases hk
  exact hP pre.length x (by simp)
theorem cw_lastD {A : Nat → Prop} {pre : va_W} {x : Nat × va_E} (hD : va_D A (pre ++ [x])) : va_D (fun _ => True) [x] := by
  refine ⟨fun i j p q hi hj _ => ?_, fun _ _ _ => trivial⟩
  have h1 : i < 1 := (List.getElem?_eq_some_iff.mp hi).1
  have h2 : j < 1 := (List.getElem?_eq_some_iff.mp hj).1
  omega
theorem cw_free {A0 : Nat → Prop} {pre : va_W} {x : Nat × va_E} {H0 H : Heap} {locs : List Loc} (hD : va_D A0 (pre ++ [x])) (hS : va_S A0 H0 H locs) (hA : ∀ q, H0.size ≤ q → A0 q) : ∀ q, va_A [x] H.size q → A0 q := va_free (wc := [x]) hD hS hA [pre.length] (by simp)
section CW
variable {p : Program} {l : Launch} {e : Env} {R : Room} {s : State} {m : MethodId} {args : Array Value} {below : List Frame} {meth : Method} {c : Code} {H : Heap} {locs : List Loc} {cells slots : Nat} {Q : State → Prop}
variable {cc : ByteArray} {pc : Nat} {ls : Array Slot} {rest : List Value} {g : uG} {A : Nat → Prop} {ws : va_W} {H0 : Heap}
theorem cw_newa (hexec : p.tables.exec = Jvm.exec) (hb : c.code = cc) {atype : ArrayType} {ty : FieldType} (hty : newarray.typeOf atype = ty) (harr : (Cond.arrayClass (newarray.typeOf atype)).before args s = true) (j : Nat) {ct : ClassId} (hj : (uT g)[j]? = some (ct, ty)) (hra : ∀ c, va_RA s c ty → s.vm.findClass ("[" ++ ty.toString) = some c) (hK : CK g s) (hP : va_P g.1 vwCl ws H) (hD : va_D A ws) (hS : va_S A H0 H locs) (hA : ∀ q, H0.size ≤ q → A q)
    {n : Int32} {N' : Nat} {a0 : vp_A} (ha : ∀ cA : ClassId, vp_cell cA a0 = arrV cA N' (fun _ => defaultValue ty)) (hn : ¬ n < 0) (hN : n.toNatClampNeg = N') (hbytes : N' * componentBytes ty ≤ 536870912) (hcells : cells + 1 ≤ R.cells) (hslots : slots + N' ≤ R.slots) (hdg : decode cc pc = .ok (.newarray atype, 2))
    (kk : ∀ (q : Nat) (H1 : Heap), va_P g.1 vwCl (ws ++ [(q, .inl (ct, a0))]) H1 → va_D A (ws ++ [(q, .inl (ct, a0))]) → va_S A H0 H1 locs →
      W p l e R s m args below meth c H1 locs (cells + 1) (slots + N') Q (F0 m (pc + 2) ls (.ref q :: rest))) : W p l e R s m args below meth c H locs cells slots Q (F0 m pc ls (.int n :: rest)) := by
  refine va_newa hexec hb harr hty hK.1 hP hD hS hA ha hn hN hbytes hcells hslots hdg (fun q cA H1 hK1 hP1 hD1 hS1 => ?_)
  have e1 := hra _ (hK1.2 5 (cA, ty) rfl).2
  have e2 := hra _ (hK.1.2 j (ct, ty) hj).2
  rw [e1] at e2
  cases e2
  exact kk q H1 hP1 hD1 hS1
theorem cw_mna (hexec : p.tables.exec = Jvm.exec) (hb : c.code = cc) {own : String} {index : Nat} {ty : FieldType} (hown : s.vm.findClass own = some m.cls) (hclink : (Cond.classLink own index ("[" ++ (FieldType.array ty).toString)).before args s = true) (hover : (Cond.arrayOver (.array ty)).before args s = true) (harr : (Cond.arrayClass ty).before args s = true)
    (i1 i2 : Nat) {cy ct : ClassId} (h1 : (uT g)[i1]? = some (cy, ty)) (h2 : (uT g)[i2]? = some (ct, .array ty)) (hra : ∀ c, va_RA s c ty → s.vm.findClass (FieldType.array ty).toString = some c)
    (hK : CK g s) (hP : va_P g.1 vwCl ws H) (hD : va_D A ws) (hS : va_S A H0 H locs) (hA : ∀ q, H0.size ≤ q → A q) {n k : Int32} {N' K' : Nat} {z : vp_A} (hn : ¬ n < 0) (hk : ¬ k < 0) (hN : n.toNatClampNeg = N') (hM : k.toNatClampNeg = K')
    (hb1 : N' * 4 ≤ 536870912) (hb2 : K' * componentBytes ty ≤ 536870912) (hb3 : K' ≤ 536870912) (hdf : fits ty (defaultValue ty) = true) (hdd : (defaultValue ty).isDefault = true) (hcells : cells + (1 + N') ≤ R.cells) (hslots : slots + (N' + N' * K') ≤ R.slots) (hz : ∀ c : ClassId, Jvm.Free.Multi.innerC c K' (defaultValue ty) = vp_cell c z) (hdg : decode cc pc = .ok (.multianewarray index 2, 4))
    (kk : ∀ (q : Nat) (r : Nat → Nat) (fc : Nat → Option Nat) (H1 : Heap), (∀ i, i < N' → fc i = some (r i)) → va_P g.1 vwCl (ws ++ ((q, .inl (ct, N', .inr (.inr (.inr (.inr fc))))) :: (List.range N').map (fun i => (r i, .inl (cy, z))))) H1 → va_D A (ws ++ ((q, .inl (ct, N', .inr (.inr (.inr (.inr fc))))) :: (List.range N').map (fun i => (r i, .inl (cy, z))))) → va_S A H0 H1 locs →
      W p l e R s m args below meth c H1 locs (cells + 1 + N') (slots + N' + N' * K') Q (F0 m (pc + 4) ls (.ref q :: rest))) : W p l e R s m args below meth c H locs cells slots Q (F0 m pc ls (.int k :: .int n :: rest)) := by
  refine va_mna (X := ws) (L := []) (f := fun _ => .inr (0, [])) hexec hb hown hclink hover harr (hra _ (hK.1.2 i1 (cy, ty) h1).2) hK.1 (by simpa [va_pl] using hP) (by simpa [va_pl] using hD) hS hA hn hk hN hM hb1 hb2 hb3 hdf hdd hcells hslots hz hdg (fun q r cA H1 hr hL hK1 hP1 hD1 hS1 => ?_)
  have e1 := (hK1.2 5 (cA, .array ty) rfl).2
  have e2 := (hK.1.2 i2 (ct, .array ty) h2).2
  have e3 : cA = ct := Option.some.inj (e1.symm.trans e2)
  subst e3
  have er : va_pl ([] ++ (List.range N').map r) (vr_up (fun _ => .inr (0, [])) ((List.range N').map r) (.inl (cy, z))) = (List.range N').map (fun i => (r i, .inl (cy, z))) := by
    unfold va_pl
    rw [List.nil_append, List.map_map]
    apply List.map_congr_left
    intro i hi
    show (r i, vr_up _ _ _ (r i)) = _
    rw [vr_up_in (List.mem_map.mpr ⟨i, hi, rfl⟩)]
  rw [er, List.append_assoc] at hP1 hD1
  exact kk q r (fun i => if i < N' then some (r i) else none) H1 (fun i hi => if_pos hi) hP1 hD1 hS1
end CW
