/-! the uniform world: every cell has a number k; its address is ad k; what it holds is told by its kind and by two banks of numbers, A (ints) and B (longs) -/
abbrev SA : Type := Nat → Nat → Int32
abbrev SB : Type := Nat → Nat → Int64
abbrev uG : Type := va_G × (Nat → Nat) × (Nat → ClassId)
abbrev NW : Nat := 186
def kd (k : Nat) : Nat := if k < 48 then [0, 0, 0, 0, 0, 0, 1, 1, 1, 1, 1, 2, 4, 2, 1, 1, 1, 5, 5, 1, 1, 1, 1, 1, 1, 1, 1, 5, 2, 1, 1, 1, 2, 1, 2, 1, 1, 1, 1, 3, 1, 3, 3, 3, 1, 1, 3, 1].getD k 0 else if k < 56 then 2 else 1
def ulen (k : Nat) : Nat := if k < 48 then [0, 0, 0, 0, 0, 0, 8, 8, 8, 8, 8, 8, 8, 60, 60, 60, 60, 60, 60, 5, 5, 60, 60, 60, 200, 200, 10, 10, 200, 8, 8, 8, 8, 16, 60, 60, 60, 60, 1200, 60, 60, 60, 60, 60, 60, 200, 10, 6000].getD k 0 else if k < 56 then 30 else if k < 116 then 20 else if k < 176 then 8 else 10
def ubase (k : Nat) : Nat := if k = 12 then 48 else if k = 17 then 56 else if k = 18 then 116 else if k = 27 then 176 else 0
def uci (k : Nat) : Nat := [4, 2, 3, 1, 0, 5].getD k 0
def ufs (g : uG) (k : Nat) (a : Nat → Int32) (b : Nat → Int64) : List Value := match k with
  | 0 => [.ref (g.2.1 1), .ref (g.2.1 2), .ref (g.2.1 3), .ref (g.2.1 4)]
  | 1 => [.int (a 0), .long (b 1), .ref (g.2.1 6), .ref (g.2.1 7), .ref (g.2.1 8), .ref (g.2.1 9), .ref (g.2.1 10), .ref (g.2.1 11), .ref (g.2.1 12)]
  | 2 => [.int (a 0), .int (a 1), .ref (g.2.1 13), .ref (g.2.1 14), .ref (g.2.1 15), .ref (g.2.1 16), .ref (g.2.1 17), .ref (g.2.1 1), .ref (g.2.1 18), .ref (g.2.1 19), .ref (g.2.1 20), .ref (g.2.1 21)]
  | 3 => [.int (a 0), .long (b 1), .ref (g.2.1 22), .ref (g.2.1 23), .int (a 4), .int (a 5), .int (a 6), .int (a 7), .int (a 8), .int (a 9)]
  | 4 => [.int (a 0), .int (a 1), .int (a 2), .ref (g.2.1 24), .ref (g.2.1 25), .ref (g.2.1 26), .ref (g.2.1 27), .ref (g.2.1 28)]
  | 5 => [.int (a 0), .ref (g.2.1 29), .ref (g.2.1 30), .ref (g.2.1 31), .ref (g.2.1 32), .ref (g.2.1 33), .int (a 6), .ref (g.2.1 34), .ref (g.2.1 35), .ref (g.2.1 36), .ref (g.2.1 37), .ref (g.2.1 38), .ref (g.2.1 39), .int (a 13), .ref (g.2.1 40), .int (a 15), .ref (g.2.1 41), .ref (g.2.1 42), .ref (g.2.1 43), .ref (g.2.1 44), .int (a 20), .int (a 21), .int (a 22), .int (a 23), .long (b 24), .int (a 25), .int (a 26), .int (a 27), .ref (g.2.1 45), .ref (g.2.1 46), .ref (g.2.1 47)]
  | _ => []
theorem urow_48 {i : Int32} (h : vp_in i 8) : kd (48 + i.toNatClampNeg) = 2 ∧ 48 + i.toNatClampNeg < NW ∧ ulen (48 + i.toNatClampNeg) = 30 := by
  have hi : i.toNatClampNeg < 8 := Nat.not_le.mp fun q => h (Or.inr q)
  refine ⟨?_, by show _ < 186; omega, ?_⟩
  · unfold kd; (repeat rw [if_neg (by omega)]); rw [if_pos (by omega)]
  · unfold ulen; (repeat rw [if_neg (by omega)]); rw [if_pos (by omega)]
theorem urow_56 {i : Int32} (h : vp_in i 60) : kd (56 + i.toNatClampNeg) = 1 ∧ 56 + i.toNatClampNeg < NW ∧ ulen (56 + i.toNatClampNeg) = 20 := by
  have hi : i.toNatClampNeg < 60 := Nat.not_le.mp fun q => h (Or.inr q)
  refine ⟨?_, by show _ < 186; omega, ?_⟩
  · unfold kd; (repeat rw [if_neg (by omega)])
  · unfold ulen; (repeat rw [if_neg (by omega)]); rw [if_pos (by omega)]
theorem urow_116 {i : Int32} (h : vp_in i 60) : kd (116 + i.toNatClampNeg) = 1 ∧ 116 + i.toNatClampNeg < NW ∧ ulen (116 + i.toNatClampNeg) = 8 := by
  have hi : i.toNatClampNeg < 60 := Nat.not_le.mp fun q => h (Or.inr q)
  refine ⟨?_, by show _ < 186; omega, ?_⟩
  · unfold kd; (repeat rw [if_neg (by omega)])
  · unfold ulen; (repeat rw [if_neg (by omega)]); rw [if_pos (by omega)]
theorem urow_176 {i : Int32} (h : vp_in i 10) : kd (176 + i.toNatClampNeg) = 1 ∧ 176 + i.toNatClampNeg < NW ∧ ulen (176 + i.toNatClampNeg) = 10 := by
  have hi : i.toNatClampNeg < 10 := Nat.not_le.mp fun q => h (Or.inr q)
  refine ⟨?_, by show _ < 186; omega, ?_⟩
  · unfold kd; (repeat rw [if_neg (by omega)])
  · unfold ulen; (repeat rw [if_neg (by omega)])
def uNest : List Cond := [.methodLinkNest RX0 56 yX5_rest "TrialSearch", .methodLinkNest RX0 60 yX5_cut "TrialSearch", .methodLinkNest RX1 45 yX5_cut "TrialSearch", .methodLinkNest RX3 69 yX5_cut "TrialSearch"]
theorem uNest_ok : ∀ w ∈ uNest, (∃ a i x h, w = Cond.methodLinkNest a i x h) ∨ (∃ a i b n d h, w = Cond.fieldLinkNest a i b n d h) := by
  intro w hw
  simp only [uNest, List.mem_cons, List.not_mem_nil, or_false] at hw
  rcases hw with rfl | rfl | rfl | rfl <;> exact Or.inl ⟨_, _, _, _, rfl⟩
def uw (n : Nat) (ad : Nat → Nat) (E : Nat → va_E) : va_W := (List.range n).map (fun k => (ad k, E k))
theorem uw_at {n : Nat} {ad : Nat → Nat} {E : Nat → va_E} {k : Nat} (h : k < n) : (uw n ad E)[k]? = some (ad k, E k) := by
  simp [uw, List.getElem?_map, List.getElem?_range h]
theorem uw_get {n : Nat} {ad : Nat → Nat} {E : Nat → va_E} {k : Nat} {q : Nat × va_E} (h : (uw n ad E)[k]? = some q) : k < n ∧ q = (ad k, E k) := by
  by_cases hk : k < n
  · rw [uw_at hk] at h
    exact ⟨hk, (Option.some.inj h).symm⟩
  · rw [List.getElem?_eq_none (by simp [uw]; omega)] at h
    cases h
theorem uw_set {n : Nat} {ad : Nat → Nat} {E : Nat → va_E} {k : Nat} {e : va_E} (hk : k < n) : (uw n ad E).set k (ad k, e) = uw n ad (va_up E k e) := by
  apply List.ext_getElem?
  intro i
  by_cases hi : i < n
  · by_cases hik : i = k
    · subst hik
      rw [uw_at hi, List.getElem?_set_self (by simp [uw]; exact hi)]
      simp [va_up]
    · rw [uw_at hi, List.getElem?_set_ne (fun h => hik h.symm), uw_at hi]
      simp [va_up, hik]
  · rw [List.getElem?_eq_none (by simp [uw]; omega), List.getElem?_eq_none (by simp [uw]; omega)]
/-- one number of a bank changes -/
def u2 (A : SA) (k i : Nat) (x : Int32) : SA := va_up A k (upd (A k) i x)
def u2L (B : SB) (k i : Nat) (x : Int64) : SB := va_up B k (vp_updL (B k) i x)
theorem va_up_id {α : Type} (f : Nat → α) (k : Nat) : va_up f k (f k) = f := by
  funext j
  by_cases h : j = k
  · subst h; simp [va_up]
  · simp [va_up, h]
theorem u2_kk {A : SA} {k i : Nat} {x : Int32} : u2 A k i x k = upd (A k) i x := by simp [u2, va_up]
theorem u2_kn {A : SA} {k j i : Nat} {x : Int32} (h : j ≠ k) : u2 A k i x j = A j := by simp [u2, va_up, h]
theorem u2_self {A : SA} {k i : Nat} {x : Int32} : u2 A k i x k i = x := by simp [u2, va_up, upd]
theorem u2_ne {A : SA} {k i j : Nat} {x : Int32} (h : j ≠ i) : u2 A k i x k j = A k j := by simp [u2, va_up, upd, h]
theorem u2L_kk {B : SB} {k i : Nat} {x : Int64} : u2L B k i x k = vp_updL (B k) i x := by simp [u2L, va_up]
theorem u2L_kn {B : SB} {k j i : Nat} {x : Int64} (h : j ≠ k) : u2L B k i x j = B j := by simp [u2L, va_up, h]
theorem u2L_self {B : SB} {k i : Nat} {x : Int64} : u2L B k i x k i = x := by simp [u2L, va_up, vp_updL]
theorem u2L_ne {B : SB} {k i j : Nat} {x : Int64} (h : j ≠ i) : u2L B k i x k j = B k j := by simp [u2L, va_up, vp_updL, h]
/-- what a cell of number k holds: kinds 1 int[], 2 long[], 3 boolean[], 4 long[][], 5 int[][], else an object -/
def sh (g : uG) (k : Nat) (a : Nat → Int32) (b : Nat → Int64) : va_E := match kd k with
  | 1 => .inl (g.2.2 0, ulen k, .inl a)
  | 2 => .inl (g.2.2 1, ulen k, .inr (.inl b))
  | 3 => .inl (g.2.2 2, ulen k, .inl a)
  | 4 => .inl (g.2.2 3, ulen k, .inr (.inr (.inr (.inr (fun i => some (g.2.1 (ubase k + i)))))))
  | 5 => .inl (g.2.2 4, ulen k, .inr (.inr (.inr (.inr (fun i => some (g.2.1 (ubase k + i)))))))
  | _ => .inr (uci k, ufs g k a b)
def us (g : uG) (A : SA) (B : SB) : Nat → va_E := fun k => sh g k (A k) (B k)
theorem us_upA (g : uG) (A : SA) (B : SB) (k : Nat) (a : Nat → Int32) : va_up (us g A B) k (sh g k a (B k)) = us g (va_up A k a) B := by
  funext j
  by_cases h : j = k
  · subst h; simp [va_up, us]
  · simp [va_up, us, h]
theorem us_upB (g : uG) (A : SA) (B : SB) (k : Nat) (b : Nat → Int64) : va_up (us g A B) k (sh g k (A k) b) = us g A (va_up B k b) := by
  funext j
  by_cases h : j = k
  · subst h; simp [va_up, us]
  · simp [va_up, us, h]
abbrev uws (g : uG) (A : SA) (B : SB) : va_W := uw NW g.2.1 (us g A B)
abbrev uT (g : uG) : List (ClassId × FieldType) := [(g.2.2 0, .int), (g.2.2 1, .long), (g.2.2 2, .boolean), (g.2.2 3, .array .long), (g.2.2 4, .array .int)]
/-- what does not change: the classes, the addresses apart, the links between nest mates -/
def UK (g : uG) (U : State) : Prop := va_K g.1 vwCl (uT g) U ∧ (∀ i j : Nat, i < NW → j < NW → g.2.1 i = g.2.1 j → i = j) ∧ ∀ w ∈ uNest, va_Nw w U
def UP (g : uG) (A : SA) (B : SB) (H : Heap) : Prop := va_P g.1 vwCl (uws g A B) H
def FA (g : uG) : Nat → Prop := fun q => ∃ k : Nat, k < NW ∧ q = g.2.1 k
def UU (g : uG) (A : SA) (B : SB) (H0 H : Heap) (locs : List Loc) : Prop := UP g A B H ∧ va_S (FA g) H0 H locs
theorem uw_D {g : uG} {U : State} (K : UK g U) (A : SA) (B : SB) : va_D (FA g) (uws g A B) := by
  refine ⟨fun i j x y hi hj e => ?_, fun k q hk => ?_⟩
  · obtain ⟨h1, e1⟩ := uw_get hi
    obtain ⟨h2, e2⟩ := uw_get hj
    subst e1; subst e2
    exact K.2.1 i j h1 h2 e
  · obtain ⟨h1, e1⟩ := uw_get hk
    subst e1
    exact ⟨k, h1, rfl⟩
theorem UK.call {g : uG} {U : State} (h : JFrame) (mk : MethodId) (a : Array Value) (K : UK g U) : UK g (U.calling h mk a) :=
  ⟨va_K.moved (u := U) (U := U.calling h mk a) (Vm.Alike.refl U.vm) K.1, K.2.1, fun w hw => by
    have h2 := K.2.2 w hw
    rcases uNest_ok w hw with ⟨a, i, x, h, rfl⟩ | ⟨a, i, b, n, d, h, rfl⟩
    · exact va_Nw.same rfl rfl h2
    · exact va_Nw.same rfl rfl h2⟩
theorem UK.warm {g : uG} {s U : State} (hW : s.WarmedH U.vm) (K : UK g s) : UK g U := by
  refine ⟨va_K.moved hW.alike K.1, K.2.1, fun w hw => ?_⟩
  rcases uNest_ok w hw with ⟨a, i, x, h, rfl⟩ | ⟨a, i, b, n, d, h, rfl⟩
  · exact va_Nw.warmM hW (K.2.2 _ hw)
  · exact va_Nw.warmF hW (K.2.2 _ hw)
/-- the contracts: an answer that is an int (or a boolean), a long, none -/
abbrev uPc (g : uG) (A : SA) (B : SB) (av : List Value) : Array Value → State → Prop := va_Pc av (fun U => UP g A B U.heap ∧ UK g U)
abbrev uQi (g : uG) (Q : Int32 → SA → SB → Prop) : Array Value → State → Outcome → State → Prop := va_Qi (fun r (u : SA × SB) => Q r u.1 u.2) (fun u t => UP g u.1 u.2 t.heap) (FA g)
abbrev uQl (g : uG) (Q : Int64 → SA → SB → Prop) : Array Value → State → Outcome → State → Prop := va_Ql (fun r (u : SA × SB) => Q r u.1 u.2) (fun u t => UP g u.1 u.2 t.heap) (FA g)
abbrev uQv (g : uG) (Q : SA → SB → Prop) : Array Value → State → Outcome → State → Prop := va_Qv (fun (u : SA × SB) => Q u.1 u.2) (fun u t => UP g u.1 u.2 t.heap) (FA g)
abbrev MI (l : Launch) (y : MethodName) (ws : List Cond) (rm : Room) (g : uG) (A : SA) (B : SB) (av : List Value) (Q : Int32 → SA → SB → Prop) : Prop := Met l y ws rm (uPc g A B av) (uQi g Q) 0 0 (FA g)
abbrev ML (l : Launch) (y : MethodName) (ws : List Cond) (rm : Room) (g : uG) (A : SA) (B : SB) (av : List Value) (Q : Int64 → SA → SB → Prop) : Prop := Met l y ws rm (uPc g A B av) (uQl g Q) 0 0 (FA g)
abbrev MV (l : Launch) (y : MethodName) (ws : List Cond) (rm : Room) (g : uG) (A : SA) (B : SB) (av : List Value) (Q : SA → SB → Prop) : Prop := Met l y ws rm (uPc g A B av) (uQv g Q) 0 0 (FA g)
/-- what a walk of a method's body stands on -/
def uC (p : Program) (s : State) (m : MethodId) (args : Array Value) (meth : Method) (c : Code) (cc : ByteArray) (nL : Nat) (own : String) (Ts : List Cond) (ret : Option FieldType) : Prop :=
  p.tables.exec = Jvm.exec ∧ c.code = cc ∧ c.maxLocals = nL ∧ s.vm.findClass own = some m.cls ∧ (∀ w ∈ Ts, w.before args s = true) ∧ meth.sig.returnType = ret ∧ meth.locks = false
theorem u_of {l : Launch} {y : MethodName} {ws ws' : List Cond} {rm : Room} {g : uG} {A : SA} {B : SB} {av : List Value} {Qc : Array Value → State → Outcome → State → Prop} {cc : ByteArray} {maxL : Nat} {ret : Option FieldType}
    (hy : plainName y.cls = true) (hw : ws = Cond.code y cc maxL ret :: ws') (hn : (lg_sl av).length ≤ maxL)
    (body : ∀ (p : Program) (e : Env) (s : State) (m : MethodId) (below : List Frame) (meth : Method) (c : Code) (ls : Array Slot), uC p s m av.toArray meth c cc maxL y.cls ws ret → UK g s → UU g A B s.heap s.heap [] → lv_has ls maxL (lv_args 0 av) →
      W p l e rm s m av.toArray below meth c s.heap [] 0 0 (MQ below Qc av.toArray s 0 0 (FA g)) (F0 m 0 ls [])) : Met l y ws rm (uPc g A B av) Qc 0 0 (FA g) := by
  refine Met.ofW (cc := cc) (maxL := maxL) (ret := ret) hy hw ?_
  intro p e s m args below meth c s₁ X hml hv
  obtain ⟨rfl, hP, hK⟩ := hv
  have hl := lv_entry av (n := maxL) hn
  rw [lg_entry_eq]
  exact body p e s m below meth c _ ⟨X.exec, X.bytes, hml, findClass_of_methodNamed X.named, atoms_spec (ws := ws) X.pre, X.returns, X.notSynchronized⟩ hK ⟨hP, va_S.rf⟩ hl
section URows
variable {p : Program} {l : Launch} {e : Env} {R : Room} {s : State} {m : MethodId} {args : Array Value} {below : List Frame} {meth : Method} {c : Code} {H : Heap} {locs : List Loc} {cells slots : Nat} {Q : State → Prop}
variable {cc : ByteArray} {pc : Nat} {ls : Array Slot} {rest : List Value} {g : uG} {A : SA} {B : SB}
theorem u_iald (hx : p.tables.exec = Jvm.exec) (hb : c.code = cc) (K : UK g s) (U : UU g A B s.heap H locs) {k N : Nat} (hk : kd k = 1) (hk2 : k < NW) (hlen : ulen k = N) {i : Int32} (hin : vp_in i N) {v : Int32} (hv : A k i.toNatClampNeg = v) (hdg : decode cc pc = .ok (.iaload, 1))
    (kk : W p l e R s m args below meth c H locs cells slots Q (F0 m (pc + 1) ls (.int v :: rest))) : W p l e R s m args below meth c H locs cells slots Q (F0 m pc ls (.int i :: .ref (g.2.1 k) :: rest)) :=
  by subst hlen; subst hv; exact va_iald (f := A k) (cA := g.2.2 0) (n := ulen k) hx hb K.1 U.1 k 0 (by rw [uw_at hk2]; simp [us, sh, hk]) rfl hin hdg kk
theorem u_lald (hx : p.tables.exec = Jvm.exec) (hb : c.code = cc) (K : UK g s) (U : UU g A B s.heap H locs) {k N : Nat} (hk : kd k = 2) (hk2 : k < NW) (hlen : ulen k = N) {i : Int32} (hin : vp_in i N) {v : Int64} (hv : B k i.toNatClampNeg = v) (hdg : decode cc pc = .ok (.laload, 1))
    (kk : W p l e R s m args below meth c H locs cells slots Q (F0 m (pc + 1) ls (.long v :: rest))) : W p l e R s m args below meth c H locs cells slots Q (F0 m pc ls (.int i :: .ref (g.2.1 k) :: rest)) :=
  by subst hlen; subst hv; exact va_lald (f := B k) (cA := g.2.2 1) (n := ulen k) hx hb K.1 U.1 k 1 (by rw [uw_at hk2]; simp [us, sh, hk]) rfl hin hdg kk
theorem u_zald (hx : p.tables.exec = Jvm.exec) (hb : c.code = cc) (K : UK g s) (U : UU g A B s.heap H locs) {k N : Nat} (hk : kd k = 3) (hk2 : k < NW) (hlen : ulen k = N) {i : Int32} (hin : vp_in i N) {v : Int32} (hv : A k i.toNatClampNeg = v) (hdg : decode cc pc = .ok (.baload, 1))
    (kk : W p l e R s m args below meth c H locs cells slots Q (F0 m (pc + 1) ls (.int v :: rest))) : W p l e R s m args below meth c H locs cells slots Q (F0 m pc ls (.int i :: .ref (g.2.1 k) :: rest)) :=
  by subst hlen; subst hv; exact va_zald (f := A k) (cA := g.2.2 2) (n := ulen k) hx hb K.1 U.1 k 2 (by rw [uw_at hk2]; simp [us, sh, hk]) rfl hin hdg kk
/-- a row of a two-dimensional array -/
theorem u_aald (hx : p.tables.exec = Jvm.exec) (hb : c.code = cc) (K : UK g s) (U : UU g A B s.heap H locs) {k N b : Nat} (hk : kd k = 4 ∨ kd k = 5) (hk2 : k < NW) (hlen : ulen k = N) (hu : ubase k = b) {i : Int32} (hin : vp_in i N) (hdg : decode cc pc = .ok (.aaload, 1))
    (kk : W p l e R s m args below meth c H locs cells slots Q (F0 m (pc + 1) ls (.ref (g.2.1 (b + i.toNatClampNeg)) :: rest))) : W p l e R s m args below meth c H locs cells slots Q (F0 m pc ls (.int i :: .ref (g.2.1 k) :: rest)) := by
  subst hlen; subst hu
  have hlt : i.toNatClampNeg < ulen k := Nat.not_le.mp fun q => hin (Or.inr q)
  rcases hk with hk | hk
  · have ha : (uws g A B)[k]? = some (g.2.1 k, .inl (g.2.2 3, ulen k, .inr (.inr (.inr (.inr (fun i => some (g.2.1 (ubase k + i)))))))) := by rw [uw_at hk2]; simp [us, sh, hk]
    exact W.aald (v := .ref (g.2.1 (ubase k + i.toNatClampNeg))) (ty := .array .long) hx hb (U.1 k _ ha) ((K.1.2 3 _ rfl).1 (ulen k) (fun j => .ref (g.2.1 (ubase k + j)))) rfl (fun q => by cases q) (by show ¬ (i < 0 ∨ (arrV _ _ _).slots.size ≤ _); rw [arrV_size]; exact hin) (by show (arrV _ _ _).slots[_]? = _; rw [arrV_read _ _ hlt]; rfl) rfl rfl hdg kk
  · have ha : (uws g A B)[k]? = some (g.2.1 k, .inl (g.2.2 4, ulen k, .inr (.inr (.inr (.inr (fun i => some (g.2.1 (ubase k + i)))))))) := by rw [uw_at hk2]; simp [us, sh, hk]
    exact W.aald (v := .ref (g.2.1 (ubase k + i.toNatClampNeg))) (ty := .array .int) hx hb (U.1 k _ ha) ((K.1.2 4 _ rfl).1 (ulen k) (fun j => .ref (g.2.1 (ubase k + j)))) rfl (fun q => by cases q) (by show ¬ (i < 0 ∨ (arrV _ _ _).slots.size ≤ _); rw [arrV_size]; exact hin) (by show (arrV _ _ _).slots[_]? = _; rw [arrV_read _ _ hlt]; rfl) rfl rfl hdg kk
theorem u_iast (hx : p.tables.exec = Jvm.exec) (hb : c.code = cc) (K : UK g s) (U : UU g A B s.heap H locs) {k N : Nat} (hk : kd k = 1) (hk2 : k < NW) (hlen : ulen k = N) {i x : Int32} (hin : vp_in i N) (hdg : decode cc pc = .ok (.iastore, 1))
    (kk : ∀ (H1 : Heap) (locs1 : List Loc), UU g (u2 A k i.toNatClampNeg x) B s.heap H1 locs1 → W p l e R s m args below meth c H1 locs1 cells slots Q (F0 m (pc + 1) ls rest)) : W p l e R s m args below meth c H locs cells slots Q (F0 m pc ls (.int x :: .int i :: .ref (g.2.1 k) :: rest)) := by
  subst hlen
  have e0 : ∀ a b, sh g k a b = .inl (g.2.2 0, ulen k, .inl a) := fun a b => by simp [sh, hk]
  refine va_iast (f := A k) (cA := g.2.2 0) (n := ulen k) hx hb K.1 U.1 (uw_D K A B) U.2 k 0 (by rw [uw_at hk2]; simp [us, e0]) rfl hin hdg (fun H1 locs1 hP hD hS => kk H1 locs1 ⟨?_, hS⟩)
  rw [← e0 _ (B k), uw_set hk2, us_upA] at hP
  exact hP
theorem u_zast (hx : p.tables.exec = Jvm.exec) (hb : c.code = cc) (K : UK g s) (U : UU g A B s.heap H locs) {k N : Nat} (hk : kd k = 3) (hk2 : k < NW) (hlen : ulen k = N) {i x : Int32} (hin : vp_in i N) (hdg : decode cc pc = .ok (.bastore, 1))
    (kk : ∀ (H1 : Heap) (locs1 : List Loc), UU g (u2 A k i.toNatClampNeg (vp_nar .boolean x)) B s.heap H1 locs1 → W p l e R s m args below meth c H1 locs1 cells slots Q (F0 m (pc + 1) ls rest)) : W p l e R s m args below meth c H locs cells slots Q (F0 m pc ls (.int x :: .int i :: .ref (g.2.1 k) :: rest)) := by
  subst hlen
  have e0 : ∀ a b, sh g k a b = .inl (g.2.2 2, ulen k, .inl a) := fun a b => by simp [sh, hk]
  refine va_zast (f := A k) (cA := g.2.2 2) (n := ulen k) hx hb K.1 U.1 (uw_D K A B) U.2 k 2 (by rw [uw_at hk2]; simp [us, e0]) rfl hin hdg (fun H1 locs1 hP hD hS => kk H1 locs1 ⟨?_, hS⟩)
  rw [← e0 _ (B k), uw_set hk2, us_upA] at hP
  exact hP
theorem u_last (hx : p.tables.exec = Jvm.exec) (hb : c.code = cc) (K : UK g s) (U : UU g A B s.heap H locs) {k N : Nat} (hk : kd k = 2) (hk2 : k < NW) (hlen : ulen k = N) {i : Int32} {x : Int64} (hin : vp_in i N) (hdg : decode cc pc = .ok (.lastore, 1))
    (kk : ∀ (H1 : Heap) (locs1 : List Loc), UU g A (u2L B k i.toNatClampNeg x) s.heap H1 locs1 → W p l e R s m args below meth c H1 locs1 cells slots Q (F0 m (pc + 1) ls rest)) : W p l e R s m args below meth c H locs cells slots Q (F0 m pc ls (.long x :: .int i :: .ref (g.2.1 k) :: rest)) := by
  subst hlen
  have e0 : ∀ a b, sh g k a b = .inl (g.2.2 1, ulen k, .inr (.inl b)) := fun a b => by simp [sh, hk]
  refine va_last (f := B k) (cA := g.2.2 1) (n := ulen k) hx hb K.1 U.1 (uw_D K A B) U.2 k 1 (by rw [uw_at hk2]; simp [us, e0]) rfl hin hdg (fun H1 locs1 hP hD hS => kk H1 locs1 ⟨?_, hS⟩)
  rw [← e0 (A k), uw_set hk2, us_upB] at hP
  exact hP
theorem u_alen (hx : p.tables.exec = Jvm.exec) (hb : c.code = cc) (K : UK g s) (U : UU g A B s.heap H locs) {k : Nat} (hk : kd k = 1 ∨ kd k = 2) (hk2 : k < NW) {v : Int32} (hv : nI (ulen k) = v) (hdg : decode cc pc = .ok (.arraylength, 1))
    (kk : W p l e R s m args below meth c H locs cells slots Q (F0 m (pc + 1) ls (.int v :: rest))) : W p l e R s m args below meth c H locs cells slots Q (F0 m pc ls (.ref (g.2.1 k) :: rest)) := by
  rcases hk with hk | hk
  · exact va_alen (x := (ulen k, .inl (A k))) (cA := g.2.2 0) hx hb K.1 U.1 k 0 (by rw [uw_at hk2]; simp [us, sh, hk]) rfl hv hdg kk
  · exact va_alen (x := (ulen k, .inr (.inl (B k)))) (cA := g.2.2 1) hx hb K.1 U.1 k 1 (by rw [uw_at hk2]; simp [us, sh, hk]) rfl hv hdg kk
/-- a field of an object, read -/
theorem u_get (hx : p.tables.exec = Jvm.exec) (hb : c.code = cc) {own ref C : String} {T : u_T} {N index : Nat} {Ts : List Cond} (hts : ∀ w ∈ Ts, w.before args s = true) (hin : ∀ w ∈ u_ws C T N, w ∈ Ts) (hown : s.vm.findClass own = some m.cls) (K : UK g s) (U : UU g A B s.heap H locs) (k ci : Nat) (hk2 : k < NW) {fs : List Value} (he : sh g k (A k) (B k) = .inr (ci, fs)) (hc : vwCl[ci]? = some (C, T, N)) (j : Nat) (hj : j < N) (hlink : (Cond.fieldLink own index ref (T j).2.1 (T j).2.2.1).before args s = true) (hsame : (T j).1 = ref) {v : Value} (hv : fs[j]? = some v) (hdg : decode cc pc = .ok (.getfield index, 3))
    (kk : W p l e R s m args below meth c H locs cells slots Q (F0 m (pc + 3) ls (v :: rest))) : W p l e R s m args below meth c H locs cells slots Q (F0 m pc ls (.ref (g.2.1 k) :: rest)) :=
  va_get hx hb hts hin hown K.1 U.1 k (by rw [uw_at hk2]; simp only [us]; rw [he]) hc j hj hlink (fun x h => by rw [← hsame]; exact h) hv hdg kk
/-- a field of an object, written: an int or a boolean -/
theorem u_puti (hx : p.tables.exec = Jvm.exec) (hb : c.code = cc) {own ref C : String} {T : u_T} {N index : Nat} {Ts : List Cond} (hts : ∀ w ∈ Ts, w.before args s = true) (hin : ∀ w ∈ u_ws C T N, w ∈ Ts) (ty0 : Nat → FieldType) (hty : ∀ k, k < N → parseFieldDescriptor (T k).2.2.1 = some (ty0 k)) (hnm : ∀ a, a < N → ∀ b, b < N → a ≠ b → (T a).2.1 ≠ (T b).2.1) (hown : s.vm.findClass own = some m.cls) (K : UK g s) (U : UU g A B s.heap H locs) (k ci : Nat) (hk2 : k < NW) {fs : List Value} (he : sh g k (A k) (B k) = .inr (ci, fs)) (hc : vwCl[ci]? = some (C, T, N)) (j : Nat) (hj : j < N) (hlink : (Cond.fieldLink own index ref (T j).2.1 (T j).2.2.1).before args s = true) (hsame : (T j).1 = ref) (hfin : (T j).2.2.2 = false) {ty : FieldType} {x : Int32} (hd : parseFieldDescriptor (T j).2.2.1 = some ty) (hn : narrow ty (.int x) = .int x) (hfit : fits ty (.int x) = true) (hl : j < fs.length)
    (hset : sh g k (upd (A k) j x) (B k) = .inr (ci, fs.set j (.int x))) (hdg : decode cc pc = .ok (.putfield index, 3)) (kk : ∀ (H1 : Heap) (locs1 : List Loc), UU g (u2 A k j x) B s.heap H1 locs1 → W p l e R s m args below meth c H1 locs1 cells slots Q (F0 m (pc + 3) ls rest)) : W p l e R s m args below meth c H locs cells slots Q (F0 m pc ls (.int x :: .ref (g.2.1 k) :: rest)) := by
  refine va_put hx hb hts hin ty0 hty hnm hown K.1 U.1 (uw_D K A B) U.2 k (by rw [uw_at hk2]; simp only [us]; rw [he]) hc j hj hlink (fun x h => by rw [← hsame]; exact h) hfin hd hn hfit hl hdg (fun H1 locs1 hP hD hS => kk H1 locs1 ⟨?_, hS⟩)
  rw [← hset, uw_set hk2, us_upA] at hP
  exact hP
theorem u_putl (hx : p.tables.exec = Jvm.exec) (hb : c.code = cc) {own ref C : String} {T : u_T} {N index : Nat} {Ts : List Cond} (hts : ∀ w ∈ Ts, w.before args s = true) (hin : ∀ w ∈ u_ws C T N, w ∈ Ts) (ty0 : Nat → FieldType) (hty : ∀ k, k < N → parseFieldDescriptor (T k).2.2.1 = some (ty0 k)) (hnm : ∀ a, a < N → ∀ b, b < N → a ≠ b → (T a).2.1 ≠ (T b).2.1) (hown : s.vm.findClass own = some m.cls) (K : UK g s) (U : UU g A B s.heap H locs) (k ci : Nat) (hk2 : k < NW) {fs : List Value} (he : sh g k (A k) (B k) = .inr (ci, fs)) (hc : vwCl[ci]? = some (C, T, N)) (j : Nat) (hj : j < N) (hlink : (Cond.fieldLink own index ref (T j).2.1 (T j).2.2.1).before args s = true) (hsame : (T j).1 = ref) (hfin : (T j).2.2.2 = false) {ty : FieldType} {x : Int64} (hd : parseFieldDescriptor (T j).2.2.1 = some ty) (hn : narrow ty (.long x) = .long x) (hfit : fits ty (.long x) = true) (hl : j < fs.length)
    (hset : sh g k (A k) (vp_updL (B k) j x) = .inr (ci, fs.set j (.long x))) (hdg : decode cc pc = .ok (.putfield index, 3)) (kk : ∀ (H1 : Heap) (locs1 : List Loc), UU g A (u2L B k j x) s.heap H1 locs1 → W p l e R s m args below meth c H1 locs1 cells slots Q (F0 m (pc + 3) ls rest)) : W p l e R s m args below meth c H locs cells slots Q (F0 m pc ls (.long x :: .ref (g.2.1 k) :: rest)) := by
  refine va_put hx hb hts hin ty0 hty hnm hown K.1 U.1 (uw_D K A B) U.2 k (by rw [uw_at hk2]; simp only [us]; rw [he]) hc j hj hlink (fun x h => by rw [← hsame]; exact h) hfin hd hn hfit hl hdg (fun H1 locs1 hP hD hS => kk H1 locs1 ⟨?_, hS⟩)
  rw [← hset, uw_set hk2, us_upB] at hP
  exact hP
theorem u_copyl (hx : p.tables.exec = Jvm.exec) (hb : c.code = cc) (hml : c.maxLocals = ls.size) {own : String} {index : Nat} (hown : s.vm.findClass own = some m.cls) (hlink : (Cond.methodLink own index arraycopyName).before args s = true) (hnat : (Cond.native arraycopyName).before args s = true) (hstat : (Cond.static arraycopyName).before args s = true) (hini : (Cond.initialized "java/lang/System").before args s = true)
    (K : UK g s) (U : UU g A B s.heap H locs) {k N : Nat} (hk : kd k = 2) (hk2 : k < NW) (hlen : ulen k = N) {sp dp n : Int32} (h1 : ¬ sp < 0) (h2 : ¬ dp < 0) (h3 : ¬ n < 0) (h4 : sp.toNatClampNeg + n.toNatClampNeg ≤ N) (h5 : dp.toNatClampNeg + n.toNatClampNeg ≤ N)
    (hframes : 1 ≤ R.frames) (hlocals : (rest.map fun v => v.category).sum + (nativeFrameWords "java/lang/System" "arraycopy" 5 + 11) ≤ R.locals) (hdg : decode cc pc = .ok (.invokestatic index, 3))
    (kk : ∀ (H1 : Heap) (locs1 : List Loc), UU g A (va_up B k (va_cpy (B k) (B k) sp.toNatClampNeg dp.toNatClampNeg n.toNatClampNeg)) s.heap H1 locs1 → W p l e R s m args below meth c H1 locs1 cells slots Q (F0 m (pc + 3) ls rest)) : W p l e R s m args below meth c H locs cells slots Q (F0 m pc ls (.int n :: .int dp :: .ref (g.2.1 k) :: .int sp :: .ref (g.2.1 k) :: rest)) := by
  subst hlen
  have e0 : ∀ a b, sh g k a b = .inl (g.2.2 1, ulen k, .inr (.inl b)) := fun a b => by simp [sh, hk]
  have ha : (uws g A B)[k]? = some (g.2.1 k, .inl (g.2.2 1, ulen k, .inr (.inl (B k)))) := by rw [uw_at hk2]; simp [us, e0]
  refine va_copyl (ty := .long) hx hb hml hown hlink hnat hstat hini K.1 U.1 (uw_D K A B) U.2 k k 1 1 ha ha rfl rfl rfl h1 h2 h3 h4 h5 (fun _ _ => rfl) hframes hlocals hdg (fun H1 locs1 hP hD hS => kk H1 locs1 ⟨?_, hS⟩)
  rw [← e0 (A k), uw_set hk2, us_upB] at hP
  exact hP
/-! calls -/
theorem u_preS (K : UK g s) (U : UU g A B s.heap H locs) {av : List Value} : PreS s H (uPc g A B av) av :=
  ⟨fun a V f mk q => ⟨q.1, q.2.1, q.2.2.call f mk a⟩, fun V hV hW => ⟨rfl, by rw [hV]; exact U.1, K.warm hW⟩⟩
theorem u_preV (K : UK g s) (U : UU g A B s.heap H locs) {As : List Value} (k ci : Nat) (hk2 : k < NW) {fs : List Value} (he : sh g k (A k) (B k) = .inr (ci, fs)) {C : String} {T : u_T} {N : Nat} (hc : vwCl[ci]? = some (C, T, N)) : PreV s H C (g.2.1 k) (uPc g A B (.ref (g.2.1 k) :: As)) As :=
  ⟨fun a V f mk q => ⟨q.1, q.2.1, q.2.2.call f mk a⟩, va_recv K.1 U.1 (q0 := k) hc (by rw [uw_at hk2]; simp only [us]; rw [he]), fun V hV hW => ⟨rfl, by rw [hV]; exact U.1, K.warm hW⟩⟩
variable {y : MethodName} {bytes : ByteArray} {maxL nL n index : Nat} {ret : Option FieldType} {ws Ts : List Cond} {rm : Room} {Qc : Array Value → State → Outcome → State → Prop} {own C host : String} {As st0 : List Value}
theorem u_rS (S : CallFix p m c cc nL s args Ts own) (K : UK g s) (U : UU g A B s.heap H locs) (hM : Met l y ws rm (uPc g A B As) Qc 0 0 (FA g)) (cw : CallB R s args own index y bytes maxL ret ws rm 0 0 n ∧ (Cond.static y).before args s = true)
    (hn : As.length = n) (hsize : ls.size = nL) (hst : st0 = As.reverse ++ rest) (hW : (rest.map fun v => v.category).sum ≤ 8) (hdg : decode cc pc = .ok (.invokestatic index, 3)) (hf : cells ≤ R.cells ∧ slots ≤ R.slots) :
    va_Run p l e R s m args below meth c H locs cells slots 0 0 (F0 m pc ls st0) rest (Qc As.toArray) (FA g) :=
  va_runS S hM cw (u_preS K U) rfl hn hsize hst (lv_room hW) hdg hf
theorem u_rSN (S : CallFix p m c cc nL s args Ts own) (K : UK g s) (U : UU g A B s.heap H locs) (hM : Met l y ws rm (uPc g A B As) Qc 0 0 (FA g)) (cw : va_CN R s args own index y host bytes maxL ret ws rm 0 0 n ∧ (Cond.static y).before args s = true ∧ True)
    (hn : As.length = n) (hsize : ls.size = nL) (hst : st0 = As.reverse ++ rest) (hW : (rest.map fun v => v.category).sum ≤ 8) (hdg : decode cc pc = .ok (.invokestatic index, 3)) (hf : cells ≤ R.cells ∧ slots ≤ R.slots) :
    va_Run p l e R s m args below meth c H locs cells slots 0 0 (F0 m pc ls st0) rest (Qc As.toArray) (FA g) :=
  va_runSN S hM cw (u_preS K U) rfl hn hsize hst (lv_room hW) hdg hf
theorem u_rV (S : CallFix p m c cc nL s args Ts own) (K : UK g s) (U : UU g A B s.heap H locs) (k ci : Nat) (hk2 : k < NW) {fs : List Value} (he : sh g k (A k) (B k) = .inr (ci, fs)) {T : u_T} {N : Nat} (hc : vwCl[ci]? = some (C, T, N)) (hM : Met l y ws rm (uPc g A B (.ref (g.2.1 k) :: As)) Qc 0 0 (FA g)) (cw : CallW R s args own C index y bytes maxL ret ws rm 0 0 n)
    (hn : As.length = n) (hsize : ls.size = nL) (hst : st0 = As.reverse ++ .ref (g.2.1 k) :: rest) (hW : (rest.map fun v => v.category).sum ≤ 8) (hdg : decode cc pc = .ok (.invokevirtual index, 3)) (hf : cells ≤ R.cells ∧ slots ≤ R.slots) :
    va_Run p l e R s m args below meth c H locs cells slots 0 0 (F0 m pc ls st0) rest (Qc (Value.ref (g.2.1 k) :: As).toArray) (FA g) :=
  va_runV S hM cw (u_preV K U k ci hk2 he hc) rfl hn hsize hst (lv_room hW) hdg hf
theorem u_rVN (S : CallFix p m c cc nL s args Ts own) (K : UK g s) (U : UU g A B s.heap H locs) (k ci : Nat) (hk2 : k < NW) {fs : List Value} (he : sh g k (A k) (B k) = .inr (ci, fs)) {T : u_T} {N : Nat} (hc : vwCl[ci]? = some (C, T, N)) (hM : Met l y ws rm (uPc g A B (.ref (g.2.1 k) :: As)) Qc 0 0 (FA g)) (cw : va_CN R s args own index y host bytes maxL ret ws rm 0 0 n ∧ (Cond.instanceMethod y).before args s = true ∧ (Cond.selects C y y).before args s = true)
    (hn : As.length = n) (hsize : ls.size = nL) (hst : st0 = As.reverse ++ .ref (g.2.1 k) :: rest) (hW : (rest.map fun v => v.category).sum ≤ 8) (hdg : decode cc pc = .ok (.invokevirtual index, 3)) (hf : cells ≤ R.cells ∧ slots ≤ R.slots) :
    va_Run p l e R s m args below meth c H locs cells slots 0 0 (F0 m pc ls st0) rest (Qc (Value.ref (g.2.1 k) :: As).toArray) (FA g) :=
  va_runVN S hM cw (u_preV K U k ci hk2 he hc) rfl hn hsize hst (lv_room hW) hdg hf
theorem u_ci {a : Array Value} {Q0 : Int32 → SA → SB → Prop} (hr : va_Run p l e R s m args below meth c H locs cells slots 0 0 (F0 m pc ls st0) rest (uQi g Q0 a) (FA g)) (U : UU g A B s.heap H locs)
    (kk : ∀ (r : Int32) (A1 : SA) (B1 : SB) (H1 : Heap) (locs1 : List Loc), UU g A1 B1 s.heap H1 locs1 → Q0 r A1 B1 → W p l e R s m args below meth c H1 locs1 cells slots Q (F0 m (pc + 3) ls (.int r :: rest))) : W p l e R s m args below meth c H locs cells slots Q (F0 m pc ls st0) :=
  va_calli hr U.2 (fun _ _ h => h) (fun _ h => h) (fun r u t H1 locs1 ht hvm hq hB hz hk hS => kk r u.1 u.2 H1 locs1 ⟨by rw [← ht]; exact hB, hS⟩ hq)
theorem u_cl {a : Array Value} {Q0 : Int64 → SA → SB → Prop} (hr : va_Run p l e R s m args below meth c H locs cells slots 0 0 (F0 m pc ls st0) rest (uQl g Q0 a) (FA g)) (U : UU g A B s.heap H locs)
    (kk : ∀ (r : Int64) (A1 : SA) (B1 : SB) (H1 : Heap) (locs1 : List Loc), UU g A1 B1 s.heap H1 locs1 → Q0 r A1 B1 → W p l e R s m args below meth c H1 locs1 cells slots Q (F0 m (pc + 3) ls (.long r :: rest))) : W p l e R s m args below meth c H locs cells slots Q (F0 m pc ls st0) :=
  va_calll hr U.2 (fun _ _ h => h) (fun _ h => h) (fun r u t H1 locs1 ht hvm hq hB hz hk hS => kk r u.1 u.2 H1 locs1 ⟨by rw [← ht]; exact hB, hS⟩ hq)
theorem u_cv {a : Array Value} {Q0 : SA → SB → Prop} (hr : va_Run p l e R s m args below meth c H locs cells slots 0 0 (F0 m pc ls st0) rest (uQv g Q0 a) (FA g)) (U : UU g A B s.heap H locs)
    (kk : ∀ (A1 : SA) (B1 : SB) (H1 : Heap) (locs1 : List Loc), UU g A1 B1 s.heap H1 locs1 → Q0 A1 B1 → W p l e R s m args below meth c H1 locs1 cells slots Q (F0 m (pc + 3) ls rest)) : W p l e R s m args below meth c H locs cells slots Q (F0 m pc ls st0) :=
  va_callv hr U.2 (fun _ _ h => h) (fun _ h => h) (fun u t H1 locs1 ht hvm hq hB hz hk hS => kk u.1 u.2 H1 locs1 ⟨by rw [← ht]; exact hB, hS⟩ hq)
/-! ends -/
theorem u_iret {Q0 : Int32 → SA → SB → Prop} {v : Int32} (hx : p.tables.exec = Jvm.exec) (hb : c.code = cc) (hr : meth.sig.returnType = some .int) (hlocks : meth.locks = false) (U : UU g A B s.heap H locs) (hq : Q0 v A B) (hdg : decode cc pc = .ok (.ireturn, 1)) :
    W p l e R s m args below meth c H locs 0 0 (MQ below (uQi g Q0) args s 0 0 (FA g)) (F0 m pc ls [.int v]) :=
  W.iret hx hb hr (fun t ht hW => ⟨⟨v, (A, B), rfl, hq, by show UP g A B t.heap; rw [ht]; exact U.1⟩, U.2.F ht⟩) U.2.2.2 hdg hlocks
theorem u_zret {Q0 : Int32 → SA → SB → Prop} {v : Int32} (hx : p.tables.exec = Jvm.exec) (hb : c.code = cc) (hr : meth.sig.returnType = some .boolean) (hlocks : meth.locks = false) (U : UU g A B s.heap H locs) (hn : narrow .boolean (.int v) = .int v) (hq : Q0 v A B) (hdg : decode cc pc = .ok (.ireturn, 1)) :
    W p l e R s m args below meth c H locs 0 0 (MQ below (uQi g Q0) args s 0 0 (FA g)) (F0 m pc ls [.int v]) :=
  W.zret hx hb hr hn (fun t ht hW => ⟨⟨v, (A, B), rfl, hq, by show UP g A B t.heap; rw [ht]; exact U.1⟩, U.2.F ht⟩) U.2.2.2 hdg hlocks
theorem u_lret {Q0 : Int64 → SA → SB → Prop} {v : Int64} (hx : p.tables.exec = Jvm.exec) (hb : c.code = cc) (hr : meth.sig.returnType = some .long) (hlocks : meth.locks = false) (U : UU g A B s.heap H locs) (hq : Q0 v A B) (hdg : decode cc pc = .ok (.lreturn, 1)) :
    W p l e R s m args below meth c H locs 0 0 (MQ below (uQl g Q0) args s 0 0 (FA g)) (F0 m pc ls [.long v]) :=
  W.lret hx hb hr (fun t ht hW => ⟨⟨v, (A, B), rfl, hq, by show UP g A B t.heap; rw [ht]; exact U.1⟩, U.2.F ht⟩) U.2.2.2 hdg hlocks
theorem u_vret {Q0 : SA → SB → Prop} (hx : p.tables.exec = Jvm.exec) (hb : c.code = cc) (hr : meth.sig.returnType = none) (hlocks : meth.locks = false) (U : UU g A B s.heap H locs) (hq : Q0 A B) (hdg : decode cc pc = .ok (.return_, 1)) :
    W p l e R s m args below meth c H locs 0 0 (MQ below (uQv g Q0) args s 0 0 (FA g)) (F0 m pc ls []) :=
  W.vret hx hb hr (fun t ht hW => ⟨⟨(A, B), rfl, hq, by show UP g A B t.heap; rw [ht]; exact U.1⟩, U.2.F ht⟩) U.2.2.2 hdg hlocks
/-! lcmp and the branch behind it -/
theorem u_lc_eq (hx : p.tables.exec = Jvm.exec) (hb : c.code = cc) {x y : Int64} {off : Int} {tgt : Nat} (hd1 : decode cc pc = .ok (.lcmp, 1)) (hd2 : decode cc (pc + 1) = .ok (.ifCond .eq off, 3)) (ht : ((pc + 1 : Nat) : Int) + off = (tgt : Int))
    (kt : x = y → W p l e R s m args below meth c H locs cells slots Q (F0 m tgt ls rest)) (kf : ¬ x = y → W p l e R s m args below meth c H locs cells slots Q (F0 m (pc + 1 + 3) ls rest)) : W p l e R s m args below meth c H locs cells slots Q (F0 m pc ls (.long y :: .long x :: rest)) :=
  W.lcmp hx hb hd1 (lv_if_eq hx hb hd2 ht (fun h => kt ((lg_cmp_eq x y).mp h)) (fun h => kf (fun q => h ((lg_cmp_eq x y).mpr q))))
theorem u_lc_ne (hx : p.tables.exec = Jvm.exec) (hb : c.code = cc) {x y : Int64} {off : Int} {tgt : Nat} (hd1 : decode cc pc = .ok (.lcmp, 1)) (hd2 : decode cc (pc + 1) = .ok (.ifCond .ne off, 3)) (ht : ((pc + 1 : Nat) : Int) + off = (tgt : Int))
    (kt : ¬ x = y → W p l e R s m args below meth c H locs cells slots Q (F0 m tgt ls rest)) (kf : x = y → W p l e R s m args below meth c H locs cells slots Q (F0 m (pc + 1 + 3) ls rest)) : W p l e R s m args below meth c H locs cells slots Q (F0 m pc ls (.long y :: .long x :: rest)) :=
  W.lcmp hx hb hd1 (lv_if_ne hx hb hd2 ht (fun h => kt (fun q => h ((lg_cmp_eq x y).mpr q))) (fun h => kf ((lg_cmp_eq x y).mp h)))
theorem u_lc_lt (hx : p.tables.exec = Jvm.exec) (hb : c.code = cc) {x y : Int64} {off : Int} {tgt : Nat} (hd1 : decode cc pc = .ok (.lcmp, 1)) (hd2 : decode cc (pc + 1) = .ok (.ifCond .lt off, 3)) (ht : ((pc + 1 : Nat) : Int) + off = (tgt : Int))
    (kt : x < y → W p l e R s m args below meth c H locs cells slots Q (F0 m tgt ls rest)) (kf : ¬ x < y → W p l e R s m args below meth c H locs cells slots Q (F0 m (pc + 1 + 3) ls rest)) : W p l e R s m args below meth c H locs cells slots Q (F0 m pc ls (.long y :: .long x :: rest)) :=
  W.lcmp hx hb hd1 (lv_if_lt hx hb hd2 ht (fun h => kt ((lg_cmp_lt x y).mp h)) (fun h => kf (fun q => h ((lg_cmp_lt x y).mpr q))))
theorem u_lc_ge (hx : p.tables.exec = Jvm.exec) (hb : c.code = cc) {x y : Int64} {off : Int} {tgt : Nat} (hd1 : decode cc pc = .ok (.lcmp, 1)) (hd2 : decode cc (pc + 1) = .ok (.ifCond .ge off, 3)) (ht : ((pc + 1 : Nat) : Int) + off = (tgt : Int))
    (kt : y ≤ x → W p l e R s m args below meth c H locs cells slots Q (F0 m tgt ls rest)) (kf : ¬ y ≤ x → W p l e R s m args below meth c H locs cells slots Q (F0 m (pc + 1 + 3) ls rest)) : W p l e R s m args below meth c H locs cells slots Q (F0 m pc ls (.long y :: .long x :: rest)) :=
  W.lcmp hx hb hd1 (lv_if_ge hx hb hd2 ht (fun h => kt ((lg_cmp_ge x y).mp h)) (fun h => kf (fun q => h ((lg_cmp_ge x y).mpr q))))
theorem u_lc_gt (hx : p.tables.exec = Jvm.exec) (hb : c.code = cc) {x y : Int64} {off : Int} {tgt : Nat} (hd1 : decode cc pc = .ok (.lcmp, 1)) (hd2 : decode cc (pc + 1) = .ok (.ifCond .gt off, 3)) (ht : ((pc + 1 : Nat) : Int) + off = (tgt : Int))
    (kt : y < x → W p l e R s m args below meth c H locs cells slots Q (F0 m tgt ls rest)) (kf : ¬ y < x → W p l e R s m args below meth c H locs cells slots Q (F0 m (pc + 1 + 3) ls rest)) : W p l e R s m args below meth c H locs cells slots Q (F0 m pc ls (.long y :: .long x :: rest)) :=
  W.lcmp hx hb hd1 (lv_if_gt hx hb hd2 ht (fun h => kt ((lg_cmp_gt x y).mp h)) (fun h => kf (fun q => h ((lg_cmp_gt x y).mpr q))))
theorem u_lc_le (hx : p.tables.exec = Jvm.exec) (hb : c.code = cc) {x y : Int64} {off : Int} {tgt : Nat} (hd1 : decode cc pc = .ok (.lcmp, 1)) (hd2 : decode cc (pc + 1) = .ok (.ifCond .le off, 3)) (ht : ((pc + 1 : Nat) : Int) + off = (tgt : Int))
    (kt : x ≤ y → W p l e R s m args below meth c H locs cells slots Q (F0 m tgt ls rest)) (kf : ¬ x ≤ y → W p l e R s m args below meth c H locs cells slots Q (F0 m (pc + 1 + 3) ls rest)) : W p l e R s m args below meth c H locs cells slots Q (F0 m pc ls (.long y :: .long x :: rest)) :=
  W.lcmp hx hb hd1 (lv_if_le hx hb hd2 ht (fun h => kt ((lg_cmp_le x y).mp h)) (fun h => kf (fun q => h ((lg_cmp_le x y).mpr q))))
end URows
