section
-- ===== PART A: goes FIRST, ahead of the names: the tables' words, and 'selects' of the private methods out of them =====
/-- a private method of a class that the tables say can be made, by its rows of tables_1 -/
def lw_okq (q : MethodName × Nat) : Prop := (q.1.cls ≠ "java/lang/invoke/MethodHandle" ∧ q.1.cls ≠ "java/lang/invoke/VarHandle") ∧ Cond.instantiable q.1.cls q.2 ∈ tables_1 ∧ Cond.privateMethod q.1 ∈ tables_1 ∧ Cond.instanceMethod q.1 ∈ tables_1
theorem lw_p0 : lw_okq (⟨"TrialSearch$Space", "countWays", "()V"⟩, 9) := ⟨⟨by decide +kernel, by decide +kernel⟩, List.mem_of_getElem? (i := 20) (by decide +kernel), List.mem_of_getElem? (i := 221) (by decide +kernel), List.mem_of_getElem? (i := 222) (by decide +kernel)⟩
theorem lw_p1 : lw_okq (⟨"TrialSearch$Space", "sumOfWays", "(I)J"⟩, 9) := ⟨⟨by decide +kernel, by decide +kernel⟩, List.mem_of_getElem? (i := 20) (by decide +kernel), List.mem_of_getElem? (i := 228) (by decide +kernel), List.mem_of_getElem? (i := 229) (by decide +kernel)⟩
theorem lw_p2 : lw_okq (⟨"TrialSearch$Space", "hang", "(II)V"⟩, 9) := ⟨⟨by decide +kernel, by decide +kernel⟩, List.mem_of_getElem? (i := 20) (by decide +kernel), List.mem_of_getElem? (i := 232) (by decide +kernel), List.mem_of_getElem? (i := 233) (by decide +kernel)⟩
theorem lw_p3 : lw_okq (⟨"TrialSearch", "isPoint", "(J)Z"⟩, 4) := ⟨⟨by decide +kernel, by decide +kernel⟩, List.mem_of_getElem? (i := 12) (by decide +kernel), List.mem_of_getElem? (i := 247) (by decide +kernel), List.mem_of_getElem? (i := 248) (by decide +kernel)⟩
theorem lw_p4 : lw_okq (⟨"TrialSearch$Space", "isThere", "(I[I)Z"⟩, 9) := ⟨⟨by decide +kernel, by decide +kernel⟩, List.mem_of_getElem? (i := 20) (by decide +kernel), List.mem_of_getElem? (i := 255) (by decide +kernel), List.mem_of_getElem? (i := 256) (by decide +kernel)⟩
theorem lw_p5 : lw_okq (⟨"TrialSearch$Space", "apartAt", "(III)I"⟩, 9) := ⟨⟨by decide +kernel, by decide +kernel⟩, List.mem_of_getElem? (i := 20) (by decide +kernel), List.mem_of_getElem? (i := 283) (by decide +kernel), List.mem_of_getElem? (i := 284) (by decide +kernel)⟩
theorem lw_p6 : lw_okq (⟨"TrialSearch", "placeBy", "(II)J"⟩, 4) := ⟨⟨by decide +kernel, by decide +kernel⟩, List.mem_of_getElem? (i := 12) (by decide +kernel), List.mem_of_getElem? (i := 295) (by decide +kernel), List.mem_of_getElem? (i := 296) (by decide +kernel)⟩
theorem lw_p7 : lw_okq (⟨"TrialSearch$Trials", "holdNear", "(IIII)I"⟩, 12) := ⟨⟨by decide +kernel, by decide +kernel⟩, List.mem_of_getElem? (i := 64) (by decide +kernel), List.mem_of_getElem? (i := 347) (by decide +kernel), List.mem_of_getElem? (i := 348) (by decide +kernel)⟩
theorem lw_p8 : lw_okq (⟨"TrialSearch", "isTrial", "(I)Z"⟩, 4) := ⟨⟨by decide +kernel, by decide +kernel⟩, List.mem_of_getElem? (i := 12) (by decide +kernel), List.mem_of_getElem? (i := 373) (by decide +kernel), List.mem_of_getElem? (i := 374) (by decide +kernel)⟩
theorem lw_p9 : lw_okq (⟨"TrialSearch$Trials", "isBelowMiddle", "(IIII)Z"⟩, 12) := ⟨⟨by decide +kernel, by decide +kernel⟩, List.mem_of_getElem? (i := 64) (by decide +kernel), List.mem_of_getElem? (i := 395) (by decide +kernel), List.mem_of_getElem? (i := 396) (by decide +kernel)⟩
theorem lw_p10 : lw_okq (⟨"TrialSearch$Trials", "sortIn", "(II)V"⟩, 12) := ⟨⟨by decide +kernel, by decide +kernel⟩, List.mem_of_getElem? (i := 64) (by decide +kernel), List.mem_of_getElem? (i := 399) (by decide +kernel), List.mem_of_getElem? (i := 400) (by decide +kernel)⟩
theorem lw_p11 : lw_okq (⟨"TrialSearch$Rounds", "keepGreatest", "()Z"⟩, 10) := ⟨⟨by decide +kernel, by decide +kernel⟩, List.mem_of_getElem? (i := 116) (by decide +kernel), List.mem_of_getElem? (i := 464) (by decide +kernel), List.mem_of_getElem? (i := 465) (by decide +kernel)⟩
theorem lw_p12 : lw_okq (⟨"TrialSearch$Rounds", "openRound", "()V"⟩, 10) := ⟨⟨by decide +kernel, by decide +kernel⟩, List.mem_of_getElem? (i := 116) (by decide +kernel), List.mem_of_getElem? (i := 468) (by decide +kernel), List.mem_of_getElem? (i := 469) (by decide +kernel)⟩
theorem lw_p13 : lw_okq (⟨"TrialSearch$Folds", "sortIn", "(JI)V"⟩, 8) := ⟨⟨by decide +kernel, by decide +kernel⟩, List.mem_of_getElem? (i := 156) (by decide +kernel), List.mem_of_getElem? (i := 516) (by decide +kernel), List.mem_of_getElem? (i := 517) (by decide +kernel)⟩
theorem lw_p14 : lw_okq (⟨"TrialSearch", "isRow", "(I)Z"⟩, 4) := ⟨⟨by decide +kernel, by decide +kernel⟩, List.mem_of_getElem? (i := 12) (by decide +kernel), List.mem_of_getElem? (i := 529) (by decide +kernel), List.mem_of_getElem? (i := 530) (by decide +kernel)⟩
theorem lw_p15 : lw_okq (⟨"TrialSearch", "isOuter", "(I)Z"⟩, 4) := ⟨⟨by decide +kernel, by decide +kernel⟩, List.mem_of_getElem? (i := 12) (by decide +kernel), List.mem_of_getElem? (i := 537) (by decide +kernel), List.mem_of_getElem? (i := 538) (by decide +kernel)⟩
def lw_privs_1 : List (MethodName × Nat) := [(⟨"TrialSearch$Space", "countWays", "()V"⟩, 9), (⟨"TrialSearch$Space", "sumOfWays", "(I)J"⟩, 9), (⟨"TrialSearch$Space", "hang", "(II)V"⟩, 9), (⟨"TrialSearch", "isPoint", "(J)Z"⟩, 4), (⟨"TrialSearch$Space", "isThere", "(I[I)Z"⟩, 9), (⟨"TrialSearch$Space", "apartAt", "(III)I"⟩, 9), (⟨"TrialSearch", "placeBy", "(II)J"⟩, 4), (⟨"TrialSearch$Trials", "holdNear", "(IIII)I"⟩, 12), (⟨"TrialSearch", "isTrial", "(I)Z"⟩, 4), (⟨"TrialSearch$Trials", "isBelowMiddle", "(IIII)Z"⟩, 12), (⟨"TrialSearch$Trials", "sortIn", "(II)V"⟩, 12), (⟨"TrialSearch$Rounds", "keepGreatest", "()Z"⟩, 10), (⟨"TrialSearch$Rounds", "openRound", "()V"⟩, 10), (⟨"TrialSearch$Folds", "sortIn", "(JI)V"⟩, 8), (⟨"TrialSearch", "isRow", "(I)Z"⟩, 4), (⟨"TrialSearch", "isOuter", "(I)Z"⟩, 4)]
theorem lw_r1 : ∀ q ∈ lw_privs_1, lw_okq q := List.forall_mem_cons.mpr ⟨lw_p0, List.forall_mem_cons.mpr ⟨lw_p1, List.forall_mem_cons.mpr ⟨lw_p2, List.forall_mem_cons.mpr ⟨lw_p3, List.forall_mem_cons.mpr ⟨lw_p4, List.forall_mem_cons.mpr ⟨lw_p5, List.forall_mem_cons.mpr ⟨lw_p6, List.forall_mem_cons.mpr ⟨lw_p7, List.forall_mem_cons.mpr ⟨lw_p8, List.forall_mem_cons.mpr ⟨lw_p9, List.forall_mem_cons.mpr ⟨lw_p10, List.forall_mem_cons.mpr ⟨lw_p11, List.forall_mem_cons.mpr ⟨lw_p12, List.forall_mem_cons.mpr ⟨lw_p13, List.forall_mem_cons.mpr ⟨lw_p14, List.forall_mem_cons.mpr ⟨lw_p15, fun _ h => absurd h List.not_mem_nil⟩⟩⟩⟩⟩⟩⟩⟩⟩⟩⟩⟩⟩⟩⟩⟩
theorem lw_p16 : lw_okq (⟨"TrialSearchModel", "waysOf", "(II)J"⟩, 31) := ⟨⟨by decide +kernel, by decide +kernel⟩, List.mem_of_getElem? (i := 565) (by decide +kernel), List.mem_of_getElem? (i := 676) (by decide +kernel), List.mem_of_getElem? (i := 677) (by decide +kernel)⟩
theorem lw_p17 : lw_okq (⟨"TrialSearchModel", "noPoint", "(J)Z"⟩, 31) := ⟨⟨by decide +kernel, by decide +kernel⟩, List.mem_of_getElem? (i := 565) (by decide +kernel), List.mem_of_getElem? (i := 688) (by decide +kernel), List.mem_of_getElem? (i := 689) (by decide +kernel)⟩
theorem lw_p18 : lw_okq (⟨"TrialSearchModel", "find", "(IJ)V"⟩, 31) := ⟨⟨by decide +kernel, by decide +kernel⟩, List.mem_of_getElem? (i := 565) (by decide +kernel), List.mem_of_getElem? (i := 693) (by decide +kernel), List.mem_of_getElem? (i := 694) (by decide +kernel)⟩
theorem lw_p19 : lw_okq (⟨"TrialSearchModel", "isThere", "(II)Z"⟩, 31) := ⟨⟨by decide +kernel, by decide +kernel⟩, List.mem_of_getElem? (i := 565) (by decide +kernel), List.mem_of_getElem? (i := 697) (by decide +kernel), List.mem_of_getElem? (i := 698) (by decide +kernel)⟩
theorem lw_p20 : lw_okq (⟨"TrialSearchModel", "behind", "(II)J"⟩, 31) := ⟨⟨by decide +kernel, by decide +kernel⟩, List.mem_of_getElem? (i := 565) (by decide +kernel), List.mem_of_getElem? (i := 701) (by decide +kernel), List.mem_of_getElem? (i := 702) (by decide +kernel)⟩
theorem lw_p21 : lw_okq (⟨"TrialSearchModel", "numberOf", "()J"⟩, 31) := ⟨⟨by decide +kernel, by decide +kernel⟩, List.mem_of_getElem? (i := 565) (by decide +kernel), List.mem_of_getElem? (i := 711) (by decide +kernel), List.mem_of_getElem? (i := 712) (by decide +kernel)⟩
theorem lw_p22 : lw_okq (⟨"TrialSearchModel", "distanceOf", "(JJ)I"⟩, 31) := ⟨⟨by decide +kernel, by decide +kernel⟩, List.mem_of_getElem? (i := 565) (by decide +kernel), List.mem_of_getElem? (i := 719) (by decide +kernel), List.mem_of_getElem? (i := 720) (by decide +kernel)⟩
theorem lw_p23 : lw_okq (⟨"TrialSearchModel", "add", "(J)I"⟩, 31) := ⟨⟨by decide +kernel, by decide +kernel⟩, List.mem_of_getElem? (i := 565) (by decide +kernel), List.mem_of_getElem? (i := 738) (by decide +kernel), List.mem_of_getElem? (i := 739) (by decide +kernel)⟩
theorem lw_p24 : lw_okq (⟨"TrialSearchModel", "near", "(JI)J"⟩, 31) := ⟨⟨by decide +kernel, by decide +kernel⟩, List.mem_of_getElem? (i := 565) (by decide +kernel), List.mem_of_getElem? (i := 748) (by decide +kernel), List.mem_of_getElem? (i := 749) (by decide +kernel)⟩
theorem lw_p25 : lw_okq (⟨"TrialSearchModel", "noTrial", "(I)Z"⟩, 31) := ⟨⟨by decide +kernel, by decide +kernel⟩, List.mem_of_getElem? (i := 565) (by decide +kernel), List.mem_of_getElem? (i := 765) (by decide +kernel), List.mem_of_getElem? (i := 766) (by decide +kernel)⟩
theorem lw_p26 : lw_okq (⟨"TrialSearchModel", "prunes", "(IIII)Z"⟩, 31) := ⟨⟨by decide +kernel, by decide +kernel⟩, List.mem_of_getElem? (i := 565) (by decide +kernel), List.mem_of_getElem? (i := 779) (by decide +kernel), List.mem_of_getElem? (i := 780) (by decide +kernel)⟩
theorem lw_p27 : lw_okq (⟨"TrialSearchModel", "clear", "(I)V"⟩, 31) := ⟨⟨by decide +kernel, by decide +kernel⟩, List.mem_of_getElem? (i := 565) (by decide +kernel), List.mem_of_getElem? (i := 804) (by decide +kernel), List.mem_of_getElem? (i := 805) (by decide +kernel)⟩
theorem lw_p28 : lw_okq (⟨"TrialSearchModel", "open", "()I"⟩, 31) := ⟨⟨by decide +kernel, by decide +kernel⟩, List.mem_of_getElem? (i := 565) (by decide +kernel), List.mem_of_getElem? (i := 812) (by decide +kernel), List.mem_of_getElem? (i := 813) (by decide +kernel)⟩
theorem lw_p29 : lw_okq (⟨"TrialSearchModel", "inside", "()I"⟩, 31) := ⟨⟨by decide +kernel, by decide +kernel⟩, List.mem_of_getElem? (i := 565) (by decide +kernel), List.mem_of_getElem? (i := 820) (by decide +kernel), List.mem_of_getElem? (i := 821) (by decide +kernel)⟩
theorem lw_p30 : lw_okq (⟨"TrialSearchModel", "outerOf", "(I)I"⟩, 31) := ⟨⟨by decide +kernel, by decide +kernel⟩, List.mem_of_getElem? (i := 565) (by decide +kernel), List.mem_of_getElem? (i := 849) (by decide +kernel), List.mem_of_getElem? (i := 850) (by decide +kernel)⟩
theorem lw_p31 : lw_okq (⟨"TrialSearchModel", "innerOf", "(I)I"⟩, 31) := ⟨⟨by decide +kernel, by decide +kernel⟩, List.mem_of_getElem? (i := 565) (by decide +kernel), List.mem_of_getElem? (i := 853) (by decide +kernel), List.mem_of_getElem? (i := 854) (by decide +kernel)⟩
def lw_privs_2 : List (MethodName × Nat) := [(⟨"TrialSearchModel", "waysOf", "(II)J"⟩, 31), (⟨"TrialSearchModel", "noPoint", "(J)Z"⟩, 31), (⟨"TrialSearchModel", "find", "(IJ)V"⟩, 31), (⟨"TrialSearchModel", "isThere", "(II)Z"⟩, 31), (⟨"TrialSearchModel", "behind", "(II)J"⟩, 31), (⟨"TrialSearchModel", "numberOf", "()J"⟩, 31), (⟨"TrialSearchModel", "distanceOf", "(JJ)I"⟩, 31), (⟨"TrialSearchModel", "add", "(J)I"⟩, 31), (⟨"TrialSearchModel", "near", "(JI)J"⟩, 31), (⟨"TrialSearchModel", "noTrial", "(I)Z"⟩, 31), (⟨"TrialSearchModel", "prunes", "(IIII)Z"⟩, 31), (⟨"TrialSearchModel", "clear", "(I)V"⟩, 31), (⟨"TrialSearchModel", "open", "()I"⟩, 31), (⟨"TrialSearchModel", "inside", "()I"⟩, 31), (⟨"TrialSearchModel", "outerOf", "(I)I"⟩, 31), (⟨"TrialSearchModel", "innerOf", "(I)I"⟩, 31)]
theorem lw_r2 : ∀ q ∈ lw_privs_2, lw_okq q := List.forall_mem_cons.mpr ⟨lw_p16, List.forall_mem_cons.mpr ⟨lw_p17, List.forall_mem_cons.mpr ⟨lw_p18, List.forall_mem_cons.mpr ⟨lw_p19, List.forall_mem_cons.mpr ⟨lw_p20, List.forall_mem_cons.mpr ⟨lw_p21, List.forall_mem_cons.mpr ⟨lw_p22, List.forall_mem_cons.mpr ⟨lw_p23, List.forall_mem_cons.mpr ⟨lw_p24, List.forall_mem_cons.mpr ⟨lw_p25, List.forall_mem_cons.mpr ⟨lw_p26, List.forall_mem_cons.mpr ⟨lw_p27, List.forall_mem_cons.mpr ⟨lw_p28, List.forall_mem_cons.mpr ⟨lw_p29, List.forall_mem_cons.mpr ⟨lw_p30, List.forall_mem_cons.mpr ⟨lw_p31, fun _ h => absurd h List.not_mem_nil⟩⟩⟩⟩⟩⟩⟩⟩⟩⟩⟩⟩⟩⟩⟩⟩
def lw_privs : List (MethodName × Nat) := lw_privs_1 ++ (lw_privs_2)
def lw_tbl : List Cond := k2_sels lw_privs ++ tables_1
theorem lw_privs_ok : ∀ q ∈ lw_privs, lw_okq q := by
  show ∀ q ∈ lw_privs_1 ++ (lw_privs_2), lw_okq q
  exact List.forall_mem_append.mpr ⟨lw_r1, lw_r2⟩
-- ===== end of PART A; then your names; then what follows =====
end
section
/-! ===== BEGIN words of one list among another's, by their places ===== -/
theorem goodIn_r {big : List Cond} (ws : List Cond) (ps : List Nat) (hp : ws = ps.filterMap (fun i => big[i]?)) (h : ws.all goodWord = true) : GoodIn big ws := by
  intro w hw
  have h1 := List.all_eq_true.mp h w hw
  rw [hp] at hw
  obtain ⟨i, -, hi⟩ := List.mem_filterMap.mp hw
  have hm : w ∈ big := by first | exact List.mem_of_getElem? hi | exact List.getElem?_mem hi
  exact ⟨hm, good_of_word h1⟩
theorem goodIn_app {big a b : List Cond} (ha : GoodIn big a) (hb : GoodIn big b) : GoodIn big (a ++ b) := fun w h => (List.mem_append.mp h).elim (ha w) (hb w)
theorem goodIn_ca {big a b : List Cond} {c : Cond} (ha : GoodIn big (c :: a)) (hb : GoodIn big b) : GoodIn big (c :: (a ++ b)) := fun w h => (List.mem_cons.mp h).elim (fun e => ha w (List.mem_cons.mpr (Or.inl e))) (fun h => (List.mem_append.mp h).elim (fun h => ha w (List.mem_cons.mpr (Or.inr h))) (hb w))
theorem goodIn_sub {big ws : List Cond} (hm : ∀ w ∈ ws, w ∈ big) (h : ws.all goodWord = true) : GoodIn big ws := fun w hw => ⟨hm w hw, good_of_word (List.all_eq_true.mp h w hw)⟩
/-! ===== END ===== -/

/-! ===== BEGIN new T[n][m]: the outer array a place, the inner ones among the pooled ===== -/
/-- f, but v at every address of l -/
def vr_up {α : Type} (f : Nat → α) (l : List Nat) (v : α) : Nat → α := fun a => if a ∈ l then v else f a
theorem vr_up_in {α : Type} {f : Nat → α} {l : List Nat} {v : α} {a : Nat} (h : a ∈ l) : vr_up f l v a = v := if_pos h
theorem vr_up_ne {α : Type} {f : Nat → α} {l : List Nat} {v : α} {a : Nat} (h : a ∉ l) : vr_up f l v a = f a := if_neg h
theorem vr_rows {L l : List Nat} {f : Nat → va_E} {e : va_E} (h : ∀ a, a ∈ l → a ∉ L) : va_pl L f ++ l.map (fun a => (a, e)) = va_pl (L ++ l) (vr_up f l e) := by
  unfold va_pl
  rw [List.map_append]
  congr 1
  · apply List.map_congr_left
    intro a ha
    rw [vr_up_ne (fun q => h a q ha)]
  · apply List.map_congr_left
    intro a ha
    rw [vr_up_in ha]
theorem vr_lay {X rows : va_W} {x : Nat × va_E} {pl : va_W} {D : va_G} {cl : List vw_C} {H : Heap} (hP : va_P D cl (((X ++ pl) ++ [x]) ++ rows) H) : va_P D cl ((X ++ [x]) ++ (pl ++ rows)) H := by
  rw [List.append_assoc (X ++ pl)] at hP
  have h := va_P.swap hP
  rw [← List.append_assoc X] at h
  have h2 := va_P.swap h
  rw [List.append_assoc (X ++ [x])] at h2
  exact h2
theorem vr_layD {X rows : va_W} {x : Nat × va_E} {pl : va_W} {A : Nat → Prop} (hD : va_D A (((X ++ pl) ++ [x]) ++ rows)) : va_D A ((X ++ [x]) ++ (pl ++ rows)) := by
  rw [List.append_assoc (X ++ pl)] at hD
  have h := va_D.swap hD
  rw [← List.append_assoc X] at h
  have h2 := va_D.swap h
  rw [List.append_assoc (X ++ [x])] at h2
  exact h2
theorem vr_outer (c : ClassId) (N h0 : Nat) : ∀ i : Nat, Jvm.Free.Multi.outerC c N h0 i = arrV c N (fun j => va_rf (if j < i then some (h0 + 1 + j) else none))
  | 0 => by
    show ({ cls := c, slots := Array.replicate N .null, vm := .none } : Cell) = _
    rw [arrV_new]
    refine congrArg (arrV c N) (funext fun j => ?_)
    simp [va_rf]
  | i + 1 => by
    show (Jvm.Free.Multi.outerC c N h0 i).setSlot i (.ref (h0 + 1 + i)) = _
    rw [vr_outer c N h0 i, arrV_store]
    refine congrArg (arrV c N) (funext fun j => ?_)
    by_cases e : j = i
    · subst e
      simp [updV, va_rf]
    · by_cases h : j < i
      · simp [updV, e, h, Nat.lt_succ_of_lt h]
      · simp [updV, e, h, show ¬ j < i + 1 by omega]
section VGM
variable {p : Program} {l : Launch} {e : Env} {R : Room} {s : State} {m : MethodId} {args : Array Value} {below : List Frame} {meth : Method} {c : Code} {H : Heap} {locs : List Loc} {cells slots : Nat} {Q : State → Prop}
variable {cc : ByteArray} {pc : Nat} {ls : Array Slot} {rest : List Value} {D : va_G} {cl : List vw_C} {A : Nat → Prop} {a : Nat} {tys : List (ClassId × FieldType)} {ws : va_W} {H0 : Heap}
theorem va_mna {X : va_W} {L : List Nat} {f : Nat → va_E} {cc : ByteArray} (hexec : p.tables.exec = Jvm.exec) (hb : c.code = cc) {own : String} {index : Nat} {ty : FieldType} {cy : ClassId} (hown : s.vm.findClass own = some m.cls) (hclink : (Cond.classLink own index ("[" ++ (FieldType.array ty).toString)).before args s = true) (hover : va_AOA ty s) (harr : (Cond.arrayClass ty).before args s = true) (hcy : s.vm.findClass (FieldType.array ty).toString = some cy)
    (hK : va_K D cl tys s) (hP : va_P D cl (X ++ va_pl L f) H) (hD : va_D A (X ++ va_pl L f)) (hS : va_S A H0 H locs) (hA : ∀ q, H0.size ≤ q → A q) {n k : Int32} {N' K' : Nat} {z : vp_A} (hn : ¬ n < 0) (hk : ¬ k < 0) (hN : n.toNatClampNeg = N') (hM : k.toNatClampNeg = K')
    (hb1 : N' * 4 ≤ 536870912) (hb2 : K' * componentBytes ty ≤ 536870912) (hb3 : K' ≤ 536870912) (hdf : fits ty (defaultValue ty) = true) (hdd : (defaultValue ty).isDefault = true) (hcells : cells + (1 + N') ≤ R.cells) (hslots : slots + (N' + N' * K') ≤ R.slots) (hz : ∀ c : ClassId, Jvm.Free.Multi.innerC c K' (defaultValue ty) = vp_cell c z) (hdg : decode cc pc = .ok (.multianewarray index 2, 4))
    (kk : ∀ (q : Nat) (r : Nat → Nat) (cA : ClassId) (H1 : Heap), (∀ i j : Nat, i < N' → j < N' → r i = r j → i = j) → (∀ i : Nat, i < N' → r i ∉ L) → va_K D cl (tys ++ [(cA, .array ty)]) s →
      va_P D cl ((X ++ [(q, .inl (cA, N', .inr (.inr (.inr (.inr (fun i => if i < N' then some (r i) else none))))))]) ++ va_pl (L ++ (List.range N').map r) (vr_up f ((List.range N').map r) (.inl (cy, z)))) H1 → va_D A ((X ++ [(q, .inl (cA, N', .inr (.inr (.inr (.inr (fun i => if i < N' then some (r i) else none))))))]) ++ va_pl (L ++ (List.range N').map r) (vr_up f ((List.range N').map r) (.inl (cy, z)))) → va_S A H0 H1 locs →
      W p l e R s m args below meth c H1 locs (cells + 1 + N') (slots + N' + N' * K') Q (F0 m (pc + 4) ls (.ref q :: rest))) : W p l e R s m args below meth c H locs cells slots Q (F0 m pc ls (.int k :: .int n :: rest)) := by
  subst hN
  subst hM
  intro T hT Xs
  obtain ⟨vm₁, cA, comp, -, fA, fC, hO, -, X', step⟩ := Xs.multianewarray2F hexec hown hclink (va_AOA.use hover) harr (g := F0 m pc ls (.int k :: .int n :: rest)) rfl (by rw [hb]; exact hdg) rfl hn hk hb1 hb2 hb3 hdf hdd hcells hslots
  have ec : some cy = some comp := hcy.symm.trans fC
  cases ec
  generalize hF : Jvm.Free.Multi.fill (T.setVm vm₁) cA cy n.toNatClampNeg k.toNatClampNeg (defaultValue ty) n.toNatClampNeg = F at X' step
  have hTh : (T.setVm vm₁).heap = H := hT
  obtain ⟨f1, f2, -, -⟩ := Jvm.Free.Multi.fill_facts (T.setVm vm₁) cA cy n.toNatClampNeg k.toNatClampNeg (defaultValue ty) n.toNatClampNeg
  rw [hF, hTh] at f1 f2
  have hold : ∀ x : Nat, x < H.size → F.heap[x]? = H[x]? := fun x hx => by
    have := Jvm.Free.Multi.fill_old (T.setVm vm₁) cA cy n.toNatClampNeg k.toNatClampNeg (defaultValue ty) (a := x) (by rw [hTh]; exact hx) n.toNatClampNeg
    rw [hF, hTh] at this
    exact this
  have hrow : ∀ j : Nat, j < n.toNatClampNeg → F.heap[H.size + 1 + j]? = some (vp_cell cy z) := fun j hj => by
    have := Jvm.Free.Multi.fill_inner (T.setVm vm₁) cA cy n.toNatClampNeg k.toNatClampNeg (defaultValue ty) n.toNatClampNeg j hj
    rw [hF, hTh, hz] at this
    exact this
  have hout : Jvm.Free.Multi.outerC cA n.toNatClampNeg H.size n.toNatClampNeg = vp_cell cA (n.toNatClampNeg, .inr (.inr (.inr (.inr (fun i => if i < n.toNatClampNeg then some (H.size + 1 + i) else none))))) := by
    rw [vp_cell_q]
    exact vr_outer cA n.toNatClampNeg H.size n.toNatClampNeg
  rw [hout] at f2
  have hlt : ∀ a, a ∈ L → a < H.size := fun a ha => by
    obtain ⟨k9, hk9⟩ := va_pl_get (X := X) (f := f) ha
    exact (hP k9 _ hk9).lt
  have hnl : ∀ i : Nat, i < n.toNatClampNeg → H.size + 1 + i ∉ L := fun i _ h => by
    have := hlt _ h
    omega
  have hnm : ∀ a, a ∈ (List.range n.toNatClampNeg).map (fun i => H.size + 1 + i) → a ∉ L := fun a ha h => by
    obtain ⟨i, -, rfl⟩ := List.mem_map.mp ha
    have := hlt _ h
    omega
  have hP0 : va_P D cl (X ++ va_pl L f) F.heap := hP.kept (fun k9 x hx => hold x.1 ((hP k9 x hx).lt))
  have hP1 : va_P D cl ((X ++ va_pl L f) ++ [(H.size, .inl (cA, n.toNatClampNeg, .inr (.inr (.inr (.inr (fun i => if i < n.toNatClampNeg then some (H.size + 1 + i) else none))))))]) F.heap := hP0.app (fun k9 x hx => by
    have h0 : k9 < 1 := (List.getElem?_eq_some_iff.mp hx).1
    rw [show k9 = 0 by omega] at hx
    cases hx
    exact f2)
  have hP2 : va_P D cl (((X ++ va_pl L f) ++ [(H.size, .inl (cA, n.toNatClampNeg, .inr (.inr (.inr (.inr (fun i => if i < n.toNatClampNeg then some (H.size + 1 + i) else none))))))]) ++ ((List.range n.toNatClampNeg).map (fun i => H.size + 1 + i)).map (fun a => (a, .inl (cy, z)))) F.heap := hP1.app (fun k9 x hx => by
    obtain ⟨a, ha, rfl⟩ := List.mem_map.mp (List.mem_of_getElem? hx)
    obtain ⟨i, hi, rfl⟩ := List.mem_map.mp ha
    exact hrow i (List.mem_range.mp hi))
  have hD2 : va_D A (((X ++ va_pl L f) ++ [(H.size, .inl (cA, n.toNatClampNeg, .inr (.inr (.inr (.inr (fun i => if i < n.toNatClampNeg then some (H.size + 1 + i) else none))))))]) ++ ((List.range n.toNatClampNeg).map (fun i => H.size + 1 + i)).map (fun a => (a, .inl (cy, z)))) := by
    have hD1 := hD.push (e := .inl (cA, n.toNatClampNeg, .inr (.inr (.inr (.inr (fun i => if i < n.toNatClampNeg then some (H.size + 1 + i) else none)))))) hP rfl (hA _ hS.1)
    generalize hW1 : (X ++ va_pl L f) ++ [(H.size, .inl (cA, n.toNatClampNeg, .inr (.inr (.inr (.inr (fun i => if i < n.toNatClampNeg then some (H.size + 1 + i) else none))))))] = W1 at hD1 hP1 ⊢
    have hle : ∀ (k9 : Nat) (x : Nat × va_E), W1[k9]? = some x → x.1 ≤ H.size := fun k9 x hx => by
      rw [← hW1] at hx
      by_cases hl : k9 < (X ++ va_pl L f).length
      · rw [List.getElem?_append_left hl] at hx
        exact Nat.le_of_lt ((hP k9 x hx).lt)
      · rw [List.getElem?_append_right (by omega)] at hx
        have h0 : k9 - (X ++ va_pl L f).length < 1 := (List.getElem?_eq_some_iff.mp hx).1
        rw [show k9 - (X ++ va_pl L f).length = 0 by omega] at hx
        cases hx
        exact Nat.le_refl _
    have hr : ∀ (k9 : Nat) (x : Nat × va_E), (((List.range n.toNatClampNeg).map (fun i => H.size + 1 + i)).map (fun a => ((a, .inl (cy, z)) : Nat × va_E)))[k9]? = some x → x.1 = H.size + 1 + k9 := fun k9 x hx => by
      rw [List.getElem?_map, List.getElem?_map] at hx
      by_cases h9 : k9 < n.toNatClampNeg
      · rw [List.getElem?_range h9] at hx
        cases hx
        rfl
      · have hn0 : (List.range n.toNatClampNeg)[k9]? = none := List.getElem?_eq_none (by rw [List.length_range]; omega)
        rw [hn0] at hx
        cases hx
    refine ⟨fun i j x y hi hj hxy => ?_, fun k9 x hx => ?_⟩
    · by_cases h1 : i < W1.length <;> by_cases h2 : j < W1.length
      · rw [List.getElem?_append_left h1] at hi
        rw [List.getElem?_append_left h2] at hj
        exact hD1.1 i j x y hi hj hxy
      · rw [List.getElem?_append_left h1] at hi
        rw [List.getElem?_append_right (by omega)] at hj
        have := hle _ _ hi
        have := hr _ _ hj
        omega
      · rw [List.getElem?_append_right (by omega)] at hi
        rw [List.getElem?_append_left h2] at hj
        have := hle _ _ hj
        have := hr _ _ hi
        omega
      · rw [List.getElem?_append_right (by omega)] at hi hj
        have := hr _ _ hi
        have := hr _ _ hj
        omega
    · by_cases h1 : k9 < W1.length
      · rw [List.getElem?_append_left h1] at hx
        exact hD1.2 k9 x hx
      · rw [List.getElem?_append_right (by omega)] at hx
        have := hr _ _ hx
        exact hA _ (by have := hS.1; omega)
  have hAr : ArrOfT s cA (.array ty) := fun N9 z9 => by
    obtain ⟨-, k9, hk9, cm9, hkk9⟩ := (hO 0 0 0).1
    exact ⟨(fun q hq => by cases hq), k9, hk9, cm9, hkk9⟩
  have hK2 : va_K D cl (tys ++ [(cA, .array ty)]) s := ⟨hK.1, fun k9 x hx => by
    by_cases hl : k9 < tys.length
    · rw [List.getElem?_append_left hl] at hx
      exact hK.2 k9 x hx
    · rw [List.getElem?_append_right (by omega)] at hx
      have h0 : k9 - tys.length < 1 := (List.getElem?_eq_some_iff.mp hx).1
      rw [show k9 - tys.length = 0 by omega] at hx
      cases hx
      exact ⟨hAr, fA⟩⟩
  obtain ⟨t, a1, b1⟩ := kk H.size (fun i => H.size + 1 + i) cA F.heap (fun i j _ _ h => by have h9 : H.size + 1 + i = H.size + 1 + j := h; omega) hnl hK2 (by rw [← vr_rows hnm]; exact vr_lay hP2) (by rw [← vr_rows hnm]; exact vr_layD hD2) ⟨by rw [f1]; have := hS.1; omega, fun x h1 h2 => (hold x (Nat.lt_of_lt_of_le h1 hS.1)).trans (hS.2.1 x h1 h2), hS.2.2⟩ F rfl X'
  refine ⟨t, step t ?_, b1⟩
  have e : T.heap.size = H.size := by rw [hT]
  rw [e]
  exact a1
end VGM
/-! ===== END ===== -/

/-! ===== BEGIN printed: names, fields, word lists, decode rows ===== -/
def RX0 : String := "TrialSearch$Folds"
def TX0 : u_T := fun k => match k with
  | 0 => ("TrialSearch$Folds", "rows", "I", false)
  | 1 => ("TrialSearch$Folds", "outer", "I", false)
  | 2 => ("TrialSearch$Folds", "inner", "I", false)
  | 3 => ("TrialSearch$Folds", "outerOf", "[I", true)
  | 4 => ("TrialSearch$Folds", "innerOf", "[I", true)
  | 5 => ("TrialSearch$Folds", "tested", "[I", true)
  | 6 => ("TrialSearch$Folds", "chosen", "[[I", true)
  | _ => ("TrialSearch$Folds", "order", "[J", true)
def tyX0 : Nat → FieldType := fun k => match k with
  | 0 => .int
  | 1 => .int
  | 2 => .int
  | 3 => .array .int
  | 4 => .array .int
  | 5 => .array .int
  | 6 => .array (.array .int)
  | _ => .array .long
abbrev wsX00 : List Cond := u_ws RX0 TX0 8
theorem nmX0 : ∀ a, a < 8 → ∀ b, b < 8 → a ≠ b → (TX0 a).2.1 ≠ (TX0 b).2.1 := by decide +kernel
theorem tyX0_ok : ∀ k, k < 8 → parseFieldDescriptor (TX0 k).2.2.1 = some (tyX0 k) := by decide +kernel
abbrev cX0_init : ByteArray := prog_2_method_1_code
def yX0_init : MethodName := ⟨RX0, "<init>", "()V"⟩
abbrev cX0_make : ByteArray := prog_2_method_2_code
def yX0_make : MethodName := ⟨RX0, "make", "(IIII)V"⟩
abbrev cX0_sortIn : ByteArray := prog_2_method_3_code
def yX0_sortIn : MethodName := ⟨RX0, "sortIn", "(JI)V"⟩
abbrev cX0_test : ByteArray := prog_2_method_4_code
def yX0_test : MethodName := ⟨RX0, "test", "(I)I"⟩
abbrev cX0_choose : ByteArray := prog_2_method_5_code
def yX0_choose : MethodName := ⟨RX0, "choose", "(II)I"⟩
abbrev cX0_trained : ByteArray := prog_2_method_6_code
def yX0_trained : MethodName := ⟨RX0, "trained", "(II)I"⟩
abbrev cX0_validated : ByteArray := prog_2_method_7_code
def yX0_validated : MethodName := ⟨RX0, "validated", "(II)I"⟩
abbrev cX0_testing : ByteArray := prog_2_method_8_code
def yX0_testing : MethodName := ⟨RX0, "testing", "(II)I"⟩
def RX1 : String := "TrialSearch$Rounds"
def TX1 : u_T := fun k => match k with
  | 0 => ("TrialSearch$Rounds", "started", "Z", false)
  | 1 => ("TrialSearch$Rounds", "spent", "J", false)
  | 2 => ("TrialSearch$Rounds", "marks", "[I", true)
  | 3 => ("TrialSearch$Rounds", "stands", "[I", true)
  | 4 => ("TrialSearch$Rounds", "over", "Z", false)
  | 5 => ("TrialSearch$Rounds", "in", "I", false)
  | 6 => ("TrialSearch$Rounds", "waiting", "I", false)
  | 7 => ("TrialSearch$Rounds", "halved", "I", false)
  | 8 => ("TrialSearch$Rounds", "budget", "I", false)
  | _ => ("TrialSearch$Rounds", "factor", "I", false)
def tyX1 : Nat → FieldType := fun k => match k with
  | 0 => .boolean
  | 1 => .long
  | 2 => .array .int
  | 3 => .array .int
  | 4 => .boolean
  | 5 => .int
  | 6 => .int
  | 7 => .int
  | 8 => .int
  | _ => .int
abbrev wsX10 : List Cond := u_ws RX1 TX1 10
theorem nmX1 : ∀ a, a < 10 → ∀ b, b < 10 → a ≠ b → (TX1 a).2.1 ≠ (TX1 b).2.1 := by decide +kernel
theorem tyX1_ok : ∀ k, k < 10 → parseFieldDescriptor (TX1 k).2.2.1 = some (tyX1 k) := by decide +kernel
abbrev cX1_init : ByteArray := prog_3_method_1_code
def yX1_init : MethodName := ⟨RX1, "<init>", "()V"⟩
abbrev cX1_start : ByteArray := prog_3_method_2_code
def yX1_start : MethodName := ⟨RX1, "start", "(IIII)V"⟩
abbrev cX1_isIn : ByteArray := prog_3_method_3_code
def yX1_isIn : MethodName := ⟨RX1, "isIn", "(I)Z"⟩
abbrev cX1_isWaiting : ByteArray := prog_3_method_4_code
def yX1_isWaiting : MethodName := ⟨RX1, "isWaiting", "(I)Z"⟩
abbrev cX1_mark : ByteArray := prog_3_method_5_code
def yX1_mark : MethodName := ⟨RX1, "mark", "(IIZ)I"⟩
abbrev cX1_canEnd : ByteArray := prog_3_method_6_code
def yX1_canEnd : MethodName := ⟨RX1, "canEnd", "()Z"⟩
abbrev cX1_end : ByteArray := prog_3_method_7_code
def yX1_end : MethodName := ⟨RX1, "end", "()I"⟩
abbrev cX1_keepGreatest : ByteArray := prog_3_method_8_code
def yX1_keepGreatest : MethodName := ⟨RX1, "keepGreatest", "()Z"⟩
abbrev cX1_openRound : ByteArray := prog_3_method_9_code
def yX1_openRound : MethodName := ⟨RX1, "openRound", "()V"⟩
abbrev cX1_tell : ByteArray := prog_3_method_10_code
def yX1_tell : MethodName := ⟨RX1, "tell", "(I)I"⟩
def RX2 : String := "TrialSearch$Seeds"
def TX2 : u_T := fun k => match k with
  | _ => ("", "", "", false)
def tyX2 : Nat → FieldType := fun k => match k with
  | _ => .int
abbrev wsX20 : List Cond := u_ws RX2 TX2 0
theorem nmX2 : ∀ a, a < 0 → ∀ b, b < 0 → a ≠ b → (TX2 a).2.1 ≠ (TX2 b).2.1 := by decide +kernel
theorem tyX2_ok : ∀ k, k < 0 → parseFieldDescriptor (TX2 k).2.2.1 = some (tyX2 k) := by decide +kernel
abbrev cX2_hash : ByteArray := prog_4_method_2_code
def yX2_hash : MethodName := ⟨RX2, "hash", "(II)I"⟩
abbrev cX2_pick : ByteArray := prog_4_method_3_code
def yX2_pick : MethodName := ⟨RX2, "pick", "(JI)J"⟩
abbrev cX2_twoHashes : ByteArray := prog_4_method_4_code
def yX2_twoHashes : MethodName := ⟨RX2, "twoHashes", "(II)J"⟩
abbrev cX2_bitsFor : ByteArray := prog_4_method_5_code
def yX2_bitsFor : MethodName := ⟨RX2, "bitsFor", "(J)I"⟩
def RX3 : String := "TrialSearch$Space"
def TX3 : u_T := fun k => match k with
  | 0 => ("TrialSearch$Space", "names", "I", false)
  | 1 => ("TrialSearch$Space", "all", "J", false)
  | 2 => ("TrialSearch$Space", "left", "[I", true)
  | 3 => ("TrialSearch$Space", "right", "[I", true)
  | 4 => ("TrialSearch$Space", "many", "[I", true)
  | 5 => ("TrialSearch$Space", "on", "[I", true)
  | 6 => ("TrialSearch$Space", "set", "[I", true)
  | 7 => ("TrialSearch$Space", "ways", "[J", true)
  | _ => ("TrialSearch$Space", "waysBelow", "[[J", true)
def tyX3 : Nat → FieldType := fun k => match k with
  | 0 => .int
  | 1 => .long
  | 2 => .array .int
  | 3 => .array .int
  | 4 => .array .int
  | 5 => .array .int
  | 6 => .array .int
  | 7 => .array .long
  | _ => .array (.array .long)
abbrev wsX30 : List Cond := u_ws RX3 TX3 9
theorem nmX3 : ∀ a, a < 9 → ∀ b, b < 9 → a ≠ b → (TX3 a).2.1 ≠ (TX3 b).2.1 := by decide +kernel
theorem tyX3_ok : ∀ k, k < 9 → parseFieldDescriptor (TX3 k).2.2.1 = some (tyX3 k) := by decide +kernel
abbrev cX3_init : ByteArray := prog_5_method_1_code
def yX3_init : MethodName := ⟨RX3, "<init>", "()V"⟩
abbrev cX3_add : ByteArray := prog_5_method_2_code
def yX3_add : MethodName := ⟨RX3, "add", "(III)I"⟩
abbrev cX3_countWays : ByteArray := prog_5_method_3_code
def yX3_countWays : MethodName := ⟨RX3, "countWays", "()V"⟩
abbrev cX3_sumOfWays : ByteArray := prog_5_method_4_code
def yX3_sumOfWays : MethodName := ⟨RX3, "sumOfWays", "(I)J"⟩
abbrev cX3_hang : ByteArray := prog_5_method_5_code
def yX3_hang : MethodName := ⟨RX3, "hang", "(II)V"⟩
abbrev cX3_hasBit : ByteArray := prog_5_method_6_code
def yX3_hasBit : MethodName := ⟨RX3, "hasBit", "(II)Z"⟩
abbrev cX3_isThere : ByteArray := prog_5_method_7_code
def yX3_isThere : MethodName := ⟨RX3, "isThere", "(I[I)Z"⟩
abbrev cX3_read : ByteArray := prog_5_method_8_code
def yX3_read : MethodName := ⟨RX3, "read", "(J[I)V"⟩
abbrev cX3_place : ByteArray := prog_5_method_9_code
def yX3_place : MethodName := ⟨RX3, "place", "([I)J"⟩
abbrev cX3_takeBits : ByteArray := prog_5_method_10_code
def yX3_takeBits : MethodName := ⟨RX3, "takeBits", "(J[I)Z"⟩
abbrev cX3_pickEach : ByteArray := prog_5_method_11_code
def yX3_pickEach : MethodName := ⟨RX3, "pickEach", "(I[I)V"⟩
abbrev cX3_apart : ByteArray := prog_5_method_12_code
def yX3_apart : MethodName := ⟨RX3, "apart", "([I[I)I"⟩
abbrev cX3_apartAt : ByteArray := prog_5_method_13_code
def yX3_apartAt : MethodName := ⟨RX3, "apartAt", "(III)I"⟩
def RX4 : String := "TrialSearch$Trials"
def TX4 : u_T := fun k => match k with
  | 0 => ("TrialSearch$Trials", "made", "I", false)
  | 1 => ("TrialSearch$Trials", "scored", "I", false)
  | 2 => ("TrialSearch$Trials", "places", "[J", true)
  | 3 => ("TrialSearch$Trials", "states", "[I", true)
  | 4 => ("TrialSearch$Trials", "scores", "[I", true)
  | 5 => ("TrialSearch$Trials", "steps", "[I", true)
  | 6 => ("TrialSearch$Trials", "reports", "[[I", true)
  | 7 => ("TrialSearch$Trials", "space", "LTrialSearch$Space;", true)
  | 8 => ("TrialSearch$Trials", "values", "[[I", true)
  | 9 => ("TrialSearch$Trials", "nearGaps", "[I", true)
  | 10 => ("TrialSearch$Trials", "nearScores", "[I", true)
  | _ => ("TrialSearch$Trials", "others", "[I", true)
def tyX4 : Nat → FieldType := fun k => match k with
  | 0 => .int
  | 1 => .int
  | 2 => .array .long
  | 3 => .array .int
  | 4 => .array .int
  | 5 => .array .int
  | 6 => .array (.array .int)
  | 7 => .object "TrialSearch$Space"
  | 8 => .array (.array .int)
  | 9 => .array .int
  | 10 => .array .int
  | _ => .array .int
abbrev wsX40 : List Cond := u_ws RX4 TX4 12
theorem nmX4 : ∀ a, a < 12 → ∀ b, b < 12 → a ≠ b → (TX4 a).2.1 ≠ (TX4 b).2.1 := by decide +kernel
theorem tyX4_ok : ∀ k, k < 12 → parseFieldDescriptor (TX4 k).2.2.1 = some (tyX4 k) := by decide +kernel
abbrev cX4_init : ByteArray := prog_6_method_1_code
def yX4_init : MethodName := ⟨RX4, "<init>", "(LTrialSearch$Space;)V"⟩
abbrev cX4_add : ByteArray := prog_6_method_2_code
def yX4_add : MethodName := ⟨RX4, "add", "(J)I"⟩
abbrev cX4_bestCandidate : ByteArray := prog_6_method_3_code
def yX4_bestCandidate : MethodName := ⟨RX4, "bestCandidate", "(III)J"⟩
abbrev cX4_nearSum : ByteArray := prog_6_method_4_code
def yX4_nearSum : MethodName := ⟨RX4, "nearSum", "(JI)J"⟩
abbrev cX4_holdNear : ByteArray := prog_6_method_5_code
def yX4_holdNear : MethodName := ⟨RX4, "holdNear", "(IIII)I"⟩
abbrev cX4_close : ByteArray := prog_6_method_6_code
def yX4_close : MethodName := ⟨RX4, "close", "(IIZ)I"⟩
abbrev cX4_addReport : ByteArray := prog_6_method_7_code
def yX4_addReport : MethodName := ⟨RX4, "addReport", "(III)I"⟩
abbrev cX4_isBelowMiddle : ByteArray := prog_6_method_8_code
def yX4_isBelowMiddle : MethodName := ⟨RX4, "isBelowMiddle", "(IIII)Z"⟩
abbrev cX4_sortIn : ByteArray := prog_6_method_9_code
def yX4_sortIn : MethodName := ⟨RX4, "sortIn", "(II)V"⟩
abbrev cX4_firstGreatest : ByteArray := prog_6_method_10_code
def yX4_firstGreatest : MethodName := ⟨RX4, "firstGreatest", "()I"⟩
def RX5 : String := "TrialSearch"
def TX5 : u_T := fun k => match k with
  | 0 => ("TrialSearch", "space", "LTrialSearch$Space;", true)
  | 1 => ("TrialSearch", "trials", "LTrialSearch$Trials;", true)
  | 2 => ("TrialSearch", "rounds", "LTrialSearch$Rounds;", true)
  | _ => ("TrialSearch", "parts", "LTrialSearch$Folds;", true)
def tyX5 : Nat → FieldType := fun k => match k with
  | 0 => .object "TrialSearch$Space"
  | 1 => .object "TrialSearch$Trials"
  | 2 => .object "TrialSearch$Rounds"
  | _ => .object "TrialSearch$Folds"
abbrev wsX50 : List Cond := u_ws RX5 TX5 4
theorem nmX5 : ∀ a, a < 4 → ∀ b, b < 4 → a ≠ b → (TX5 a).2.1 ≠ (TX5 b).2.1 := by decide +kernel
theorem tyX5_ok : ∀ k, k < 4 → parseFieldDescriptor (TX5 k).2.2.1 = some (tyX5 k) := by decide +kernel
abbrev cX5_init : ByteArray := prog_1_method_1_code
def yX5_init : MethodName := ⟨RX5, "<init>", "()V"⟩
abbrev cX5_name : ByteArray := prog_1_method_2_code
def yX5_name : MethodName := ⟨RX5, "name", "(III)I"⟩
abbrev cX5_points : ByteArray := prog_1_method_3_code
def yX5_points : MethodName := ⟨RX5, "points", "()J"⟩
abbrev cX5_value : ByteArray := prog_1_method_4_code
def yX5_value : MethodName := ⟨RX5, "value", "(JI)I"⟩
abbrev cX5_number : ByteArray := prog_1_method_5_code
def yX5_number : MethodName := ⟨RX5, "number", "(J)J"⟩
abbrev cX5_distance : ByteArray := prog_1_method_6_code
def yX5_distance : MethodName := ⟨RX5, "distance", "(JJ)I"⟩
abbrev cX5_trial : ByteArray := prog_1_method_7_code
def yX5_trial : MethodName := ⟨RX5, "trial", "(II)I"⟩
abbrev cX5_guess : ByteArray := prog_1_method_8_code
def yX5_guess : MethodName := ⟨RX5, "guess", "(III)I"⟩
abbrev cX5_forecast : ByteArray := prog_1_method_9_code
def yX5_forecast : MethodName := ⟨RX5, "forecast", "(JII)J"⟩
abbrev cX5_score : ByteArray := prog_1_method_10_code
def yX5_score : MethodName := ⟨RX5, "score", "(IIZ)I"⟩
abbrev cX5_report : ByteArray := prog_1_method_11_code
def yX5_report : MethodName := ⟨RX5, "report", "(III)I"⟩
abbrev cX5_told : ByteArray := prog_1_method_12_code
def yX5_told : MethodName := ⟨RX5, "told", "(II)I"⟩
abbrev cX5_point : ByteArray := prog_1_method_13_code
def yX5_point : MethodName := ⟨RX5, "point", "(I)J"⟩
abbrev cX5_reported : ByteArray := prog_1_method_14_code
def yX5_reported : MethodName := ⟨RX5, "reported", "(II)I"⟩
abbrev cX5_best : ByteArray := prog_1_method_15_code
def yX5_best : MethodName := ⟨RX5, "best", "()I"⟩
abbrev cX5_bracket : ByteArray := prog_1_method_16_code
def yX5_bracket : MethodName := ⟨RX5, "bracket", "(IIII)I"⟩
abbrev cX5_result : ByteArray := prog_1_method_17_code
def yX5_result : MethodName := ⟨RX5, "result", "(IIZ)I"⟩
abbrev cX5_halve : ByteArray := prog_1_method_18_code
def yX5_halve : MethodName := ⟨RX5, "halve", "()I"⟩
abbrev cX5_round : ByteArray := prog_1_method_19_code
def yX5_round : MethodName := ⟨RX5, "round", "(I)I"⟩
abbrev cX5_cost : ByteArray := prog_1_method_20_code
def yX5_cost : MethodName := ⟨RX5, "cost", "()J"⟩
abbrev cX5_plan : ByteArray := prog_1_method_21_code
def yX5_plan : MethodName := ⟨RX5, "plan", "(IIII)I"⟩
abbrev cX5_folds : ByteArray := prog_1_method_22_code
def yX5_folds : MethodName := ⟨RX5, "folds", "(IIII)I"⟩
abbrev cX5_fold : ByteArray := prog_1_method_23_code
def yX5_fold : MethodName := ⟨RX5, "fold", "(II)I"⟩
abbrev cX5_use : ByteArray := prog_1_method_24_code
def yX5_use : MethodName := ⟨RX5, "use", "(II)I"⟩
abbrev cX5_used : ByteArray := prog_1_method_25_code
def yX5_used : MethodName := ⟨RX5, "used", "(III)I"⟩
abbrev cX5_within : ByteArray := prog_1_method_26_code
def yX5_within : MethodName := ⟨RX5, "within", "(JJJ)Z"⟩
abbrev cX5_isMark : ByteArray := prog_1_method_27_code
def yX5_isMark : MethodName := ⟨RX5, "isMark", "(IZ)Z"⟩
abbrev cX5_isPoint : ByteArray := prog_1_method_28_code
def yX5_isPoint : MethodName := ⟨RX5, "isPoint", "(J)Z"⟩
abbrev cX5_isTrial : ByteArray := prog_1_method_29_code
def yX5_isTrial : MethodName := ⟨RX5, "isTrial", "(I)Z"⟩
abbrev cX5_isRow : ByteArray := prog_1_method_30_code
def yX5_isRow : MethodName := ⟨RX5, "isRow", "(I)Z"⟩
abbrev cX5_isOuter : ByteArray := prog_1_method_31_code
def yX5_isOuter : MethodName := ⟨RX5, "isOuter", "(I)Z"⟩
abbrev cX5_cut : ByteArray := prog_1_method_32_code
def yX5_cut : MethodName := ⟨RX5, "cut", "(JJ)J"⟩
abbrev cX5_rest : ByteArray := prog_1_method_33_code
def yX5_rest : MethodName := ⟨RX5, "rest", "(JJ)J"⟩
abbrev cX5_cutUp : ByteArray := prog_1_method_34_code
def yX5_cutUp : MethodName := ⟨RX5, "cutUp", "(JJ)J"⟩
abbrev cX5_commonDivisor : ByteArray := prog_1_method_35_code
def yX5_commonDivisor : MethodName := ⟨RX5, "commonDivisor", "(JJ)J"⟩
abbrev cX5_power : ByteArray := prog_1_method_36_code
def yX5_power : MethodName := ⟨RX5, "power", "(II)J"⟩
abbrev cX5_lastBracket : ByteArray := prog_1_method_37_code
def yX5_lastBracket : MethodName := ⟨RX5, "lastBracket", "(II)I"⟩
abbrev cX5_placeBy : ByteArray := prog_1_method_38_code
def yX5_placeBy : MethodName := ⟨RX5, "placeBy", "(II)J"⟩
def RX6 : String := "TrialSearchModel"
def TX6 : u_T := fun k => match k with
  | 0 => ("TrialSearchModel", "names", "I", false)
  | 1 => ("TrialSearchModel", "many", "[I", true)
  | 2 => ("TrialSearchModel", "on", "[I", true)
  | 3 => ("TrialSearchModel", "set", "[I", true)
  | 4 => ("TrialSearchModel", "ways", "[J", true)
  | 5 => ("TrialSearchModel", "values", "[I", true)
  | 6 => ("TrialSearchModel", "trials", "I", false)
  | 7 => ("TrialSearchModel", "pointOf", "[J", true)
  | 8 => ("TrialSearchModel", "state", "[I", true)
  | 9 => ("TrialSearchModel", "score", "[I", true)
  | 10 => ("TrialSearchModel", "reports", "[I", true)
  | 11 => ("TrialSearchModel", "reported", "[I", true)
  | 12 => ("TrialSearchModel", "isTaken", "[Z", true)
  | 13 => ("TrialSearchModel", "taken", "I", false)
  | 14 => ("TrialSearchModel", "far", "[I", true)
  | 15 => ("TrialSearchModel", "isBracket", "Z", false)
  | 16 => ("TrialSearchModel", "isIn", "[Z", true)
  | 17 => ("TrialSearchModel", "hasResult", "[Z", true)
  | 18 => ("TrialSearchModel", "hasFailed", "[Z", true)
  | 19 => ("TrialSearchModel", "result", "[I", true)
  | 20 => ("TrialSearchModel", "budget", "I", false)
  | 21 => ("TrialSearchModel", "factor", "I", false)
  | 22 => ("TrialSearchModel", "halved", "I", false)
  | 23 => ("TrialSearchModel", "isOver", "Z", false)
  | 24 => ("TrialSearchModel", "cost", "J", false)
  | 25 => ("TrialSearchModel", "rows", "I", false)
  | 26 => ("TrialSearchModel", "outers", "I", false)
  | 27 => ("TrialSearchModel", "inners", "I", false)
  | 28 => ("TrialSearchModel", "place", "[I", true)
  | 29 => ("TrialSearchModel", "isTested", "[Z", true)
  | _ => ("TrialSearchModel", "counts", "[I", true)
def tyX6 : Nat → FieldType := fun k => match k with
  | 0 => .int
  | 1 => .array .int
  | 2 => .array .int
  | 3 => .array .int
  | 4 => .array .long
  | 5 => .array .int
  | 6 => .int
  | 7 => .array .long
  | 8 => .array .int
  | 9 => .array .int
  | 10 => .array .int
  | 11 => .array .int
  | 12 => .array .boolean
  | 13 => .int
  | 14 => .array .int
  | 15 => .boolean
  | 16 => .array .boolean
  | 17 => .array .boolean
  | 18 => .array .boolean
  | 19 => .array .int
  | 20 => .int
  | 21 => .int
  | 22 => .int
  | 23 => .boolean
  | 24 => .long
  | 25 => .int
  | 26 => .int
  | 27 => .int
  | 28 => .array .int
  | 29 => .array .boolean
  | _ => .array .int
abbrev wsX60 : List Cond := u_ws RX6 TX6 31
theorem nmX6 : ∀ a, a < 31 → ∀ b, b < 31 → a ≠ b → (TX6 a).2.1 ≠ (TX6 b).2.1 := by decide +kernel
theorem tyX6_ok : ∀ k, k < 31 → parseFieldDescriptor (TX6 k).2.2.1 = some (tyX6 k) := by decide +kernel
abbrev cX6_hash : ByteArray := prog_8_method_1_code
def yX6_hash : MethodName := ⟨RX6, "hash", "(II)I"⟩
abbrev cX6_pick : ByteArray := prog_8_method_2_code
def yX6_pick : MethodName := ⟨RX6, "pick", "(IJ)J"⟩
abbrev cX6_in : ByteArray := prog_8_method_3_code
def yX6_in : MethodName := ⟨RX6, "in", "(JJJ)Z"⟩
abbrev cX6_init : ByteArray := prog_8_method_4_code
def yX6_init : MethodName := ⟨RX6, "<init>", "()V"⟩
abbrev cX6_name : ByteArray := prog_8_method_5_code
def yX6_name : MethodName := ⟨RX6, "name", "(III)I"⟩
abbrev cX6_waysOf : ByteArray := prog_8_method_6_code
def yX6_waysOf : MethodName := ⟨RX6, "waysOf", "(II)J"⟩
abbrev cX6_points : ByteArray := prog_8_method_7_code
def yX6_points : MethodName := ⟨RX6, "points", "()J"⟩
abbrev cX6_isThere : ByteArray := prog_8_method_8_code
def yX6_isThere : MethodName := ⟨RX6, "isThere", "(II)Z"⟩
abbrev cX6_behind : ByteArray := prog_8_method_9_code
def yX6_behind : MethodName := ⟨RX6, "behind", "(II)J"⟩
abbrev cX6_find : ByteArray := prog_8_method_10_code
def yX6_find : MethodName := ⟨RX6, "find", "(IJ)V"⟩
abbrev cX6_noPoint : ByteArray := prog_8_method_11_code
def yX6_noPoint : MethodName := ⟨RX6, "noPoint", "(J)Z"⟩
abbrev cX6_value : ByteArray := prog_8_method_12_code
def yX6_value : MethodName := ⟨RX6, "value", "(JI)I"⟩
abbrev cX6_numberOf : ByteArray := prog_8_method_13_code
def yX6_numberOf : MethodName := ⟨RX6, "numberOf", "()J"⟩
abbrev cX6_number : ByteArray := prog_8_method_14_code
def yX6_number : MethodName := ⟨RX6, "number", "(J)J"⟩
abbrev cX6_distanceOf : ByteArray := prog_8_method_15_code
def yX6_distanceOf : MethodName := ⟨RX6, "distanceOf", "(JJ)I"⟩
abbrev cX6_distance : ByteArray := prog_8_method_16_code
def yX6_distance : MethodName := ⟨RX6, "distance", "(JJ)I"⟩
abbrev cX6_add : ByteArray := prog_8_method_17_code
def yX6_add : MethodName := ⟨RX6, "add", "(J)I"⟩
abbrev cX6_trial : ByteArray := prog_8_method_18_code
def yX6_trial : MethodName := ⟨RX6, "trial", "(II)I"⟩
abbrev cX6_near : ByteArray := prog_8_method_19_code
def yX6_near : MethodName := ⟨RX6, "near", "(JI)J"⟩
abbrev cX6_guess : ByteArray := prog_8_method_20_code
def yX6_guess : MethodName := ⟨RX6, "guess", "(III)I"⟩
abbrev cX6_divisor : ByteArray := prog_8_method_21_code
def yX6_divisor : MethodName := ⟨RX6, "divisor", "(JJ)J"⟩
abbrev cX6_forecast : ByteArray := prog_8_method_22_code
def yX6_forecast : MethodName := ⟨RX6, "forecast", "(JII)J"⟩
abbrev cX6_noTrial : ByteArray := prog_8_method_23_code
def yX6_noTrial : MethodName := ⟨RX6, "noTrial", "(I)Z"⟩
abbrev cX6_isScore : ByteArray := prog_8_method_24_code
def yX6_isScore : MethodName := ⟨RX6, "isScore", "(I)Z"⟩
abbrev cX6_score : ByteArray := prog_8_method_25_code
def yX6_score : MethodName := ⟨RX6, "score", "(IIZ)I"⟩
abbrev cX6_prunes : ByteArray := prog_8_method_26_code
def yX6_prunes : MethodName := ⟨RX6, "prunes", "(IIII)Z"⟩
abbrev cX6_report : ByteArray := prog_8_method_27_code
def yX6_report : MethodName := ⟨RX6, "report", "(III)I"⟩
abbrev cX6_told : ByteArray := prog_8_method_28_code
def yX6_told : MethodName := ⟨RX6, "told", "(II)I"⟩
abbrev cX6_point : ByteArray := prog_8_method_29_code
def yX6_point : MethodName := ⟨RX6, "point", "(I)J"⟩
abbrev cX6_reported : ByteArray := prog_8_method_30_code
def yX6_reported : MethodName := ⟨RX6, "reported", "(II)I"⟩
abbrev cX6_best : ByteArray := prog_8_method_31_code
def yX6_best : MethodName := ⟨RX6, "best", "()I"⟩
abbrev cX6_bracket : ByteArray := prog_8_method_32_code
def yX6_bracket : MethodName := ⟨RX6, "bracket", "(IIII)I"⟩
abbrev cX6_clear : ByteArray := prog_8_method_33_code
def yX6_clear : MethodName := ⟨RX6, "clear", "(I)V"⟩
abbrev cX6_open : ByteArray := prog_8_method_34_code
def yX6_open : MethodName := ⟨RX6, "open", "()I"⟩
abbrev cX6_inside : ByteArray := prog_8_method_35_code
def yX6_inside : MethodName := ⟨RX6, "inside", "()I"⟩
abbrev cX6_result : ByteArray := prog_8_method_36_code
def yX6_result : MethodName := ⟨RX6, "result", "(IIZ)I"⟩
abbrev cX6_halve : ByteArray := prog_8_method_37_code
def yX6_halve : MethodName := ⟨RX6, "halve", "()I"⟩
abbrev cX6_round : ByteArray := prog_8_method_38_code
def yX6_round : MethodName := ⟨RX6, "round", "(I)I"⟩
abbrev cX6_cost : ByteArray := prog_8_method_39_code
def yX6_cost : MethodName := ⟨RX6, "cost", "()J"⟩
abbrev cX6_plan : ByteArray := prog_8_method_40_code
def yX6_plan : MethodName := ⟨RX6, "plan", "(IIII)I"⟩
abbrev cX6_folds : ByteArray := prog_8_method_41_code
def yX6_folds : MethodName := ⟨RX6, "folds", "(IIII)I"⟩
abbrev cX6_outerOf : ByteArray := prog_8_method_42_code
def yX6_outerOf : MethodName := ⟨RX6, "outerOf", "(I)I"⟩
abbrev cX6_innerOf : ByteArray := prog_8_method_43_code
def yX6_innerOf : MethodName := ⟨RX6, "innerOf", "(I)I"⟩
abbrev cX6_fold : ByteArray := prog_8_method_44_code
def yX6_fold : MethodName := ⟨RX6, "fold", "(II)I"⟩
abbrev cX6_use : ByteArray := prog_8_method_45_code
def yX6_use : MethodName := ⟨RX6, "use", "(II)I"⟩
abbrev cX6_used : ByteArray := prog_8_method_46_code
def yX6_used : MethodName := ⟨RX6, "used", "(III)I"⟩
def RJ9 : String := "java/lang/Math"
def TJ9 : u_T := fun k => match k with
  | _ => ("", "", "", false)
def tyJ9 : Nat → FieldType := fun k => match k with
  | _ => .int
abbrev wsJ90 : List Cond := u_ws RJ9 TJ9 0
theorem nmJ9 : ∀ a, a < 0 → ∀ b, b < 0 → a ≠ b → (TJ9 a).2.1 ≠ (TJ9 b).2.1 := by decide +kernel
theorem tyJ9_ok : ∀ k, k < 0 → parseFieldDescriptor (TJ9 k).2.2.1 = some (tyJ9 k) := by decide +kernel
abbrev cJ9_abs_0f7a4 : ByteArray := prog_9_method_59_code
def yJ9_abs_0f7a4 : MethodName := ⟨RJ9, "abs", "(I)I"⟩
abbrev cJ9_abs_067f4 : ByteArray := prog_9_method_61_code
def yJ9_abs_067f4 : MethodName := ⟨RJ9, "abs", "(J)J"⟩
abbrev cJ9_max_f86c9 : ByteArray := prog_9_method_66_code
def yJ9_max_f86c9 : MethodName := ⟨RJ9, "max", "(JJ)J"⟩
abbrev cJ9_min_7cf53 : ByteArray := prog_9_method_69_code
def yJ9_min_7cf53 : MethodName := ⟨RJ9, "min", "(II)I"⟩
abbrev cJ9_min_f86c9 : ByteArray := prog_9_method_70_code
def yJ9_min_f86c9 : MethodName := ⟨RJ9, "min", "(JJ)J"⟩
def RJ10 : String := "java/lang/System"
def TJ10 : u_T := fun k => match k with
  | _ => ("", "", "", false)
def tyJ10 : Nat → FieldType := fun k => match k with
  | _ => .int
abbrev wsJ100 : List Cond := u_ws RJ10 TJ10 0
theorem nmJ10 : ∀ a, a < 0 → ∀ b, b < 0 → a ≠ b → (TJ10 a).2.1 ≠ (TJ10 b).2.1 := by decide +kernel
theorem tyJ10_ok : ∀ k, k < 0 → parseFieldDescriptor (TJ10 k).2.2.1 = some (tyJ10 k) := by decide +kernel
def RJ7 : String := "java/util/Arrays"
def TJ7 : u_T := fun k => match k with
  | _ => ("", "", "", false)
def tyJ7 : Nat → FieldType := fun k => match k with
  | _ => .int
abbrev wsJ70 : List Cond := u_ws RJ7 TJ7 0
theorem nmJ7 : ∀ a, a < 0 → ∀ b, b < 0 → a ≠ b → (TJ7 a).2.1 ≠ (TJ7 b).2.1 := by decide +kernel
theorem tyJ7_ok : ∀ k, k < 0 → parseFieldDescriptor (TJ7 k).2.2.1 = some (tyJ7 k) := by decide +kernel
abbrev cJ7_fill_d0a16 : ByteArray := prog_11_method_101_code
def yJ7_fill_d0a16 : MethodName := ⟨RJ7, "fill", "([JJ)V"⟩
abbrev cJ7_fill_53178 : ByteArray := prog_11_method_103_code
def yJ7_fill_53178 : MethodName := ⟨RJ7, "fill", "([II)V"⟩
def RL : String := "TrialSearchLaw"
abbrev cL_law : ByteArray := code
def yL_law : MethodName := ⟨RL, "law", "([I)Z"⟩
def wsX0_init : List Cond := .code yX0_init cX0_init 1 none :: ([.methodLink RX0 3 objectInit, .instanceMethod objectInit, .code objectInit ⟨#[0xb1]⟩ 1 none, .fieldLink RX0 9 "TrialSearch$Folds" "rows" "I", .fieldLink RX0 15 "TrialSearch$Folds" "outer" "I", .fieldLink RX0 18 "TrialSearch$Folds" "inner" "I", .arrayClass .int, .fieldLink RX0 21 "TrialSearch$Folds" "outerOf" "[I", .fieldLink RX0 25 "TrialSearch$Folds" "innerOf" "[I", .fieldLink RX0 28 "TrialSearch$Folds" "tested" "[I", .classLink RX0 31 "[[I", .fieldLink RX0 33 "TrialSearch$Folds" "chosen" "[[I", .arrayClass .long, .fieldLink RX0 36 "TrialSearch$Folds" "order" "[J"] ++ wsX00)
def wsJ7_fill_53178 : List Cond := .code yJ7_fill_53178 cJ7_fill_53178 4 none :: ([])
def wsX2_hash : List Cond := .code yX2_hash cX2_hash 3 (some .int) :: ([.constant RX2 7 (-1640531527), .constant RX2 8 (-2048144789), .constant RX2 9 (-1028477387)])
def wsX0_sortIn : List Cond := .code yX0_sortIn cX0_sortIn 7 none :: ([.fieldLink RX0 36 "TrialSearch$Folds" "order" "[J", .methodLink RX0 63 arraycopyName, .native arraycopyName, .static arraycopyName, .initialized "java/lang/System"] ++ wsX00)
def wsX5_rest : List Cond := .code yX5_rest cX5_rest 4 (some .long) :: ([])
def wsX5_cut : List Cond := .code yX5_cut cX5_cut 4 (some .long) :: ([])
def wsX0_make_r1 : List Cond := [Cond.fieldLink RX0 9 "TrialSearch$Folds" "rows" "I", Cond.fieldLink RX0 15 "TrialSearch$Folds" "outer" "I", Cond.fieldLink RX0 18 "TrialSearch$Folds" "inner" "I", Cond.fieldLink RX0 28 "TrialSearch$Folds" "tested" "[I", Cond.fieldLink RX0 33 "TrialSearch$Folds" "chosen" "[[I", Cond.fieldLink RX0 36 "TrialSearch$Folds" "order" "[J", Cond.fieldLink RX0 21 "TrialSearch$Folds" "outerOf" "[I", Cond.fieldLink RX0 25 "TrialSearch$Folds" "innerOf" "[I", Cond.methodLink RX0 40 yJ7_fill_53178, Cond.static yJ7_fill_53178, Cond.initialized RJ7, Cond.code yJ7_fill_53178 cJ7_fill_53178 4 none, Cond.methodLink RX0 46 yX2_hash, Cond.static yX2_hash, Cond.initialized RX2, Cond.code yX2_hash cX2_hash 3 (some .int), Cond.constant RX2 7 (-1640531527), Cond.constant RX2 8 (-2048144789), Cond.constant RX2 9 (-1028477387), Cond.methodLink RX0 52 yX0_sortIn, Cond.instanceMethod yX0_sortIn, Cond.selects RX0 yX0_sortIn yX0_sortIn, Cond.initialized RX0, Cond.code yX0_sortIn cX0_sortIn 7 none]
def wsX0_make_r2 : List Cond := [Cond.methodLink RX0 63 arraycopyName, Cond.native arraycopyName, Cond.static arraycopyName, Cond.initialized "java/lang/System", Cond.static yX5_rest, Cond.initialized RX5, Cond.code yX5_rest cX5_rest 4 (some .long), Cond.static yX5_cut, Cond.code yX5_cut cX5_cut 4 (some .long)]
def wsX0_make : List Cond := .code yX0_make cX0_make 7 none :: ((wsX0_make_r1 ++ wsX0_make_r2) ++ wsX00)
def wsX0_test : List Cond := .code yX0_test cX0_test 4 (some .int) :: ([.fieldLink RX0 28 "TrialSearch$Folds" "tested" "[I", .fieldLink RX0 9 "TrialSearch$Folds" "rows" "I", .fieldLink RX0 21 "TrialSearch$Folds" "outerOf" "[I"] ++ wsX00)
def wsX0_choose : List Cond := .code yX0_choose cX0_choose 5 (some .int) :: ([.fieldLink RX0 33 "TrialSearch$Folds" "chosen" "[[I", .fieldLink RX0 9 "TrialSearch$Folds" "rows" "I", .fieldLink RX0 21 "TrialSearch$Folds" "outerOf" "[I", .fieldLink RX0 25 "TrialSearch$Folds" "innerOf" "[I"] ++ wsX00)
def wsX0_trained : List Cond := .code yX0_trained cX0_trained 5 (some .int) :: ([.fieldLink RX0 21 "TrialSearch$Folds" "outerOf" "[I", .fieldLink RX0 28 "TrialSearch$Folds" "tested" "[I", .fieldLink RX0 18 "TrialSearch$Folds" "inner" "I", .fieldLink RX0 25 "TrialSearch$Folds" "innerOf" "[I", .fieldLink RX0 33 "TrialSearch$Folds" "chosen" "[[I"] ++ wsX00)
def wsX0_validated : List Cond := .code yX0_validated cX0_validated 3 (some .int) :: ([.fieldLink RX0 21 "TrialSearch$Folds" "outerOf" "[I", .fieldLink RX0 33 "TrialSearch$Folds" "chosen" "[[I", .fieldLink RX0 25 "TrialSearch$Folds" "innerOf" "[I"] ++ wsX00)
def wsX0_testing : List Cond := .code yX0_testing cX0_testing 3 (some .int) :: ([.fieldLink RX0 21 "TrialSearch$Folds" "outerOf" "[I", .fieldLink RX0 28 "TrialSearch$Folds" "tested" "[I"] ++ wsX00)
def wsX1_init : List Cond := .code yX1_init cX1_init 1 none :: ([.methodLink RX1 3 objectInit, .instanceMethod objectInit, .code objectInit ⟨#[0xb1]⟩ 1 none, .fieldLink RX1 9 "TrialSearch$Rounds" "started" "Z", .fieldLink RX1 15 "TrialSearch$Rounds" "spent" "J", .arrayClass .int, .fieldLink RX1 19 "TrialSearch$Rounds" "marks" "[I", .fieldLink RX1 23 "TrialSearch$Rounds" "stands" "[I"] ++ wsX10)
def wsX1_start : List Cond := .code yX1_start cX1_start 6 none :: ([.fieldLink RX1 9 "TrialSearch$Rounds" "started" "Z", .fieldLink RX1 26 "TrialSearch$Rounds" "over" "Z", .fieldLink RX1 15 "TrialSearch$Rounds" "spent" "J", .fieldLink RX1 29 "TrialSearch$Rounds" "halved" "I", .fieldLink RX1 33 "TrialSearch$Rounds" "budget" "I", .fieldLink RX1 36 "TrialSearch$Rounds" "factor" "I", .fieldLink RX1 19 "TrialSearch$Rounds" "marks" "[I", .fieldLink RX1 23 "TrialSearch$Rounds" "stands" "[I", .fieldLink RX1 39 "TrialSearch$Rounds" "in" "I", .fieldLink RX1 42 "TrialSearch$Rounds" "waiting" "I"] ++ wsX10)
def wsX1_isIn : List Cond := .code yX1_isIn cX1_isIn 2 (some .boolean) :: ([.fieldLink RX1 23 "TrialSearch$Rounds" "stands" "[I"] ++ wsX10)
def wsX1_isWaiting : List Cond := .code yX1_isWaiting cX1_isWaiting 2 (some .boolean) :: ([.fieldLink RX1 23 "TrialSearch$Rounds" "stands" "[I"] ++ wsX10)
def wsX1_mark : List Cond := .code yX1_mark cX1_mark 4 (some .int) :: ([.fieldLink RX1 23 "TrialSearch$Rounds" "stands" "[I", .fieldLink RX1 19 "TrialSearch$Rounds" "marks" "[I", .fieldLink RX1 15 "TrialSearch$Rounds" "spent" "J", .fieldLink RX1 33 "TrialSearch$Rounds" "budget" "I", .fieldLink RX1 42 "TrialSearch$Rounds" "waiting" "I"] ++ wsX10)
def wsX1_canEnd : List Cond := .code yX1_canEnd cX1_canEnd 1 (some .boolean) :: ([.fieldLink RX1 9 "TrialSearch$Rounds" "started" "Z", .fieldLink RX1 26 "TrialSearch$Rounds" "over" "Z", .fieldLink RX1 42 "TrialSearch$Rounds" "waiting" "I"] ++ wsX10)
def wsX1_keepGreatest : List Cond := .code yX1_keepGreatest cX1_keepGreatest 3 (some .boolean) :: ([.fieldLink RX1 23 "TrialSearch$Rounds" "stands" "[I", .fieldLink RX1 19 "TrialSearch$Rounds" "marks" "[I"] ++ wsX10)
def wsX1_openRound : List Cond := .code yX1_openRound cX1_openRound 2 none :: ([.fieldLink RX1 23 "TrialSearch$Rounds" "stands" "[I", .fieldLink RX1 19 "TrialSearch$Rounds" "marks" "[I"] ++ wsX10)
def wsX1_end_r1 : List Cond := [Cond.fieldLink RX1 39 "TrialSearch$Rounds" "in" "I", Cond.fieldLink RX1 36 "TrialSearch$Rounds" "factor" "I", Cond.methodLink RX1 49 Lib.MathLoose.max_long.x, Cond.static Lib.MathLoose.max_long.x, Cond.initialized "java/lang/Math", Cond.code Lib.MathLoose.max_long.x Lib.MathLoose.max_long.code 4 (some .long), Cond.fieldLink RX1 42 "TrialSearch$Rounds" "waiting" "I", Cond.fieldLink RX1 29 "TrialSearch$Rounds" "halved" "I", Cond.fieldLink RX1 33 "TrialSearch$Rounds" "budget" "I", Cond.constantLong RX1 61 (1000000000), Cond.methodLink RX1 63 Lib.MathLoose.min_long.x, Cond.static Lib.MathLoose.min_long.x, Cond.code Lib.MathLoose.min_long.x Lib.MathLoose.min_long.code 4 (some .long), Cond.fieldLink RX1 26 "TrialSearch$Rounds" "over" "Z", Cond.static yX5_cut, Cond.initialized RX5, Cond.code yX5_cut cX5_cut 4 (some .long), Cond.methodLink RX1 54 yX1_keepGreatest, Cond.instanceMethod yX1_keepGreatest, Cond.selects RX1 yX1_keepGreatest yX1_keepGreatest, Cond.initialized RX1, Cond.code yX1_keepGreatest cX1_keepGreatest 3 (some .boolean), Cond.fieldLink RX1 23 "TrialSearch$Rounds" "stands" "[I", Cond.fieldLink RX1 19 "TrialSearch$Rounds" "marks" "[I"]
def wsX1_end_r2 : List Cond := [Cond.methodLink RX1 58 yX1_openRound, Cond.instanceMethod yX1_openRound, Cond.selects RX1 yX1_openRound yX1_openRound, Cond.code yX1_openRound cX1_openRound 2 none]
def wsX1_end : List Cond := .code yX1_end cX1_end 4 (some .int) :: ((wsX1_end_r1 ++ wsX1_end_r2) ++ wsX10)
def wsX1_tell : List Cond := .code yX1_tell cX1_tell 2 (some .int) :: ([.fieldLink RX1 39 "TrialSearch$Rounds" "in" "I", .fieldLink RX1 29 "TrialSearch$Rounds" "halved" "I", .fieldLink RX1 33 "TrialSearch$Rounds" "budget" "I", .fieldLink RX1 26 "TrialSearch$Rounds" "over" "Z"] ++ wsX10)
def wsX2_bitsFor : List Cond := .code yX2_bitsFor cX2_bitsFor 3 (some .int) :: ([])
def wsX2_twoHashes : List Cond := .code yX2_twoHashes cX2_twoHashes 6 (some .long) :: ([.constantLong RX2 25 (4294967295), .methodLink RX2 21 yX2_hash, .static yX2_hash, .initialized RX2, .code yX2_hash cX2_hash 3 (some .int), .constant RX2 7 (-1640531527), .constant RX2 8 (-2048144789), .constant RX2 9 (-1028477387)])
def wsX2_pick : List Cond := .code yX2_pick cX2_pick 7 (some .long) :: ([.constant RX2 16 (1000000), .methodLink RX2 10 yX2_bitsFor, .static yX2_bitsFor, .initialized RX2, .code yX2_bitsFor cX2_bitsFor 3 (some .int), .methodLink RX2 17 yX2_twoHashes, .static yX2_twoHashes, .code yX2_twoHashes cX2_twoHashes 6 (some .long), .constantLong RX2 25 (4294967295), .methodLink RX2 21 yX2_hash, .static yX2_hash, .code yX2_hash cX2_hash 3 (some .int), .constant RX2 7 (-1640531527), .constant RX2 8 (-2048144789), .constant RX2 9 (-1028477387)])
def wsX3_init : List Cond := .code yX3_init cX3_init 1 none :: ([.methodLink RX3 3 objectInit, .instanceMethod objectInit, .code objectInit ⟨#[0xb1]⟩ 1 none, .fieldLink RX3 9 "TrialSearch$Space" "names" "I", .fieldLink RX3 15 "TrialSearch$Space" "all" "J", .arrayClass .int, .fieldLink RX3 19 "TrialSearch$Space" "left" "[I", .fieldLink RX3 23 "TrialSearch$Space" "right" "[I", .fieldLink RX3 26 "TrialSearch$Space" "many" "[I", .fieldLink RX3 29 "TrialSearch$Space" "on" "[I", .fieldLink RX3 32 "TrialSearch$Space" "set" "[I", .arrayClass .long, .fieldLink RX3 35 "TrialSearch$Space" "ways" "[J", .classLink RX3 39 "[[J", .fieldLink RX3 41 "TrialSearch$Space" "waysBelow" "[[J"] ++ wsX30)
def wsJ7_fill_d0a16 : List Cond := .code yJ7_fill_d0a16 cJ7_fill_d0a16 5 none :: ([])
def wsX3_sumOfWays : List Cond := .code yX3_sumOfWays cX3_sumOfWays 5 (some .long) :: ([.fieldLink RX3 26 "TrialSearch$Space" "many" "[I", .fieldLink RX3 41 "TrialSearch$Space" "waysBelow" "[[J"] ++ wsX30)
def wsX3_hasBit : List Cond := .code yX3_hasBit cX3_hasBit 2 (some .boolean) :: ([])
def wsX3_hang : List Cond := .code yX3_hang cX3_hang 4 none :: ([.fieldLink RX3 26 "TrialSearch$Space" "many" "[I", .fieldLink RX3 32 "TrialSearch$Space" "set" "[I", .fieldLink RX3 41 "TrialSearch$Space" "waysBelow" "[[J", .fieldLink RX3 35 "TrialSearch$Space" "ways" "[J", .methodLink RX3 61 yX3_hasBit, .static yX3_hasBit, .initialized RX3, .code yX3_hasBit cX3_hasBit 2 (some .boolean)] ++ wsX30)
def wsX3_countWays : List Cond := .code yX3_countWays cX3_countWays 2 none :: ([.fieldLink RX3 15 "TrialSearch$Space" "all" "J", .fieldLink RX3 9 "TrialSearch$Space" "names" "I", .fieldLink RX3 41 "TrialSearch$Space" "waysBelow" "[[J", .fieldLink RX3 35 "TrialSearch$Space" "ways" "[J", .fieldLink RX3 29 "TrialSearch$Space" "on" "[I", .methodLink RX3 47 yJ7_fill_d0a16, .static yJ7_fill_d0a16, .initialized RJ7, .code yJ7_fill_d0a16 cJ7_fill_d0a16 5 none, .methodLink RX3 53 yX3_sumOfWays, .instanceMethod yX3_sumOfWays, .selects RX3 yX3_sumOfWays yX3_sumOfWays, .initialized RX3, .code yX3_sumOfWays cX3_sumOfWays 5 (some .long), .fieldLink RX3 26 "TrialSearch$Space" "many" "[I", .methodLink RX3 57 yX3_hang, .instanceMethod yX3_hang, .selects RX3 yX3_hang yX3_hang, .code yX3_hang cX3_hang 4 none, .fieldLink RX3 32 "TrialSearch$Space" "set" "[I", .methodLink RX3 61 yX3_hasBit, .static yX3_hasBit, .code yX3_hasBit cX3_hasBit 2 (some .boolean)] ++ wsX30)
def wsX3_add_r1 : List Cond := [Cond.fieldLink RX3 9 "TrialSearch$Space" "names" "I", Cond.fieldLink RX3 26 "TrialSearch$Space" "many" "[I", Cond.fieldLink RX3 29 "TrialSearch$Space" "on" "[I", Cond.fieldLink RX3 32 "TrialSearch$Space" "set" "[I", Cond.methodLink RX3 44 yX3_countWays, Cond.instanceMethod yX3_countWays, Cond.selects RX3 yX3_countWays yX3_countWays, Cond.initialized RX3, Cond.code yX3_countWays cX3_countWays 2 none, Cond.fieldLink RX3 15 "TrialSearch$Space" "all" "J", Cond.fieldLink RX3 41 "TrialSearch$Space" "waysBelow" "[[J", Cond.fieldLink RX3 35 "TrialSearch$Space" "ways" "[J", Cond.methodLink RX3 47 yJ7_fill_d0a16, Cond.static yJ7_fill_d0a16, Cond.initialized RJ7, Cond.code yJ7_fill_d0a16 cJ7_fill_d0a16 5 none, Cond.methodLink RX3 53 yX3_sumOfWays, Cond.instanceMethod yX3_sumOfWays, Cond.selects RX3 yX3_sumOfWays yX3_sumOfWays, Cond.code yX3_sumOfWays cX3_sumOfWays 5 (some .long), Cond.methodLink RX3 57 yX3_hang, Cond.instanceMethod yX3_hang, Cond.selects RX3 yX3_hang yX3_hang, Cond.code yX3_hang cX3_hang 4 none]
def wsX3_add_r2 : List Cond := [Cond.methodLink RX3 61 yX3_hasBit, Cond.static yX3_hasBit, Cond.code yX3_hasBit cX3_hasBit 2 (some .boolean)]
def wsX3_add : List Cond := .code yX3_add cX3_add 5 (some .int) :: ((wsX3_add_r1 ++ wsX3_add_r2) ++ wsX30)
def wsX3_isThere : List Cond := .code yX3_isThere cX3_isThere 4 (some .boolean) :: ([.fieldLink RX3 29 "TrialSearch$Space" "on" "[I", .fieldLink RX3 32 "TrialSearch$Space" "set" "[I", .methodLink RX3 61 yX3_hasBit, .static yX3_hasBit, .initialized RX3, .code yX3_hasBit cX3_hasBit 2 (some .boolean)] ++ wsX30)
def wsX3_read : List Cond := .code yX3_read cX3_read 10 none :: ([.fieldLink RX3 15 "TrialSearch$Space" "all" "J", .fieldLink RX3 9 "TrialSearch$Space" "names" "I", .fieldLink RX3 35 "TrialSearch$Space" "ways" "[J", .fieldLink RX3 26 "TrialSearch$Space" "many" "[I", .fieldLink RX3 41 "TrialSearch$Space" "waysBelow" "[[J", .methodLink RX3 65 yX3_isThere, .instanceMethod yX3_isThere, .selects RX3 yX3_isThere yX3_isThere, .initialized RX3, .code yX3_isThere cX3_isThere 4 (some .boolean), .fieldLink RX3 29 "TrialSearch$Space" "on" "[I", .fieldLink RX3 32 "TrialSearch$Space" "set" "[I", .methodLink RX3 61 yX3_hasBit, .static yX3_hasBit, .code yX3_hasBit cX3_hasBit 2 (some .boolean), .static yX5_cut, .initialized RX5, .code yX5_cut cX5_cut 4 (some .long)] ++ wsX30)
def wsX3_place : List Cond := .code yX3_place cX3_place 8 (some .long) :: ([.fieldLink RX3 15 "TrialSearch$Space" "all" "J", .fieldLink RX3 9 "TrialSearch$Space" "names" "I", .fieldLink RX3 35 "TrialSearch$Space" "ways" "[J", .fieldLink RX3 41 "TrialSearch$Space" "waysBelow" "[[J", .static yX5_cut, .initialized RX5, .code yX5_cut cX5_cut 4 (some .long)] ++ wsX30)
def wsX3_takeBits : List Cond := .code yX3_takeBits cX3_takeBits 6 (some .boolean) :: ([.fieldLink RX3 9 "TrialSearch$Space" "names" "I", .fieldLink RX3 26 "TrialSearch$Space" "many" "[I", .methodLink RX3 65 yX3_isThere, .instanceMethod yX3_isThere, .selects RX3 yX3_isThere yX3_isThere, .initialized RX3, .code yX3_isThere cX3_isThere 4 (some .boolean), .fieldLink RX3 29 "TrialSearch$Space" "on" "[I", .fieldLink RX3 32 "TrialSearch$Space" "set" "[I", .methodLink RX3 61 yX3_hasBit, .static yX3_hasBit, .code yX3_hasBit cX3_hasBit 2 (some .boolean)] ++ wsX30)
def wsX3_pickEach_r1 : List Cond := [Cond.fieldLink RX3 9 "TrialSearch$Space" "names" "I", Cond.fieldLink RX3 26 "TrialSearch$Space" "many" "[I", Cond.methodLink RX3 65 yX3_isThere, Cond.instanceMethod yX3_isThere, Cond.selects RX3 yX3_isThere yX3_isThere, Cond.initialized RX3, Cond.code yX3_isThere cX3_isThere 4 (some .boolean), Cond.fieldLink RX3 29 "TrialSearch$Space" "on" "[I", Cond.fieldLink RX3 32 "TrialSearch$Space" "set" "[I", Cond.methodLink RX3 61 yX3_hasBit, Cond.static yX3_hasBit, Cond.code yX3_hasBit cX3_hasBit 2 (some .boolean), Cond.methodLink RX3 73 yX2_hash, Cond.static yX2_hash, Cond.initialized RX2, Cond.code yX2_hash cX2_hash 3 (some .int), Cond.constant RX2 7 (-1640531527), Cond.constant RX2 8 (-2048144789), Cond.constant RX2 9 (-1028477387), Cond.methodLink RX3 79 yX2_pick, Cond.static yX2_pick, Cond.code yX2_pick cX2_pick 7 (some .long), Cond.constant RX2 16 (1000000), Cond.methodLink RX2 10 yX2_bitsFor]
def wsX3_pickEach_r2 : List Cond := [Cond.static yX2_bitsFor, Cond.code yX2_bitsFor cX2_bitsFor 3 (some .int), Cond.methodLink RX2 17 yX2_twoHashes, Cond.static yX2_twoHashes, Cond.code yX2_twoHashes cX2_twoHashes 6 (some .long), Cond.constantLong RX2 25 (4294967295), Cond.methodLink RX2 21 yX2_hash]
def wsX3_pickEach : List Cond := .code yX3_pickEach cX3_pickEach 4 none :: ((wsX3_pickEach_r1 ++ wsX3_pickEach_r2) ++ wsX30)
def wsX3_apartAt : List Cond := .code yX3_apartAt cX3_apartAt 4 (some .int) :: ([.methodLink RX3 87 Lib.Math.abs.name, .static Lib.Math.abs.name, .initialized "java/lang/Math", .code Lib.Math.abs.name Lib.Math.abs.code 1 (some .int), .fieldLink RX3 26 "TrialSearch$Space" "many" "[I", .static yX5_cut, .initialized RX5, .code yX5_cut cX5_cut 4 (some .long)] ++ wsX30)
def wsX3_apart : List Cond := .code yX3_apart cX3_apart 5 (some .int) :: ([.fieldLink RX3 9 "TrialSearch$Space" "names" "I", .methodLink RX3 83 yX3_apartAt, .instanceMethod yX3_apartAt, .selects RX3 yX3_apartAt yX3_apartAt, .initialized RX3, .code yX3_apartAt cX3_apartAt 4 (some .int), .methodLink RX3 87 Lib.Math.abs.name, .static Lib.Math.abs.name, .initialized "java/lang/Math", .code Lib.Math.abs.name Lib.Math.abs.code 1 (some .int), .fieldLink RX3 26 "TrialSearch$Space" "many" "[I", .static yX5_cut, .initialized RX5, .code yX5_cut cX5_cut 4 (some .long)] ++ wsX30)
def wsX4_init : List Cond := .code yX4_init cX4_init 2 none :: ([.methodLink RX4 3 objectInit, .instanceMethod objectInit, .code objectInit ⟨#[0xb1]⟩ 1 none, .fieldLink RX4 9 "TrialSearch$Trials" "made" "I", .fieldLink RX4 15 "TrialSearch$Trials" "scored" "I", .arrayClass .long, .fieldLink RX4 18 "TrialSearch$Trials" "places" "[J", .arrayClass .int, .fieldLink RX4 22 "TrialSearch$Trials" "states" "[I", .fieldLink RX4 26 "TrialSearch$Trials" "scores" "[I", .fieldLink RX4 29 "TrialSearch$Trials" "steps" "[I", .classLink RX4 32 "[[I", .fieldLink RX4 34 "TrialSearch$Trials" "reports" "[[I", .fieldLink RX4 37 "TrialSearch$Trials" "space" "LTrialSearch$Space;", .fieldLink RX4 41 "TrialSearch$Trials" "values" "[[I", .fieldLink RX4 44 "TrialSearch$Trials" "nearGaps" "[I", .fieldLink RX4 47 "TrialSearch$Trials" "nearScores" "[I", .fieldLink RX4 50 "TrialSearch$Trials" "others" "[I"] ++ wsX40)
def wsX4_add_r1 : List Cond := [Cond.fieldLink RX4 9 "TrialSearch$Trials" "made" "I", Cond.fieldLink RX4 18 "TrialSearch$Trials" "places" "[J", Cond.fieldLink RX4 22 "TrialSearch$Trials" "states" "[I", Cond.fieldLink RX4 37 "TrialSearch$Trials" "space" "LTrialSearch$Space;", Cond.fieldLink RX4 41 "TrialSearch$Trials" "values" "[[I", Cond.methodLink RX4 53 yX3_read, Cond.instanceMethod yX3_read, Cond.selects RX3 yX3_read yX3_read, Cond.initialized RX3, Cond.code yX3_read cX3_read 10 none, Cond.fieldLink RX3 15 "TrialSearch$Space" "all" "J", Cond.fieldLink RX3 9 "TrialSearch$Space" "names" "I", Cond.fieldLink RX3 35 "TrialSearch$Space" "ways" "[J", Cond.fieldLink RX3 26 "TrialSearch$Space" "many" "[I", Cond.fieldLink RX3 41 "TrialSearch$Space" "waysBelow" "[[J", Cond.methodLink RX3 65 yX3_isThere, Cond.instanceMethod yX3_isThere, Cond.selects RX3 yX3_isThere yX3_isThere, Cond.code yX3_isThere cX3_isThere 4 (some .boolean), Cond.fieldLink RX3 29 "TrialSearch$Space" "on" "[I", Cond.fieldLink RX3 32 "TrialSearch$Space" "set" "[I", Cond.methodLink RX3 61 yX3_hasBit, Cond.static yX3_hasBit, Cond.code yX3_hasBit cX3_hasBit 2 (some .boolean)]
def wsX4_add_r2 : List Cond := [Cond.static yX5_cut, Cond.initialized RX5, Cond.code yX5_cut cX5_cut 4 (some .long)]
def wsX4_add : List Cond := .code yX4_add cX4_add 4 (some .int) :: ((wsX4_add_r1 ++ wsX4_add_r2) ++ wsX40 ++ wsX30)
def wsX4_holdNear : List Cond := .code yX4_holdNear cX4_holdNear 8 (some .int) :: ([.fieldLink RX4 44 "TrialSearch$Trials" "nearGaps" "[I", .methodLink RX4 87 Lib.Math.min.name, .static Lib.Math.min.name, .initialized "java/lang/Math", .code Lib.Math.min.name Lib.Math.min.code 2 (some .int), .fieldLink RX4 47 "TrialSearch$Trials" "nearScores" "[I"] ++ wsX40)
def wsX4_nearSum_r1 : List Cond := [Cond.fieldLink RX4 37 "TrialSearch$Trials" "space" "LTrialSearch$Space;", Cond.fieldLink RX4 76 "TrialSearch$Space" "left" "[I", Cond.fieldLink RX4 9 "TrialSearch$Trials" "made" "I", Cond.fieldLink RX4 22 "TrialSearch$Trials" "states" "[I", Cond.fieldLink RX4 41 "TrialSearch$Trials" "values" "[[I", Cond.fieldLink RX4 26 "TrialSearch$Trials" "scores" "[I", Cond.fieldLink RX4 47 "TrialSearch$Trials" "nearScores" "[I", Cond.methodLink RX4 53 yX3_read, Cond.instanceMethod yX3_read, Cond.selects RX3 yX3_read yX3_read, Cond.initialized RX3, Cond.code yX3_read cX3_read 10 none, Cond.fieldLink RX3 15 "TrialSearch$Space" "all" "J", Cond.fieldLink RX3 9 "TrialSearch$Space" "names" "I", Cond.fieldLink RX3 35 "TrialSearch$Space" "ways" "[J", Cond.fieldLink RX3 26 "TrialSearch$Space" "many" "[I", Cond.fieldLink RX3 41 "TrialSearch$Space" "waysBelow" "[[J", Cond.methodLink RX3 65 yX3_isThere, Cond.instanceMethod yX3_isThere, Cond.selects RX3 yX3_isThere yX3_isThere, Cond.code yX3_isThere cX3_isThere 4 (some .boolean), Cond.fieldLink RX3 29 "TrialSearch$Space" "on" "[I", Cond.fieldLink RX3 32 "TrialSearch$Space" "set" "[I", Cond.methodLink RX3 61 yX3_hasBit]
def wsX4_nearSum_r2 : List Cond := [Cond.static yX3_hasBit, Cond.code yX3_hasBit cX3_hasBit 2 (some .boolean), Cond.static yX5_cut, Cond.initialized RX5, Cond.code yX5_cut cX5_cut 4 (some .long), Cond.methodLink RX4 79 yX3_apart, Cond.instanceMethod yX3_apart, Cond.selects RX3 yX3_apart yX3_apart, Cond.code yX3_apart cX3_apart 5 (some .int), Cond.methodLink RX3 83 yX3_apartAt, Cond.instanceMethod yX3_apartAt, Cond.selects RX3 yX3_apartAt yX3_apartAt, Cond.code yX3_apartAt cX3_apartAt 4 (some .int), Cond.methodLink RX3 87 Lib.Math.abs.name, Cond.static Lib.Math.abs.name, Cond.initialized "java/lang/Math", Cond.code Lib.Math.abs.name Lib.Math.abs.code 1 (some .int), Cond.methodLink RX4 83 yX4_holdNear, Cond.instanceMethod yX4_holdNear, Cond.selects RX4 yX4_holdNear yX4_holdNear, Cond.initialized RX4, Cond.code yX4_holdNear cX4_holdNear 8 (some .int), Cond.fieldLink RX4 44 "TrialSearch$Trials" "nearGaps" "[I", Cond.methodLink RX4 87 Lib.Math.min.name]
def wsX4_nearSum_r3 : List Cond := [Cond.static Lib.Math.min.name, Cond.code Lib.Math.min.name Lib.Math.min.code 2 (some .int)]
def wsX4_nearSum : List Cond := .code yX4_nearSum cX4_nearSum 8 (some .long) :: ((wsX4_nearSum_r1 ++ (wsX4_nearSum_r2 ++ wsX4_nearSum_r3)) ++ wsX40 ++ wsX30)
def wsX4_bestCandidate_r1 : List Cond := [Cond.fieldLink RX4 37 "TrialSearch$Trials" "space" "LTrialSearch$Space;", Cond.fieldLink RX4 59 "TrialSearch$Space" "all" "J", Cond.fieldLink RX4 15 "TrialSearch$Trials" "scored" "I", Cond.methodLink RX4 63 yX2_hash, Cond.static yX2_hash, Cond.initialized RX2, Cond.code yX2_hash cX2_hash 3 (some .int), Cond.constant RX2 7 (-1640531527), Cond.constant RX2 8 (-2048144789), Cond.constant RX2 9 (-1028477387), Cond.methodLink RX4 69 yX2_pick, Cond.static yX2_pick, Cond.code yX2_pick cX2_pick 7 (some .long), Cond.constant RX2 16 (1000000), Cond.methodLink RX2 10 yX2_bitsFor, Cond.static yX2_bitsFor, Cond.code yX2_bitsFor cX2_bitsFor 3 (some .int), Cond.methodLink RX2 17 yX2_twoHashes, Cond.static yX2_twoHashes, Cond.code yX2_twoHashes cX2_twoHashes 6 (some .long), Cond.constantLong RX2 25 (4294967295), Cond.methodLink RX2 21 yX2_hash, Cond.methodLink RX4 73 yX4_nearSum, Cond.instanceMethod yX4_nearSum]
def wsX4_bestCandidate_r2 : List Cond := [Cond.selects RX4 yX4_nearSum yX4_nearSum, Cond.initialized RX4, Cond.code yX4_nearSum cX4_nearSum 8 (some .long), Cond.fieldLink RX4 76 "TrialSearch$Space" "left" "[I", Cond.fieldLink RX4 9 "TrialSearch$Trials" "made" "I", Cond.fieldLink RX4 22 "TrialSearch$Trials" "states" "[I", Cond.fieldLink RX4 41 "TrialSearch$Trials" "values" "[[I", Cond.fieldLink RX4 26 "TrialSearch$Trials" "scores" "[I", Cond.fieldLink RX4 47 "TrialSearch$Trials" "nearScores" "[I", Cond.methodLink RX4 53 yX3_read, Cond.instanceMethod yX3_read, Cond.selects RX3 yX3_read yX3_read, Cond.initialized RX3, Cond.code yX3_read cX3_read 10 none, Cond.fieldLink RX3 15 "TrialSearch$Space" "all" "J", Cond.fieldLink RX3 9 "TrialSearch$Space" "names" "I", Cond.fieldLink RX3 35 "TrialSearch$Space" "ways" "[J", Cond.fieldLink RX3 26 "TrialSearch$Space" "many" "[I", Cond.fieldLink RX3 41 "TrialSearch$Space" "waysBelow" "[[J", Cond.methodLink RX3 65 yX3_isThere, Cond.instanceMethod yX3_isThere, Cond.selects RX3 yX3_isThere yX3_isThere, Cond.code yX3_isThere cX3_isThere 4 (some .boolean), Cond.fieldLink RX3 29 "TrialSearch$Space" "on" "[I"]
def wsX4_bestCandidate_r3 : List Cond := [Cond.fieldLink RX3 32 "TrialSearch$Space" "set" "[I", Cond.methodLink RX3 61 yX3_hasBit, Cond.static yX3_hasBit, Cond.code yX3_hasBit cX3_hasBit 2 (some .boolean), Cond.static yX5_cut, Cond.initialized RX5, Cond.code yX5_cut cX5_cut 4 (some .long), Cond.methodLink RX4 79 yX3_apart, Cond.instanceMethod yX3_apart, Cond.selects RX3 yX3_apart yX3_apart, Cond.code yX3_apart cX3_apart 5 (some .int), Cond.methodLink RX3 83 yX3_apartAt, Cond.instanceMethod yX3_apartAt, Cond.selects RX3 yX3_apartAt yX3_apartAt, Cond.code yX3_apartAt cX3_apartAt 4 (some .int), Cond.methodLink RX3 87 Lib.Math.abs.name, Cond.static Lib.Math.abs.name, Cond.initialized "java/lang/Math", Cond.code Lib.Math.abs.name Lib.Math.abs.code 1 (some .int), Cond.methodLink RX4 83 yX4_holdNear, Cond.instanceMethod yX4_holdNear, Cond.selects RX4 yX4_holdNear yX4_holdNear, Cond.code yX4_holdNear cX4_holdNear 8 (some .int), Cond.fieldLink RX4 44 "TrialSearch$Trials" "nearGaps" "[I"]
def wsX4_bestCandidate_r4 : List Cond := [Cond.methodLink RX4 87 Lib.Math.min.name, Cond.static Lib.Math.min.name, Cond.code Lib.Math.min.name Lib.Math.min.code 2 (some .int)]
def wsX4_bestCandidate : List Cond := .code yX4_bestCandidate cX4_bestCandidate 13 (some .long) :: ((wsX4_bestCandidate_r1 ++ (wsX4_bestCandidate_r2 ++ (wsX4_bestCandidate_r3 ++ wsX4_bestCandidate_r4))) ++ wsX40 ++ wsX30)
def wsX4_close : List Cond := .code yX4_close cX4_close 4 (some .int) :: ([.fieldLink RX4 22 "TrialSearch$Trials" "states" "[I", .fieldLink RX4 26 "TrialSearch$Trials" "scores" "[I", .fieldLink RX4 15 "TrialSearch$Trials" "scored" "I"] ++ wsX40)
def wsX4_sortIn : List Cond := .code yX4_sortIn cX4_sortIn 4 none :: ([.fieldLink RX4 50 "TrialSearch$Trials" "others" "[I"] ++ wsX40)
def wsX4_isBelowMiddle : List Cond := .code yX4_isBelowMiddle cX4_isBelowMiddle 7 (some .boolean) :: ([.fieldLink RX4 9 "TrialSearch$Trials" "made" "I", .fieldLink RX4 29 "TrialSearch$Trials" "steps" "[I", .fieldLink RX4 34 "TrialSearch$Trials" "reports" "[[I", .fieldLink RX4 50 "TrialSearch$Trials" "others" "[I", .methodLink RX4 96 yX4_sortIn, .instanceMethod yX4_sortIn, .selects RX4 yX4_sortIn yX4_sortIn, .initialized RX4, .code yX4_sortIn cX4_sortIn 4 none] ++ wsX40)
def wsX4_addReport : List Cond := .code yX4_addReport cX4_addReport 6 (some .int) :: ([.fieldLink RX4 29 "TrialSearch$Trials" "steps" "[I", .fieldLink RX4 34 "TrialSearch$Trials" "reports" "[[I", .fieldLink RX4 22 "TrialSearch$Trials" "states" "[I", .methodLink RX4 92 yX4_isBelowMiddle, .instanceMethod yX4_isBelowMiddle, .selects RX4 yX4_isBelowMiddle yX4_isBelowMiddle, .initialized RX4, .code yX4_isBelowMiddle cX4_isBelowMiddle 7 (some .boolean), .fieldLink RX4 9 "TrialSearch$Trials" "made" "I", .fieldLink RX4 50 "TrialSearch$Trials" "others" "[I", .methodLink RX4 96 yX4_sortIn, .instanceMethod yX4_sortIn, .selects RX4 yX4_sortIn yX4_sortIn, .code yX4_sortIn cX4_sortIn 4 none] ++ wsX40)
def wsX4_firstGreatest : List Cond := .code yX4_firstGreatest cX4_firstGreatest 3 (some .int) :: ([.fieldLink RX4 9 "TrialSearch$Trials" "made" "I", .fieldLink RX4 22 "TrialSearch$Trials" "states" "[I", .fieldLink RX4 26 "TrialSearch$Trials" "scores" "[I"] ++ wsX40)
def wsX5_init_r1 : List Cond := [Cond.methodLink RX5 3 objectInit, Cond.instanceMethod objectInit, Cond.code objectInit ⟨#[0xb1]⟩ 1 none, Cond.classLink RX5 9 RX3, Cond.instantiable RX3 9, Cond.initialized RX3, Cond.fieldLink RX5 12 "TrialSearch" "space" "LTrialSearch$Space;", Cond.classLink RX5 16 RX4, Cond.instantiable RX4 12, Cond.initialized RX4, Cond.fieldLink RX5 21 "TrialSearch" "trials" "LTrialSearch$Trials;", Cond.classLink RX5 25 RX1, Cond.instantiable RX1 10, Cond.initialized RX1, Cond.fieldLink RX5 28 "TrialSearch" "rounds" "LTrialSearch$Rounds;", Cond.classLink RX5 32 RX0, Cond.instantiable RX0 8, Cond.initialized RX0, Cond.fieldLink RX5 35 "TrialSearch" "parts" "LTrialSearch$Folds;", Cond.methodLink RX5 11 yX3_init, Cond.instanceMethod yX3_init, Cond.code yX3_init cX3_init 1 none, Cond.methodLink RX3 3 objectInit, Cond.fieldLink RX3 9 "TrialSearch$Space" "names" "I"]
def wsX5_init_r2 : List Cond := [Cond.fieldLink RX3 15 "TrialSearch$Space" "all" "J", Cond.arrayClass .int, Cond.fieldLink RX3 19 "TrialSearch$Space" "left" "[I", Cond.fieldLink RX3 23 "TrialSearch$Space" "right" "[I", Cond.fieldLink RX3 26 "TrialSearch$Space" "many" "[I", Cond.fieldLink RX3 29 "TrialSearch$Space" "on" "[I", Cond.fieldLink RX3 32 "TrialSearch$Space" "set" "[I", Cond.arrayClass .long, Cond.fieldLink RX3 35 "TrialSearch$Space" "ways" "[J", Cond.classLink RX3 39 "[[J", Cond.fieldLink RX3 41 "TrialSearch$Space" "waysBelow" "[[J", Cond.methodLink RX5 18 yX4_init, Cond.instanceMethod yX4_init, Cond.code yX4_init cX4_init 2 none, Cond.methodLink RX4 3 objectInit, Cond.fieldLink RX4 9 "TrialSearch$Trials" "made" "I", Cond.fieldLink RX4 15 "TrialSearch$Trials" "scored" "I", Cond.fieldLink RX4 18 "TrialSearch$Trials" "places" "[J", Cond.fieldLink RX4 22 "TrialSearch$Trials" "states" "[I", Cond.fieldLink RX4 26 "TrialSearch$Trials" "scores" "[I", Cond.fieldLink RX4 29 "TrialSearch$Trials" "steps" "[I", Cond.classLink RX4 32 "[[I", Cond.fieldLink RX4 34 "TrialSearch$Trials" "reports" "[[I", Cond.fieldLink RX4 37 "TrialSearch$Trials" "space" "LTrialSearch$Space;"]
def wsX5_init_r3 : List Cond := [Cond.fieldLink RX4 41 "TrialSearch$Trials" "values" "[[I", Cond.fieldLink RX4 44 "TrialSearch$Trials" "nearGaps" "[I", Cond.fieldLink RX4 47 "TrialSearch$Trials" "nearScores" "[I", Cond.fieldLink RX4 50 "TrialSearch$Trials" "others" "[I", Cond.methodLink RX5 27 yX1_init, Cond.instanceMethod yX1_init, Cond.code yX1_init cX1_init 1 none, Cond.methodLink RX1 3 objectInit, Cond.fieldLink RX1 9 "TrialSearch$Rounds" "started" "Z", Cond.fieldLink RX1 15 "TrialSearch$Rounds" "spent" "J", Cond.fieldLink RX1 19 "TrialSearch$Rounds" "marks" "[I", Cond.fieldLink RX1 23 "TrialSearch$Rounds" "stands" "[I", Cond.methodLink RX5 34 yX0_init, Cond.instanceMethod yX0_init, Cond.code yX0_init cX0_init 1 none, Cond.methodLink RX0 3 objectInit, Cond.fieldLink RX0 9 "TrialSearch$Folds" "rows" "I", Cond.fieldLink RX0 15 "TrialSearch$Folds" "outer" "I", Cond.fieldLink RX0 18 "TrialSearch$Folds" "inner" "I", Cond.fieldLink RX0 21 "TrialSearch$Folds" "outerOf" "[I", Cond.fieldLink RX0 25 "TrialSearch$Folds" "innerOf" "[I", Cond.fieldLink RX0 28 "TrialSearch$Folds" "tested" "[I", Cond.classLink RX0 31 "[[I", Cond.fieldLink RX0 33 "TrialSearch$Folds" "chosen" "[[I"]
def wsX5_init_r4 : List Cond := [Cond.fieldLink RX0 36 "TrialSearch$Folds" "order" "[J"]
def wsX5_init : List Cond := .code yX5_init cX5_init 1 none :: ((wsX5_init_r1 ++ (wsX5_init_r2 ++ (wsX5_init_r3 ++ wsX5_init_r4))) ++ wsX30 ++ wsX50 ++ wsX40 ++ wsX10 ++ wsX00)
def wsX5_within : List Cond := .code yX5_within cX5_within 6 (some .boolean) :: ([])
def wsX5_name_r1 : List Cond := [Cond.constantLong RX5 39 (30), Cond.constantLong RX5 45 (-1), Cond.fieldLink RX5 12 "TrialSearch" "space" "LTrialSearch$Space;", Cond.fieldLink RX5 47 "TrialSearch$Space" "names" "I", Cond.constantLong RX5 51 (1073741823), Cond.fieldLink RX5 21 "TrialSearch" "trials" "LTrialSearch$Trials;", Cond.fieldLink RX5 53 "TrialSearch$Trials" "made" "I", Cond.methodLink RX5 41 yX5_within, Cond.static yX5_within, Cond.initialized RX5, Cond.code yX5_within cX5_within 6 (some .boolean), Cond.methodLink RX5 56 yX3_add, Cond.instanceMethod yX3_add, Cond.selects RX3 yX3_add yX3_add, Cond.initialized RX3, Cond.code yX3_add cX3_add 5 (some .int), Cond.fieldLink RX3 9 "TrialSearch$Space" "names" "I", Cond.fieldLink RX3 26 "TrialSearch$Space" "many" "[I", Cond.fieldLink RX3 29 "TrialSearch$Space" "on" "[I", Cond.fieldLink RX3 32 "TrialSearch$Space" "set" "[I", Cond.methodLink RX3 44 yX3_countWays, Cond.instanceMethod yX3_countWays, Cond.selects RX3 yX3_countWays yX3_countWays, Cond.code yX3_countWays cX3_countWays 2 none]
def wsX5_name_r2 : List Cond := [Cond.fieldLink RX3 15 "TrialSearch$Space" "all" "J", Cond.fieldLink RX3 41 "TrialSearch$Space" "waysBelow" "[[J", Cond.fieldLink RX3 35 "TrialSearch$Space" "ways" "[J", Cond.methodLink RX3 47 yJ7_fill_d0a16, Cond.static yJ7_fill_d0a16, Cond.initialized RJ7, Cond.code yJ7_fill_d0a16 cJ7_fill_d0a16 5 none, Cond.methodLink RX3 53 yX3_sumOfWays, Cond.instanceMethod yX3_sumOfWays, Cond.selects RX3 yX3_sumOfWays yX3_sumOfWays, Cond.code yX3_sumOfWays cX3_sumOfWays 5 (some .long), Cond.methodLink RX3 57 yX3_hang, Cond.instanceMethod yX3_hang, Cond.selects RX3 yX3_hang yX3_hang, Cond.code yX3_hang cX3_hang 4 none, Cond.methodLink RX3 61 yX3_hasBit, Cond.static yX3_hasBit, Cond.code yX3_hasBit cX3_hasBit 2 (some .boolean)]
def wsX5_name : List Cond := .code yX5_name cX5_name 4 (some .int) :: ((wsX5_name_r1 ++ wsX5_name_r2) ++ wsX50 ++ wsX30 ++ wsX40)
def wsX5_points : List Cond := .code yX5_points cX5_points 1 (some .long) :: ([.fieldLink RX5 12 "TrialSearch" "space" "LTrialSearch$Space;", .fieldLink RX5 60 "TrialSearch$Space" "all" "J"] ++ wsX50 ++ wsX30)
def wsX5_isPoint : List Cond := .code yX5_isPoint cX5_isPoint 3 (some .boolean) :: ([.fieldLink RX5 12 "TrialSearch" "space" "LTrialSearch$Space;", .fieldLink RX5 60 "TrialSearch$Space" "all" "J", .methodLink RX5 41 yX5_within, .static yX5_within, .initialized RX5, .code yX5_within cX5_within 6 (some .boolean)] ++ wsX50 ++ wsX30)
def wsX5_value_r1 : List Cond := [Cond.fieldLink RX5 12 "TrialSearch" "space" "LTrialSearch$Space;", Cond.fieldLink RX5 47 "TrialSearch$Space" "names" "I", Cond.fieldLink RX5 68 "TrialSearch$Space" "left" "[I", Cond.methodLink RX5 64 yX5_isPoint, Cond.instanceMethod yX5_isPoint, Cond.selects RX5 yX5_isPoint yX5_isPoint, Cond.initialized RX5, Cond.code yX5_isPoint cX5_isPoint 3 (some .boolean), Cond.fieldLink RX5 60 "TrialSearch$Space" "all" "J", Cond.methodLink RX5 41 yX5_within, Cond.static yX5_within, Cond.code yX5_within cX5_within 6 (some .boolean), Cond.methodLink RX5 72 yX3_read, Cond.instanceMethod yX3_read, Cond.selects RX3 yX3_read yX3_read, Cond.initialized RX3, Cond.code yX3_read cX3_read 10 none, Cond.fieldLink RX3 15 "TrialSearch$Space" "all" "J", Cond.fieldLink RX3 9 "TrialSearch$Space" "names" "I", Cond.fieldLink RX3 35 "TrialSearch$Space" "ways" "[J", Cond.fieldLink RX3 26 "TrialSearch$Space" "many" "[I", Cond.fieldLink RX3 41 "TrialSearch$Space" "waysBelow" "[[J", Cond.methodLink RX3 65 yX3_isThere, Cond.instanceMethod yX3_isThere]
def wsX5_value_r2 : List Cond := [Cond.selects RX3 yX3_isThere yX3_isThere, Cond.code yX3_isThere cX3_isThere 4 (some .boolean), Cond.fieldLink RX3 29 "TrialSearch$Space" "on" "[I", Cond.fieldLink RX3 32 "TrialSearch$Space" "set" "[I", Cond.methodLink RX3 61 yX3_hasBit, Cond.static yX3_hasBit, Cond.code yX3_hasBit cX3_hasBit 2 (some .boolean), Cond.static yX5_cut, Cond.code yX5_cut cX5_cut 4 (some .long)]
def wsX5_value : List Cond := .code yX5_value cX5_value 4 (some .int) :: ((wsX5_value_r1 ++ wsX5_value_r2) ++ wsX50 ++ wsX30)
def wsX5_number_r1 : List Cond := [Cond.fieldLink RX5 12 "TrialSearch" "space" "LTrialSearch$Space;", Cond.fieldLink RX5 68 "TrialSearch$Space" "left" "[I", Cond.constantLong RX5 84 (-2), Cond.methodLink RX5 76 yX3_takeBits, Cond.instanceMethod yX3_takeBits, Cond.selects RX3 yX3_takeBits yX3_takeBits, Cond.initialized RX3, Cond.code yX3_takeBits cX3_takeBits 6 (some .boolean), Cond.fieldLink RX3 9 "TrialSearch$Space" "names" "I", Cond.fieldLink RX3 26 "TrialSearch$Space" "many" "[I", Cond.methodLink RX3 65 yX3_isThere, Cond.instanceMethod yX3_isThere, Cond.selects RX3 yX3_isThere yX3_isThere, Cond.code yX3_isThere cX3_isThere 4 (some .boolean), Cond.fieldLink RX3 29 "TrialSearch$Space" "on" "[I", Cond.fieldLink RX3 32 "TrialSearch$Space" "set" "[I", Cond.methodLink RX3 61 yX3_hasBit, Cond.static yX3_hasBit, Cond.code yX3_hasBit cX3_hasBit 2 (some .boolean), Cond.methodLink RX5 80 yX3_place, Cond.instanceMethod yX3_place, Cond.selects RX3 yX3_place yX3_place, Cond.code yX3_place cX3_place 8 (some .long), Cond.fieldLink RX3 15 "TrialSearch$Space" "all" "J"]
def wsX5_number_r2 : List Cond := [Cond.fieldLink RX3 35 "TrialSearch$Space" "ways" "[J", Cond.fieldLink RX3 41 "TrialSearch$Space" "waysBelow" "[[J", Cond.static yX5_cut, Cond.initialized RX5, Cond.code yX5_cut cX5_cut 4 (some .long)]
def wsX5_number : List Cond := .code yX5_number cX5_number 3 (some .long) :: ((wsX5_number_r1 ++ wsX5_number_r2) ++ wsX50 ++ wsX30)
def wsX5_distance_r1 : List Cond := [Cond.fieldLink RX5 12 "TrialSearch" "space" "LTrialSearch$Space;", Cond.fieldLink RX5 68 "TrialSearch$Space" "left" "[I", Cond.fieldLink RX5 86 "TrialSearch$Space" "right" "[I", Cond.methodLink RX5 64 yX5_isPoint, Cond.instanceMethod yX5_isPoint, Cond.selects RX5 yX5_isPoint yX5_isPoint, Cond.initialized RX5, Cond.code yX5_isPoint cX5_isPoint 3 (some .boolean), Cond.fieldLink RX5 60 "TrialSearch$Space" "all" "J", Cond.methodLink RX5 41 yX5_within, Cond.static yX5_within, Cond.code yX5_within cX5_within 6 (some .boolean), Cond.methodLink RX5 72 yX3_read, Cond.instanceMethod yX3_read, Cond.selects RX3 yX3_read yX3_read, Cond.initialized RX3, Cond.code yX3_read cX3_read 10 none, Cond.fieldLink RX3 15 "TrialSearch$Space" "all" "J", Cond.fieldLink RX3 9 "TrialSearch$Space" "names" "I", Cond.fieldLink RX3 35 "TrialSearch$Space" "ways" "[J", Cond.fieldLink RX3 26 "TrialSearch$Space" "many" "[I", Cond.fieldLink RX3 41 "TrialSearch$Space" "waysBelow" "[[J", Cond.methodLink RX3 65 yX3_isThere, Cond.instanceMethod yX3_isThere]
def wsX5_distance_r2 : List Cond := [Cond.selects RX3 yX3_isThere yX3_isThere, Cond.code yX3_isThere cX3_isThere 4 (some .boolean), Cond.fieldLink RX3 29 "TrialSearch$Space" "on" "[I", Cond.fieldLink RX3 32 "TrialSearch$Space" "set" "[I", Cond.methodLink RX3 61 yX3_hasBit, Cond.static yX3_hasBit, Cond.code yX3_hasBit cX3_hasBit 2 (some .boolean), Cond.static yX5_cut, Cond.code yX5_cut cX5_cut 4 (some .long), Cond.methodLink RX5 89 yX3_apart, Cond.instanceMethod yX3_apart, Cond.selects RX3 yX3_apart yX3_apart, Cond.code yX3_apart cX3_apart 5 (some .int), Cond.methodLink RX3 83 yX3_apartAt, Cond.instanceMethod yX3_apartAt, Cond.selects RX3 yX3_apartAt yX3_apartAt, Cond.code yX3_apartAt cX3_apartAt 4 (some .int), Cond.methodLink RX3 87 Lib.Math.abs.name, Cond.static Lib.Math.abs.name, Cond.initialized "java/lang/Math", Cond.code Lib.Math.abs.name Lib.Math.abs.code 1 (some .int)]
def wsX5_distance : List Cond := .code yX5_distance cX5_distance 5 (some .int) :: ((wsX5_distance_r1 ++ wsX5_distance_r2) ++ wsX50 ++ wsX30)
def wsX5_placeBy_r1 : List Cond := [Cond.fieldLink RX5 12 "TrialSearch" "space" "LTrialSearch$Space;", Cond.fieldLink RX5 60 "TrialSearch$Space" "all" "J", Cond.fieldLink RX5 68 "TrialSearch$Space" "left" "[I", Cond.methodLink RX5 272 yX5_rest, Cond.static yX5_rest, Cond.initialized RX5, Cond.code yX5_rest cX5_rest 4 (some .long), Cond.methodLink RX5 275 yX2_pick, Cond.static yX2_pick, Cond.initialized RX2, Cond.code yX2_pick cX2_pick 7 (some .long), Cond.constant RX2 16 (1000000), Cond.methodLink RX2 10 yX2_bitsFor, Cond.static yX2_bitsFor, Cond.code yX2_bitsFor cX2_bitsFor 3 (some .int), Cond.methodLink RX2 17 yX2_twoHashes, Cond.static yX2_twoHashes, Cond.code yX2_twoHashes cX2_twoHashes 6 (some .long), Cond.constantLong RX2 25 (4294967295), Cond.methodLink RX2 21 yX2_hash, Cond.static yX2_hash, Cond.code yX2_hash cX2_hash 3 (some .int), Cond.constant RX2 7 (-1640531527), Cond.constant RX2 8 (-2048144789)]
def wsX5_placeBy_r2 : List Cond := [Cond.constant RX2 9 (-1028477387), Cond.methodLink RX5 280 yX3_pickEach, Cond.instanceMethod yX3_pickEach, Cond.selects RX3 yX3_pickEach yX3_pickEach, Cond.initialized RX3, Cond.code yX3_pickEach cX3_pickEach 4 none, Cond.fieldLink RX3 9 "TrialSearch$Space" "names" "I", Cond.fieldLink RX3 26 "TrialSearch$Space" "many" "[I", Cond.methodLink RX3 65 yX3_isThere, Cond.instanceMethod yX3_isThere, Cond.selects RX3 yX3_isThere yX3_isThere, Cond.code yX3_isThere cX3_isThere 4 (some .boolean), Cond.fieldLink RX3 29 "TrialSearch$Space" "on" "[I", Cond.fieldLink RX3 32 "TrialSearch$Space" "set" "[I", Cond.methodLink RX3 61 yX3_hasBit, Cond.static yX3_hasBit, Cond.code yX3_hasBit cX3_hasBit 2 (some .boolean), Cond.methodLink RX3 73 yX2_hash, Cond.methodLink RX3 79 yX2_pick, Cond.methodLink RX5 80 yX3_place, Cond.instanceMethod yX3_place, Cond.selects RX3 yX3_place yX3_place, Cond.code yX3_place cX3_place 8 (some .long), Cond.fieldLink RX3 15 "TrialSearch$Space" "all" "J"]
def wsX5_placeBy_r3 : List Cond := [Cond.fieldLink RX3 35 "TrialSearch$Space" "ways" "[J", Cond.fieldLink RX3 41 "TrialSearch$Space" "waysBelow" "[[J", Cond.static yX5_cut, Cond.code yX5_cut cX5_cut 4 (some .long)]
def wsX5_placeBy : List Cond := .code yX5_placeBy cX5_placeBy 3 (some .long) :: ((wsX5_placeBy_r1 ++ (wsX5_placeBy_r2 ++ wsX5_placeBy_r3)) ++ wsX50 ++ wsX30)
def wsX5_trial_r1 : List Cond := [Cond.constantLong RX5 93 (2), Cond.fieldLink RX5 21 "TrialSearch" "trials" "LTrialSearch$Trials;", Cond.fieldLink RX5 53 "TrialSearch$Trials" "made" "I", Cond.methodLink RX5 41 yX5_within, Cond.static yX5_within, Cond.initialized RX5, Cond.code yX5_within cX5_within 6 (some .boolean), Cond.methodLink RX5 95 yX5_placeBy, Cond.instanceMethod yX5_placeBy, Cond.selects RX5 yX5_placeBy yX5_placeBy, Cond.code yX5_placeBy cX5_placeBy 3 (some .long), Cond.fieldLink RX5 12 "TrialSearch" "space" "LTrialSearch$Space;", Cond.fieldLink RX5 60 "TrialSearch$Space" "all" "J", Cond.fieldLink RX5 68 "TrialSearch$Space" "left" "[I", Cond.methodLink RX5 272 yX5_rest, Cond.static yX5_rest, Cond.code yX5_rest cX5_rest 4 (some .long), Cond.methodLink RX5 275 yX2_pick, Cond.static yX2_pick, Cond.initialized RX2, Cond.code yX2_pick cX2_pick 7 (some .long), Cond.constant RX2 16 (1000000), Cond.methodLink RX2 10 yX2_bitsFor, Cond.static yX2_bitsFor]
def wsX5_trial_r2 : List Cond := [Cond.code yX2_bitsFor cX2_bitsFor 3 (some .int), Cond.methodLink RX2 17 yX2_twoHashes, Cond.static yX2_twoHashes, Cond.code yX2_twoHashes cX2_twoHashes 6 (some .long), Cond.constantLong RX2 25 (4294967295), Cond.methodLink RX2 21 yX2_hash, Cond.static yX2_hash, Cond.code yX2_hash cX2_hash 3 (some .int), Cond.constant RX2 7 (-1640531527), Cond.constant RX2 8 (-2048144789), Cond.constant RX2 9 (-1028477387), Cond.methodLink RX5 280 yX3_pickEach, Cond.instanceMethod yX3_pickEach, Cond.selects RX3 yX3_pickEach yX3_pickEach, Cond.initialized RX3, Cond.code yX3_pickEach cX3_pickEach 4 none, Cond.fieldLink RX3 9 "TrialSearch$Space" "names" "I", Cond.fieldLink RX3 26 "TrialSearch$Space" "many" "[I", Cond.methodLink RX3 65 yX3_isThere, Cond.instanceMethod yX3_isThere, Cond.selects RX3 yX3_isThere yX3_isThere, Cond.code yX3_isThere cX3_isThere 4 (some .boolean), Cond.fieldLink RX3 29 "TrialSearch$Space" "on" "[I", Cond.fieldLink RX3 32 "TrialSearch$Space" "set" "[I"]
def wsX5_trial_r3 : List Cond := [Cond.methodLink RX3 61 yX3_hasBit, Cond.static yX3_hasBit, Cond.code yX3_hasBit cX3_hasBit 2 (some .boolean), Cond.methodLink RX3 73 yX2_hash, Cond.methodLink RX3 79 yX2_pick, Cond.methodLink RX5 80 yX3_place, Cond.instanceMethod yX3_place, Cond.selects RX3 yX3_place yX3_place, Cond.code yX3_place cX3_place 8 (some .long), Cond.fieldLink RX3 15 "TrialSearch$Space" "all" "J", Cond.fieldLink RX3 35 "TrialSearch$Space" "ways" "[J", Cond.fieldLink RX3 41 "TrialSearch$Space" "waysBelow" "[[J", Cond.static yX5_cut, Cond.code yX5_cut cX5_cut 4 (some .long), Cond.methodLink RX5 99 yX4_add, Cond.instanceMethod yX4_add, Cond.selects RX4 yX4_add yX4_add, Cond.initialized RX4, Cond.code yX4_add cX4_add 4 (some .int), Cond.fieldLink RX4 9 "TrialSearch$Trials" "made" "I", Cond.fieldLink RX4 18 "TrialSearch$Trials" "places" "[J", Cond.fieldLink RX4 22 "TrialSearch$Trials" "states" "[I", Cond.fieldLink RX4 37 "TrialSearch$Trials" "space" "LTrialSearch$Space;", Cond.fieldLink RX4 41 "TrialSearch$Trials" "values" "[[I"]
def wsX5_trial_r4 : List Cond := [Cond.methodLink RX4 53 yX3_read, Cond.instanceMethod yX3_read, Cond.selects RX3 yX3_read yX3_read, Cond.code yX3_read cX3_read 10 none]
def wsX5_trial : List Cond := .code yX5_trial cX5_trial 3 (some .int) :: ((wsX5_trial_r1 ++ (wsX5_trial_r2 ++ (wsX5_trial_r3 ++ wsX5_trial_r4))) ++ wsX50 ++ wsX40 ++ wsX30)
def wsX5_guess_r1 : List Cond := [Cond.constantLong RX5 102 (40), Cond.constantLong RX5 104 (5), Cond.fieldLink RX5 21 "TrialSearch" "trials" "LTrialSearch$Trials;", Cond.fieldLink RX5 53 "TrialSearch$Trials" "made" "I", Cond.methodLink RX5 41 yX5_within, Cond.static yX5_within, Cond.initialized RX5, Cond.code yX5_within cX5_within 6 (some .boolean), Cond.methodLink RX5 106 yX4_bestCandidate, Cond.instanceMethod yX4_bestCandidate, Cond.selects RX4 yX4_bestCandidate yX4_bestCandidate, Cond.initialized RX4, Cond.code yX4_bestCandidate cX4_bestCandidate 13 (some .long), Cond.fieldLink RX4 37 "TrialSearch$Trials" "space" "LTrialSearch$Space;", Cond.fieldLink RX4 59 "TrialSearch$Space" "all" "J", Cond.fieldLink RX4 15 "TrialSearch$Trials" "scored" "I", Cond.methodLink RX4 63 yX2_hash, Cond.static yX2_hash, Cond.initialized RX2, Cond.code yX2_hash cX2_hash 3 (some .int), Cond.constant RX2 7 (-1640531527), Cond.constant RX2 8 (-2048144789), Cond.constant RX2 9 (-1028477387), Cond.methodLink RX4 69 yX2_pick]
def wsX5_guess_r2 : List Cond := [Cond.static yX2_pick, Cond.code yX2_pick cX2_pick 7 (some .long), Cond.constant RX2 16 (1000000), Cond.methodLink RX2 10 yX2_bitsFor, Cond.static yX2_bitsFor, Cond.code yX2_bitsFor cX2_bitsFor 3 (some .int), Cond.methodLink RX2 17 yX2_twoHashes, Cond.static yX2_twoHashes, Cond.code yX2_twoHashes cX2_twoHashes 6 (some .long), Cond.constantLong RX2 25 (4294967295), Cond.methodLink RX2 21 yX2_hash, Cond.methodLink RX4 73 yX4_nearSum, Cond.instanceMethod yX4_nearSum, Cond.selects RX4 yX4_nearSum yX4_nearSum, Cond.code yX4_nearSum cX4_nearSum 8 (some .long), Cond.fieldLink RX4 76 "TrialSearch$Space" "left" "[I", Cond.fieldLink RX4 9 "TrialSearch$Trials" "made" "I", Cond.fieldLink RX4 22 "TrialSearch$Trials" "states" "[I", Cond.fieldLink RX4 41 "TrialSearch$Trials" "values" "[[I", Cond.fieldLink RX4 26 "TrialSearch$Trials" "scores" "[I", Cond.fieldLink RX4 47 "TrialSearch$Trials" "nearScores" "[I", Cond.methodLink RX4 53 yX3_read, Cond.instanceMethod yX3_read, Cond.selects RX3 yX3_read yX3_read]
def wsX5_guess_r3 : List Cond := [Cond.initialized RX3, Cond.code yX3_read cX3_read 10 none, Cond.fieldLink RX3 15 "TrialSearch$Space" "all" "J", Cond.fieldLink RX3 9 "TrialSearch$Space" "names" "I", Cond.fieldLink RX3 35 "TrialSearch$Space" "ways" "[J", Cond.fieldLink RX3 26 "TrialSearch$Space" "many" "[I", Cond.fieldLink RX3 41 "TrialSearch$Space" "waysBelow" "[[J", Cond.methodLink RX3 65 yX3_isThere, Cond.instanceMethod yX3_isThere, Cond.selects RX3 yX3_isThere yX3_isThere, Cond.code yX3_isThere cX3_isThere 4 (some .boolean), Cond.fieldLink RX3 29 "TrialSearch$Space" "on" "[I", Cond.fieldLink RX3 32 "TrialSearch$Space" "set" "[I", Cond.methodLink RX3 61 yX3_hasBit, Cond.static yX3_hasBit, Cond.code yX3_hasBit cX3_hasBit 2 (some .boolean), Cond.static yX5_cut, Cond.code yX5_cut cX5_cut 4 (some .long), Cond.methodLink RX4 79 yX3_apart, Cond.instanceMethod yX3_apart, Cond.selects RX3 yX3_apart yX3_apart, Cond.code yX3_apart cX3_apart 5 (some .int), Cond.methodLink RX3 83 yX3_apartAt, Cond.instanceMethod yX3_apartAt]
def wsX5_guess_r4 : List Cond := [Cond.selects RX3 yX3_apartAt yX3_apartAt, Cond.code yX3_apartAt cX3_apartAt 4 (some .int), Cond.methodLink RX3 87 Lib.Math.abs.name, Cond.static Lib.Math.abs.name, Cond.initialized "java/lang/Math", Cond.code Lib.Math.abs.name Lib.Math.abs.code 1 (some .int), Cond.methodLink RX4 83 yX4_holdNear, Cond.instanceMethod yX4_holdNear, Cond.selects RX4 yX4_holdNear yX4_holdNear, Cond.code yX4_holdNear cX4_holdNear 8 (some .int), Cond.fieldLink RX4 44 "TrialSearch$Trials" "nearGaps" "[I", Cond.methodLink RX4 87 Lib.Math.min.name, Cond.static Lib.Math.min.name, Cond.code Lib.Math.min.name Lib.Math.min.code 2 (some .int), Cond.methodLink RX5 99 yX4_add, Cond.instanceMethod yX4_add, Cond.selects RX4 yX4_add yX4_add, Cond.code yX4_add cX4_add 4 (some .int), Cond.fieldLink RX4 18 "TrialSearch$Trials" "places" "[J"]
def wsX5_guess : List Cond := .code yX5_guess cX5_guess 4 (some .int) :: ((wsX5_guess_r1 ++ (wsX5_guess_r2 ++ (wsX5_guess_r3 ++ wsX5_guess_r4))) ++ wsX50 ++ wsX40 ++ wsX30)
def wsX5_commonDivisor : List Cond := .code yX5_commonDivisor cX5_commonDivisor 11 (some .long) :: ([.methodLink RX5 272 yX5_rest, .static yX5_rest, .initialized RX5, .code yX5_rest cX5_rest 4 (some .long)])
def wsX5_forecast_r1 : List Cond := [Cond.constantLong RX5 104 (5), Cond.constantLong RX5 110 (-1000000000000000001), Cond.fieldLink RX5 21 "TrialSearch" "trials" "LTrialSearch$Trials;", Cond.fieldLink RX5 112 "TrialSearch$Trials" "scored" "I", Cond.constantLong RX5 115 (-1000000000000000002), Cond.methodLink RX5 121 Lib.Math.min.name, Cond.static Lib.Math.min.name, Cond.initialized "java/lang/Math", Cond.code Lib.Math.min.name Lib.Math.min.code 2 (some .int), Cond.methodLink RX5 127 Lib.MathLoose.abs_long.x, Cond.static Lib.MathLoose.abs_long.x, Cond.code Lib.MathLoose.abs_long.x Lib.MathLoose.abs_long.code 2 (some .long), Cond.methodLink RX5 64 yX5_isPoint, Cond.instanceMethod yX5_isPoint, Cond.selects RX5 yX5_isPoint yX5_isPoint, Cond.initialized RX5, Cond.code yX5_isPoint cX5_isPoint 3 (some .boolean), Cond.fieldLink RX5 12 "TrialSearch" "space" "LTrialSearch$Space;", Cond.fieldLink RX5 60 "TrialSearch$Space" "all" "J", Cond.methodLink RX5 41 yX5_within, Cond.static yX5_within, Cond.code yX5_within cX5_within 6 (some .boolean), Cond.methodLink RX5 117 yX4_nearSum, Cond.instanceMethod yX4_nearSum]
def wsX5_forecast_r2 : List Cond := [Cond.selects RX4 yX4_nearSum yX4_nearSum, Cond.initialized RX4, Cond.code yX4_nearSum cX4_nearSum 8 (some .long), Cond.fieldLink RX4 37 "TrialSearch$Trials" "space" "LTrialSearch$Space;", Cond.fieldLink RX4 76 "TrialSearch$Space" "left" "[I", Cond.fieldLink RX4 9 "TrialSearch$Trials" "made" "I", Cond.fieldLink RX4 22 "TrialSearch$Trials" "states" "[I", Cond.fieldLink RX4 41 "TrialSearch$Trials" "values" "[[I", Cond.fieldLink RX4 26 "TrialSearch$Trials" "scores" "[I", Cond.fieldLink RX4 47 "TrialSearch$Trials" "nearScores" "[I", Cond.methodLink RX4 53 yX3_read, Cond.instanceMethod yX3_read, Cond.selects RX3 yX3_read yX3_read, Cond.initialized RX3, Cond.code yX3_read cX3_read 10 none, Cond.fieldLink RX3 15 "TrialSearch$Space" "all" "J", Cond.fieldLink RX3 9 "TrialSearch$Space" "names" "I", Cond.fieldLink RX3 35 "TrialSearch$Space" "ways" "[J", Cond.fieldLink RX3 26 "TrialSearch$Space" "many" "[I", Cond.fieldLink RX3 41 "TrialSearch$Space" "waysBelow" "[[J", Cond.methodLink RX3 65 yX3_isThere, Cond.instanceMethod yX3_isThere, Cond.selects RX3 yX3_isThere yX3_isThere, Cond.code yX3_isThere cX3_isThere 4 (some .boolean)]
def wsX5_forecast_r3 : List Cond := [Cond.fieldLink RX3 29 "TrialSearch$Space" "on" "[I", Cond.fieldLink RX3 32 "TrialSearch$Space" "set" "[I", Cond.methodLink RX3 61 yX3_hasBit, Cond.static yX3_hasBit, Cond.code yX3_hasBit cX3_hasBit 2 (some .boolean), Cond.static yX5_cut, Cond.code yX5_cut cX5_cut 4 (some .long), Cond.methodLink RX4 79 yX3_apart, Cond.instanceMethod yX3_apart, Cond.selects RX3 yX3_apart yX3_apart, Cond.code yX3_apart cX3_apart 5 (some .int), Cond.methodLink RX3 83 yX3_apartAt, Cond.instanceMethod yX3_apartAt, Cond.selects RX3 yX3_apartAt yX3_apartAt, Cond.code yX3_apartAt cX3_apartAt 4 (some .int), Cond.methodLink RX3 87 Lib.Math.abs.name, Cond.static Lib.Math.abs.name, Cond.code Lib.Math.abs.name Lib.Math.abs.code 1 (some .int), Cond.methodLink RX4 83 yX4_holdNear, Cond.instanceMethod yX4_holdNear, Cond.selects RX4 yX4_holdNear yX4_holdNear, Cond.code yX4_holdNear cX4_holdNear 8 (some .int), Cond.fieldLink RX4 44 "TrialSearch$Trials" "nearGaps" "[I", Cond.methodLink RX4 87 Lib.Math.min.name]
def wsX5_forecast_r4 : List Cond := [Cond.methodLink RX5 131 yX5_commonDivisor, Cond.static yX5_commonDivisor, Cond.code yX5_commonDivisor cX5_commonDivisor 11 (some .long), Cond.methodLink RX5 272 yX5_rest, Cond.static yX5_rest, Cond.code yX5_rest cX5_rest 4 (some .long), Cond.methodLink RX5 135 yX5_cut]
def wsX5_forecast : List Cond := .code yX5_forecast cX5_forecast 11 (some .long) :: ((wsX5_forecast_r1 ++ (wsX5_forecast_r2 ++ (wsX5_forecast_r3 ++ wsX5_forecast_r4))) ++ wsX50 ++ wsX40 ++ wsX30)
def wsX5_isTrial : List Cond := .code yX5_isTrial cX5_isTrial 2 (some .boolean) :: ([.fieldLink RX5 21 "TrialSearch" "trials" "LTrialSearch$Trials;", .fieldLink RX5 53 "TrialSearch$Trials" "made" "I", .methodLink RX5 41 yX5_within, .static yX5_within, .initialized RX5, .code yX5_within cX5_within 6 (some .boolean)] ++ wsX50 ++ wsX40)
def wsX5_isMark : List Cond := .code yX5_isMark cX5_isMark 2 (some .boolean) :: ([.constantLong RX5 264 (-1000000), .constantLong RX5 183 (1000000), .methodLink RX5 41 yX5_within, .static yX5_within, .initialized RX5, .code yX5_within cX5_within 6 (some .boolean)])
def wsX5_score : List Cond := .code yX5_score cX5_score 4 (some .int) :: ([.fieldLink RX5 21 "TrialSearch" "trials" "LTrialSearch$Trials;", .fieldLink RX5 146 "TrialSearch$Trials" "states" "[I", .methodLink RX5 138 yX5_isTrial, .instanceMethod yX5_isTrial, .selects RX5 yX5_isTrial yX5_isTrial, .initialized RX5, .code yX5_isTrial cX5_isTrial 2 (some .boolean), .fieldLink RX5 53 "TrialSearch$Trials" "made" "I", .methodLink RX5 41 yX5_within, .static yX5_within, .code yX5_within cX5_within 6 (some .boolean), .methodLink RX5 142 yX5_isMark, .static yX5_isMark, .code yX5_isMark cX5_isMark 2 (some .boolean), .constantLong RX5 264 (-1000000), .constantLong RX5 183 (1000000), .methodLink RX5 149 yX4_close, .instanceMethod yX4_close, .selects RX4 yX4_close yX4_close, .initialized RX4, .code yX4_close cX4_close 4 (some .int), .fieldLink RX4 22 "TrialSearch$Trials" "states" "[I", .fieldLink RX4 26 "TrialSearch$Trials" "scores" "[I", .fieldLink RX4 15 "TrialSearch$Trials" "scored" "I"] ++ wsX50 ++ wsX40)
def wsX5_report_r1 : List Cond := [Cond.constantLong RX5 153 (60), Cond.fieldLink RX5 21 "TrialSearch" "trials" "LTrialSearch$Trials;", Cond.fieldLink RX5 146 "TrialSearch$Trials" "states" "[I", Cond.fieldLink RX5 155 "TrialSearch$Trials" "steps" "[I", Cond.methodLink RX5 138 yX5_isTrial, Cond.instanceMethod yX5_isTrial, Cond.selects RX5 yX5_isTrial yX5_isTrial, Cond.initialized RX5, Cond.code yX5_isTrial cX5_isTrial 2 (some .boolean), Cond.fieldLink RX5 53 "TrialSearch$Trials" "made" "I", Cond.methodLink RX5 41 yX5_within, Cond.static yX5_within, Cond.code yX5_within cX5_within 6 (some .boolean), Cond.methodLink RX5 142 yX5_isMark, Cond.static yX5_isMark, Cond.code yX5_isMark cX5_isMark 2 (some .boolean), Cond.constantLong RX5 264 (-1000000), Cond.constantLong RX5 183 (1000000), Cond.methodLink RX5 158 yX4_addReport, Cond.instanceMethod yX4_addReport, Cond.selects RX4 yX4_addReport yX4_addReport, Cond.initialized RX4, Cond.code yX4_addReport cX4_addReport 6 (some .int), Cond.fieldLink RX4 29 "TrialSearch$Trials" "steps" "[I"]
def wsX5_report_r2 : List Cond := [Cond.fieldLink RX4 34 "TrialSearch$Trials" "reports" "[[I", Cond.fieldLink RX4 22 "TrialSearch$Trials" "states" "[I", Cond.methodLink RX4 92 yX4_isBelowMiddle, Cond.instanceMethod yX4_isBelowMiddle, Cond.selects RX4 yX4_isBelowMiddle yX4_isBelowMiddle, Cond.code yX4_isBelowMiddle cX4_isBelowMiddle 7 (some .boolean), Cond.fieldLink RX4 9 "TrialSearch$Trials" "made" "I", Cond.fieldLink RX4 50 "TrialSearch$Trials" "others" "[I", Cond.methodLink RX4 96 yX4_sortIn, Cond.instanceMethod yX4_sortIn, Cond.selects RX4 yX4_sortIn yX4_sortIn, Cond.code yX4_sortIn cX4_sortIn 4 none]
def wsX5_report : List Cond := .code yX5_report cX5_report 4 (some .int) :: ((wsX5_report_r1 ++ wsX5_report_r2) ++ wsX50 ++ wsX40)
def wsX5_told : List Cond := .code yX5_told cX5_told 3 (some .int) :: ([.fieldLink RX5 21 "TrialSearch" "trials" "LTrialSearch$Trials;", .fieldLink RX5 146 "TrialSearch$Trials" "states" "[I", .fieldLink RX5 161 "TrialSearch$Trials" "scores" "[I", .fieldLink RX5 155 "TrialSearch$Trials" "steps" "[I", .fieldLink RX5 28 "TrialSearch" "rounds" "LTrialSearch$Rounds;", .fieldLink RX5 164 "TrialSearch$Rounds" "marks" "[I", .methodLink RX5 138 yX5_isTrial, .instanceMethod yX5_isTrial, .selects RX5 yX5_isTrial yX5_isTrial, .initialized RX5, .code yX5_isTrial cX5_isTrial 2 (some .boolean), .fieldLink RX5 53 "TrialSearch$Trials" "made" "I", .methodLink RX5 41 yX5_within, .static yX5_within, .code yX5_within cX5_within 6 (some .boolean), .methodLink RX5 167 yX1_isIn, .instanceMethod yX1_isIn, .selects RX1 yX1_isIn yX1_isIn, .initialized RX1, .code yX1_isIn cX1_isIn 2 (some .boolean), .fieldLink RX1 23 "TrialSearch$Rounds" "stands" "[I"] ++ wsX50 ++ wsX40 ++ wsX10)
def wsX5_point : List Cond := .code yX5_point cX5_point 2 (some .long) :: ([.fieldLink RX5 21 "TrialSearch" "trials" "LTrialSearch$Trials;", .fieldLink RX5 170 "TrialSearch$Trials" "places" "[J", .constantLong RX5 45 (-1), .methodLink RX5 138 yX5_isTrial, .instanceMethod yX5_isTrial, .selects RX5 yX5_isTrial yX5_isTrial, .initialized RX5, .code yX5_isTrial cX5_isTrial 2 (some .boolean), .fieldLink RX5 53 "TrialSearch$Trials" "made" "I", .methodLink RX5 41 yX5_within, .static yX5_within, .code yX5_within cX5_within 6 (some .boolean)] ++ wsX50 ++ wsX40)
def wsX5_reported : List Cond := .code yX5_reported cX5_reported 3 (some .int) :: ([.fieldLink RX5 21 "TrialSearch" "trials" "LTrialSearch$Trials;", .fieldLink RX5 155 "TrialSearch$Trials" "steps" "[I", .constant RX5 174 (-2000000), .fieldLink RX5 175 "TrialSearch$Trials" "reports" "[[I", .methodLink RX5 138 yX5_isTrial, .instanceMethod yX5_isTrial, .selects RX5 yX5_isTrial yX5_isTrial, .initialized RX5, .code yX5_isTrial cX5_isTrial 2 (some .boolean), .fieldLink RX5 53 "TrialSearch$Trials" "made" "I", .methodLink RX5 41 yX5_within, .static yX5_within, .code yX5_within cX5_within 6 (some .boolean)] ++ wsX50 ++ wsX40)
def wsX5_best : List Cond := .code yX5_best cX5_best 1 (some .int) :: ([.fieldLink RX5 21 "TrialSearch" "trials" "LTrialSearch$Trials;", .methodLink RX5 179 yX4_firstGreatest, .instanceMethod yX4_firstGreatest, .selects RX4 yX4_firstGreatest yX4_firstGreatest, .initialized RX4, .code yX4_firstGreatest cX4_firstGreatest 3 (some .int), .fieldLink RX4 9 "TrialSearch$Trials" "made" "I", .fieldLink RX4 22 "TrialSearch$Trials" "states" "[I", .fieldLink RX4 26 "TrialSearch$Trials" "scores" "[I"] ++ wsX50 ++ wsX40)
def wsX5_bracket_r1 : List Cond := [Cond.constantLong RX5 153 (60), Cond.fieldLink RX5 21 "TrialSearch" "trials" "LTrialSearch$Trials;", Cond.fieldLink RX5 53 "TrialSearch$Trials" "made" "I", Cond.constantLong RX5 183 (1000000), Cond.constantLong RX5 93 (2), Cond.constantLong RX5 104 (5), Cond.fieldLink RX5 28 "TrialSearch" "rounds" "LTrialSearch$Rounds;", Cond.methodLink RX5 41 yX5_within, Cond.static yX5_within, Cond.initialized RX5, Cond.code yX5_within cX5_within 6 (some .boolean), Cond.methodLink RX5 185 yX1_start, Cond.instanceMethod yX1_start, Cond.selects RX1 yX1_start yX1_start, Cond.initialized RX1, Cond.code yX1_start cX1_start 6 none, Cond.fieldLink RX1 9 "TrialSearch$Rounds" "started" "Z", Cond.fieldLink RX1 26 "TrialSearch$Rounds" "over" "Z", Cond.fieldLink RX1 15 "TrialSearch$Rounds" "spent" "J", Cond.fieldLink RX1 29 "TrialSearch$Rounds" "halved" "I", Cond.fieldLink RX1 33 "TrialSearch$Rounds" "budget" "I", Cond.fieldLink RX1 36 "TrialSearch$Rounds" "factor" "I", Cond.fieldLink RX1 19 "TrialSearch$Rounds" "marks" "[I", Cond.fieldLink RX1 23 "TrialSearch$Rounds" "stands" "[I"]
def wsX5_bracket_r2 : List Cond := [Cond.fieldLink RX1 39 "TrialSearch$Rounds" "in" "I", Cond.fieldLink RX1 42 "TrialSearch$Rounds" "waiting" "I"]
def wsX5_bracket : List Cond := .code yX5_bracket cX5_bracket 5 (some .int) :: ((wsX5_bracket_r1 ++ wsX5_bracket_r2) ++ wsX50 ++ wsX40 ++ wsX10)
def wsX5_result_r1 : List Cond := [Cond.fieldLink RX5 28 "TrialSearch" "rounds" "LTrialSearch$Rounds;", Cond.methodLink RX5 138 yX5_isTrial, Cond.instanceMethod yX5_isTrial, Cond.selects RX5 yX5_isTrial yX5_isTrial, Cond.initialized RX5, Cond.code yX5_isTrial cX5_isTrial 2 (some .boolean), Cond.fieldLink RX5 21 "TrialSearch" "trials" "LTrialSearch$Trials;", Cond.fieldLink RX5 53 "TrialSearch$Trials" "made" "I", Cond.methodLink RX5 41 yX5_within, Cond.static yX5_within, Cond.code yX5_within cX5_within 6 (some .boolean), Cond.methodLink RX5 142 yX5_isMark, Cond.static yX5_isMark, Cond.code yX5_isMark cX5_isMark 2 (some .boolean), Cond.constantLong RX5 264 (-1000000), Cond.constantLong RX5 183 (1000000), Cond.methodLink RX5 189 yX1_isWaiting, Cond.instanceMethod yX1_isWaiting, Cond.selects RX1 yX1_isWaiting yX1_isWaiting, Cond.initialized RX1, Cond.code yX1_isWaiting cX1_isWaiting 2 (some .boolean), Cond.fieldLink RX1 23 "TrialSearch$Rounds" "stands" "[I", Cond.methodLink RX5 192 yX1_mark, Cond.instanceMethod yX1_mark]
def wsX5_result_r2 : List Cond := [Cond.selects RX1 yX1_mark yX1_mark, Cond.code yX1_mark cX1_mark 4 (some .int), Cond.fieldLink RX1 19 "TrialSearch$Rounds" "marks" "[I", Cond.fieldLink RX1 15 "TrialSearch$Rounds" "spent" "J", Cond.fieldLink RX1 33 "TrialSearch$Rounds" "budget" "I", Cond.fieldLink RX1 42 "TrialSearch$Rounds" "waiting" "I"]
def wsX5_result : List Cond := .code yX5_result cX5_result 4 (some .int) :: ((wsX5_result_r1 ++ wsX5_result_r2) ++ wsX50 ++ wsX40 ++ wsX10)
def wsX5_halve_r1 : List Cond := [Cond.fieldLink RX5 28 "TrialSearch" "rounds" "LTrialSearch$Rounds;", Cond.methodLink RX5 195 yX1_canEnd, Cond.instanceMethod yX1_canEnd, Cond.selects RX1 yX1_canEnd yX1_canEnd, Cond.initialized RX1, Cond.code yX1_canEnd cX1_canEnd 1 (some .boolean), Cond.fieldLink RX1 9 "TrialSearch$Rounds" "started" "Z", Cond.fieldLink RX1 26 "TrialSearch$Rounds" "over" "Z", Cond.fieldLink RX1 42 "TrialSearch$Rounds" "waiting" "I", Cond.methodLink RX5 199 yX1_end, Cond.instanceMethod yX1_end, Cond.selects RX1 yX1_end yX1_end, Cond.code yX1_end cX1_end 4 (some .int), Cond.fieldLink RX1 39 "TrialSearch$Rounds" "in" "I", Cond.fieldLink RX1 36 "TrialSearch$Rounds" "factor" "I", Cond.methodLink RX1 49 Lib.MathLoose.max_long.x, Cond.static Lib.MathLoose.max_long.x, Cond.initialized "java/lang/Math", Cond.code Lib.MathLoose.max_long.x Lib.MathLoose.max_long.code 4 (some .long), Cond.fieldLink RX1 29 "TrialSearch$Rounds" "halved" "I", Cond.fieldLink RX1 33 "TrialSearch$Rounds" "budget" "I", Cond.constantLong RX1 61 (1000000000), Cond.methodLink RX1 63 Lib.MathLoose.min_long.x, Cond.static Lib.MathLoose.min_long.x]
def wsX5_halve_r2 : List Cond := [Cond.code Lib.MathLoose.min_long.x Lib.MathLoose.min_long.code 4 (some .long), Cond.static yX5_cut, Cond.initialized RX5, Cond.code yX5_cut cX5_cut 4 (some .long), Cond.methodLink RX1 54 yX1_keepGreatest, Cond.instanceMethod yX1_keepGreatest, Cond.selects RX1 yX1_keepGreatest yX1_keepGreatest, Cond.code yX1_keepGreatest cX1_keepGreatest 3 (some .boolean), Cond.fieldLink RX1 23 "TrialSearch$Rounds" "stands" "[I", Cond.fieldLink RX1 19 "TrialSearch$Rounds" "marks" "[I", Cond.methodLink RX1 58 yX1_openRound, Cond.instanceMethod yX1_openRound, Cond.selects RX1 yX1_openRound yX1_openRound, Cond.code yX1_openRound cX1_openRound 2 none]
def wsX5_halve : List Cond := .code yX5_halve cX5_halve 1 (some .int) :: ((wsX5_halve_r1 ++ wsX5_halve_r2) ++ wsX50 ++ wsX10)
def wsX5_round : List Cond := .code yX5_round cX5_round 2 (some .int) :: ([.constantLong RX5 202 (3), .fieldLink RX5 28 "TrialSearch" "rounds" "LTrialSearch$Rounds;", .fieldLink RX5 204 "TrialSearch$Rounds" "started" "Z", .methodLink RX5 41 yX5_within, .static yX5_within, .initialized RX5, .code yX5_within cX5_within 6 (some .boolean), .methodLink RX5 208 yX1_tell, .instanceMethod yX1_tell, .selects RX1 yX1_tell yX1_tell, .initialized RX1, .code yX1_tell cX1_tell 2 (some .int), .fieldLink RX1 39 "TrialSearch$Rounds" "in" "I", .fieldLink RX1 29 "TrialSearch$Rounds" "halved" "I", .fieldLink RX1 33 "TrialSearch$Rounds" "budget" "I", .fieldLink RX1 26 "TrialSearch$Rounds" "over" "Z"] ++ wsX50 ++ wsX10)
def wsX5_cost : List Cond := .code yX5_cost cX5_cost 1 (some .long) :: ([.fieldLink RX5 28 "TrialSearch" "rounds" "LTrialSearch$Rounds;", .fieldLink RX5 212 "TrialSearch$Rounds" "spent" "J"] ++ wsX50 ++ wsX10)
def wsX5_power : List Cond := .code yX5_power cX5_power 5 (some .long) :: ([])
def wsX5_lastBracket : List Cond := .code yX5_lastBracket cX5_lastBracket 3 (some .int) :: ([.methodLink RX5 218 yX5_power, .static yX5_power, .initialized RX5, .code yX5_power cX5_power 5 (some .long)])
def wsX5_cutUp : List Cond := .code yX5_cutUp cX5_cutUp 4 (some .long) :: ([.methodLink RX5 135 yX5_cut, .static yX5_cut, .initialized RX5, .code yX5_cut cX5_cut 4 (some .long)])
def wsX5_plan : List Cond := .code yX5_plan cX5_plan 8 (some .int) :: ([.constantLong RX5 183 (1000000), .constantLong RX5 93 (2), .constantLong RX5 104 (5), .constantLong RX5 45 (-1), .methodLink RX5 41 yX5_within, .static yX5_within, .initialized RX5, .code yX5_within cX5_within 6 (some .boolean), .methodLink RX5 215 yX5_lastBracket, .static yX5_lastBracket, .code yX5_lastBracket cX5_lastBracket 3 (some .int), .methodLink RX5 218 yX5_power, .static yX5_power, .code yX5_power cX5_power 5 (some .long), .methodLink RX5 221 yX5_cutUp, .static yX5_cutUp, .code yX5_cutUp cX5_cutUp 4 (some .long), .methodLink RX5 135 yX5_cut, .static yX5_cut, .code yX5_cut cX5_cut 4 (some .long)])
def wsX5_folds_r1 : List Cond := [Cond.constantLong RX5 224 (200), Cond.constantLong RX5 93 (2), Cond.constantLong RX5 226 (10), Cond.fieldLink RX5 35 "TrialSearch" "parts" "LTrialSearch$Folds;", Cond.methodLink RX5 41 yX5_within, Cond.static yX5_within, Cond.initialized RX5, Cond.code yX5_within cX5_within 6 (some .boolean), Cond.methodLink RX5 228 yX0_make, Cond.instanceMethod yX0_make, Cond.selects RX0 yX0_make yX0_make, Cond.initialized RX0, Cond.code yX0_make cX0_make 7 none, Cond.fieldLink RX0 9 "TrialSearch$Folds" "rows" "I", Cond.fieldLink RX0 15 "TrialSearch$Folds" "outer" "I", Cond.fieldLink RX0 18 "TrialSearch$Folds" "inner" "I", Cond.fieldLink RX0 28 "TrialSearch$Folds" "tested" "[I", Cond.fieldLink RX0 33 "TrialSearch$Folds" "chosen" "[[I", Cond.fieldLink RX0 36 "TrialSearch$Folds" "order" "[J", Cond.fieldLink RX0 21 "TrialSearch$Folds" "outerOf" "[I", Cond.fieldLink RX0 25 "TrialSearch$Folds" "innerOf" "[I", Cond.methodLink RX0 40 yJ7_fill_53178, Cond.static yJ7_fill_53178, Cond.initialized RJ7]
def wsX5_folds_r2 : List Cond := [Cond.code yJ7_fill_53178 cJ7_fill_53178 4 none, Cond.methodLink RX0 46 yX2_hash, Cond.static yX2_hash, Cond.initialized RX2, Cond.code yX2_hash cX2_hash 3 (some .int), Cond.constant RX2 7 (-1640531527), Cond.constant RX2 8 (-2048144789), Cond.constant RX2 9 (-1028477387), Cond.methodLink RX0 52 yX0_sortIn, Cond.instanceMethod yX0_sortIn, Cond.selects RX0 yX0_sortIn yX0_sortIn, Cond.code yX0_sortIn cX0_sortIn 7 none, Cond.methodLink RX0 63 arraycopyName, Cond.native arraycopyName, Cond.static arraycopyName, Cond.initialized "java/lang/System", Cond.static yX5_rest, Cond.code yX5_rest cX5_rest 4 (some .long), Cond.static yX5_cut, Cond.code yX5_cut cX5_cut 4 (some .long)]
def wsX5_folds : List Cond := .code yX5_folds cX5_folds 5 (some .int) :: ((wsX5_folds_r1 ++ wsX5_folds_r2) ++ wsX50 ++ wsX00)
def wsX5_isRow : List Cond := .code yX5_isRow cX5_isRow 2 (some .boolean) :: ([.fieldLink RX5 35 "TrialSearch" "parts" "LTrialSearch$Folds;", .fieldLink RX5 266 "TrialSearch$Folds" "rows" "I", .methodLink RX5 41 yX5_within, .static yX5_within, .initialized RX5, .code yX5_within cX5_within 6 (some .boolean)] ++ wsX50 ++ wsX00)
def wsX5_fold : List Cond := .code yX5_fold cX5_fold 3 (some .int) :: ([.fieldLink RX5 35 "TrialSearch" "parts" "LTrialSearch$Folds;", .fieldLink RX5 234 "TrialSearch$Folds" "outerOf" "[I", .fieldLink RX5 237 "TrialSearch$Folds" "innerOf" "[I", .methodLink RX5 231 yX5_isRow, .instanceMethod yX5_isRow, .selects RX5 yX5_isRow yX5_isRow, .initialized RX5, .code yX5_isRow cX5_isRow 2 (some .boolean), .fieldLink RX5 266 "TrialSearch$Folds" "rows" "I", .methodLink RX5 41 yX5_within, .static yX5_within, .code yX5_within cX5_within 6 (some .boolean)] ++ wsX50 ++ wsX00)
def wsX5_isOuter : List Cond := .code yX5_isOuter cX5_isOuter 2 (some .boolean) :: ([.fieldLink RX5 35 "TrialSearch" "parts" "LTrialSearch$Folds;", .fieldLink RX5 269 "TrialSearch$Folds" "outer" "I", .methodLink RX5 41 yX5_within, .static yX5_within, .initialized RX5, .code yX5_within cX5_within 6 (some .boolean)] ++ wsX50 ++ wsX00)
def wsX5_use_r1 : List Cond := [Cond.constantLong RX5 45 (-1), Cond.fieldLink RX5 35 "TrialSearch" "parts" "LTrialSearch$Folds;", Cond.fieldLink RX5 243 "TrialSearch$Folds" "inner" "I", Cond.fieldLink RX5 246 "TrialSearch$Folds" "tested" "[I", Cond.methodLink RX5 240 yX5_isOuter, Cond.instanceMethod yX5_isOuter, Cond.selects RX5 yX5_isOuter yX5_isOuter, Cond.initialized RX5, Cond.code yX5_isOuter cX5_isOuter 2 (some .boolean), Cond.fieldLink RX5 269 "TrialSearch$Folds" "outer" "I", Cond.methodLink RX5 41 yX5_within, Cond.static yX5_within, Cond.code yX5_within cX5_within 6 (some .boolean), Cond.methodLink RX5 249 yX0_test, Cond.instanceMethod yX0_test, Cond.selects RX0 yX0_test yX0_test, Cond.initialized RX0, Cond.code yX0_test cX0_test 4 (some .int), Cond.fieldLink RX0 28 "TrialSearch$Folds" "tested" "[I", Cond.fieldLink RX0 9 "TrialSearch$Folds" "rows" "I", Cond.fieldLink RX0 21 "TrialSearch$Folds" "outerOf" "[I", Cond.methodLink RX5 252 yX0_choose, Cond.instanceMethod yX0_choose, Cond.selects RX0 yX0_choose yX0_choose]
def wsX5_use_r2 : List Cond := [Cond.code yX0_choose cX0_choose 5 (some .int), Cond.fieldLink RX0 33 "TrialSearch$Folds" "chosen" "[[I", Cond.fieldLink RX0 25 "TrialSearch$Folds" "innerOf" "[I"]
def wsX5_use : List Cond := .code yX5_use cX5_use 3 (some .int) :: ((wsX5_use_r1 ++ wsX5_use_r2) ++ wsX50 ++ wsX00)
def wsX5_used_r1 : List Cond := [Cond.fieldLink RX5 35 "TrialSearch" "parts" "LTrialSearch$Folds;", Cond.methodLink RX5 231 yX5_isRow, Cond.instanceMethod yX5_isRow, Cond.selects RX5 yX5_isRow yX5_isRow, Cond.initialized RX5, Cond.code yX5_isRow cX5_isRow 2 (some .boolean), Cond.fieldLink RX5 266 "TrialSearch$Folds" "rows" "I", Cond.methodLink RX5 41 yX5_within, Cond.static yX5_within, Cond.code yX5_within cX5_within 6 (some .boolean), Cond.methodLink RX5 240 yX5_isOuter, Cond.instanceMethod yX5_isOuter, Cond.selects RX5 yX5_isOuter yX5_isOuter, Cond.code yX5_isOuter cX5_isOuter 2 (some .boolean), Cond.fieldLink RX5 269 "TrialSearch$Folds" "outer" "I", Cond.methodLink RX5 255 yX0_trained, Cond.instanceMethod yX0_trained, Cond.selects RX0 yX0_trained yX0_trained, Cond.initialized RX0, Cond.code yX0_trained cX0_trained 5 (some .int), Cond.fieldLink RX0 21 "TrialSearch$Folds" "outerOf" "[I", Cond.fieldLink RX0 28 "TrialSearch$Folds" "tested" "[I", Cond.fieldLink RX0 18 "TrialSearch$Folds" "inner" "I", Cond.fieldLink RX0 25 "TrialSearch$Folds" "innerOf" "[I"]
def wsX5_used_r2 : List Cond := [Cond.fieldLink RX0 33 "TrialSearch$Folds" "chosen" "[[I", Cond.methodLink RX5 258 yX0_validated, Cond.instanceMethod yX0_validated, Cond.selects RX0 yX0_validated yX0_validated, Cond.code yX0_validated cX0_validated 3 (some .int), Cond.methodLink RX5 261 yX0_testing, Cond.instanceMethod yX0_testing, Cond.selects RX0 yX0_testing yX0_testing, Cond.code yX0_testing cX0_testing 3 (some .int)]
def wsX5_used : List Cond := .code yX5_used cX5_used 4 (some .int) :: ((wsX5_used_r1 ++ wsX5_used_r2) ++ wsX50 ++ wsX00)
def wsX6_hash : List Cond := .code yX6_hash cX6_hash 3 (some .int) :: ([.constant RX6 1 (-1640531527), .constant RX6 2 (-2048144789), .constant RX6 3 (-1028477387)])
def wsX6_pick : List Cond := .code yX6_pick cX6_pick 7 (some .long) :: ([.constantLong RX6 10 (4294967295), .methodLink RX6 4 yX6_hash, .static yX6_hash, .initialized RX6, .code yX6_hash cX6_hash 3 (some .int), .constant RX6 1 (-1640531527), .constant RX6 2 (-2048144789), .constant RX6 3 (-1028477387)])
def wsX6_in : List Cond := .code yX6_in cX6_in 6 (some .boolean) :: ([])
def wsX6_init_r1 : List Cond := [Cond.methodLink RX6 12 objectInit, Cond.instanceMethod objectInit, Cond.code objectInit ⟨#[0xb1]⟩ 1 none, Cond.arrayClass .int, Cond.fieldLink RX6 18 "TrialSearchModel" "many" "[I", Cond.fieldLink RX6 22 "TrialSearchModel" "on" "[I", Cond.fieldLink RX6 25 "TrialSearchModel" "set" "[I", Cond.arrayClass .long, Cond.fieldLink RX6 28 "TrialSearchModel" "ways" "[J", Cond.fieldLink RX6 32 "TrialSearchModel" "values" "[I", Cond.fieldLink RX6 35 "TrialSearchModel" "pointOf" "[J", Cond.fieldLink RX6 38 "TrialSearchModel" "state" "[I", Cond.fieldLink RX6 41 "TrialSearchModel" "score" "[I", Cond.fieldLink RX6 44 "TrialSearchModel" "reports" "[I", Cond.fieldLink RX6 47 "TrialSearchModel" "reported" "[I", Cond.arrayClass .boolean, Cond.fieldLink RX6 50 "TrialSearchModel" "isTaken" "[Z", Cond.fieldLink RX6 54 "TrialSearchModel" "far" "[I", Cond.fieldLink RX6 57 "TrialSearchModel" "isIn" "[Z", Cond.fieldLink RX6 60 "TrialSearchModel" "hasResult" "[Z", Cond.fieldLink RX6 63 "TrialSearchModel" "hasFailed" "[Z", Cond.fieldLink RX6 66 "TrialSearchModel" "result" "[I", Cond.fieldLink RX6 69 "TrialSearchModel" "place" "[I", Cond.fieldLink RX6 72 "TrialSearchModel" "isTested" "[Z"]
def wsX6_init_r2 : List Cond := [Cond.fieldLink RX6 75 "TrialSearchModel" "counts" "[I"]
def wsX6_init : List Cond := .code yX6_init cX6_init 1 none :: ((wsX6_init_r1 ++ wsX6_init_r2) ++ wsX60)
def wsX6_waysOf : List Cond := .code yX6_waysOf cX6_waysOf 6 (some .long) :: ([.fieldLink RX6 86 "TrialSearchModel" "names" "I", .fieldLink RX6 22 "TrialSearchModel" "on" "[I", .fieldLink RX6 25 "TrialSearchModel" "set" "[I", .fieldLink RX6 28 "TrialSearchModel" "ways" "[J"] ++ wsX60)
def wsX6_name : List Cond := .code yX6_name cX6_name 6 (some .int) :: ([.constantLong RX6 78 (30), .constantLong RX6 84 (-1), .fieldLink RX6 86 "TrialSearchModel" "names" "I", .constantLong RX6 90 (1073741823), .fieldLink RX6 92 "TrialSearchModel" "trials" "I", .fieldLink RX6 18 "TrialSearchModel" "many" "[I", .fieldLink RX6 22 "TrialSearchModel" "on" "[I", .fieldLink RX6 25 "TrialSearchModel" "set" "[I", .fieldLink RX6 28 "TrialSearchModel" "ways" "[J", .methodLink RX6 80 yX6_in, .static yX6_in, .initialized RX6, .code yX6_in cX6_in 6 (some .boolean), .methodLink RX6 95 yX6_waysOf, .instanceMethod yX6_waysOf, .selects RX6 yX6_waysOf yX6_waysOf, .code yX6_waysOf cX6_waysOf 6 (some .long)] ++ wsX60)
def wsX6_points : List Cond := .code yX6_points cX6_points 4 (some .long) :: ([.fieldLink RX6 86 "TrialSearchModel" "names" "I", .fieldLink RX6 22 "TrialSearchModel" "on" "[I", .fieldLink RX6 28 "TrialSearchModel" "ways" "[J"] ++ wsX60)
def wsX6_isThere : List Cond := .code yX6_isThere cX6_isThere 3 (some .boolean) :: ([.fieldLink RX6 22 "TrialSearchModel" "on" "[I", .fieldLink RX6 32 "TrialSearchModel" "values" "[I", .fieldLink RX6 25 "TrialSearchModel" "set" "[I"] ++ wsX60)
def wsX6_behind : List Cond := .code yX6_behind cX6_behind 6 (some .long) :: ([.fieldLink RX6 86 "TrialSearchModel" "names" "I", .fieldLink RX6 22 "TrialSearchModel" "on" "[I", .fieldLink RX6 28 "TrialSearchModel" "ways" "[J", .methodLink RX6 99 yX6_isThere, .instanceMethod yX6_isThere, .selects RX6 yX6_isThere yX6_isThere, .initialized RX6, .code yX6_isThere cX6_isThere 3 (some .boolean), .fieldLink RX6 32 "TrialSearchModel" "values" "[I", .fieldLink RX6 25 "TrialSearchModel" "set" "[I"] ++ wsX60)
def wsX6_find : List Cond := .code yX6_find cX6_find 9 none :: ([.fieldLink RX6 86 "TrialSearchModel" "names" "I", .fieldLink RX6 32 "TrialSearchModel" "values" "[I", .methodLink RX6 99 yX6_isThere, .instanceMethod yX6_isThere, .selects RX6 yX6_isThere yX6_isThere, .initialized RX6, .code yX6_isThere cX6_isThere 3 (some .boolean), .fieldLink RX6 22 "TrialSearchModel" "on" "[I", .fieldLink RX6 25 "TrialSearchModel" "set" "[I", .methodLink RX6 103 yX6_behind, .instanceMethod yX6_behind, .selects RX6 yX6_behind yX6_behind, .code yX6_behind cX6_behind 6 (some .long), .fieldLink RX6 28 "TrialSearchModel" "ways" "[J"] ++ wsX60)
def wsX6_noPoint : List Cond := .code yX6_noPoint cX6_noPoint 3 (some .boolean) :: ([.methodLink RX6 106 yX6_points, .instanceMethod yX6_points, .selects RX6 yX6_points yX6_points, .initialized RX6, .code yX6_points cX6_points 4 (some .long), .fieldLink RX6 86 "TrialSearchModel" "names" "I", .fieldLink RX6 22 "TrialSearchModel" "on" "[I", .fieldLink RX6 28 "TrialSearchModel" "ways" "[J", .methodLink RX6 80 yX6_in, .static yX6_in, .code yX6_in cX6_in 6 (some .boolean)] ++ wsX60)
def wsX6_value_r1 : List Cond := [Cond.fieldLink RX6 86 "TrialSearchModel" "names" "I", Cond.fieldLink RX6 32 "TrialSearchModel" "values" "[I", Cond.methodLink RX6 110 yX6_noPoint, Cond.instanceMethod yX6_noPoint, Cond.selects RX6 yX6_noPoint yX6_noPoint, Cond.initialized RX6, Cond.code yX6_noPoint cX6_noPoint 3 (some .boolean), Cond.methodLink RX6 106 yX6_points, Cond.instanceMethod yX6_points, Cond.selects RX6 yX6_points yX6_points, Cond.code yX6_points cX6_points 4 (some .long), Cond.fieldLink RX6 22 "TrialSearchModel" "on" "[I", Cond.fieldLink RX6 28 "TrialSearchModel" "ways" "[J", Cond.methodLink RX6 80 yX6_in, Cond.static yX6_in, Cond.code yX6_in cX6_in 6 (some .boolean), Cond.methodLink RX6 114 yX6_find, Cond.instanceMethod yX6_find, Cond.selects RX6 yX6_find yX6_find, Cond.code yX6_find cX6_find 9 none, Cond.methodLink RX6 99 yX6_isThere, Cond.instanceMethod yX6_isThere, Cond.selects RX6 yX6_isThere yX6_isThere, Cond.code yX6_isThere cX6_isThere 3 (some .boolean)]
def wsX6_value_r2 : List Cond := [Cond.fieldLink RX6 25 "TrialSearchModel" "set" "[I", Cond.methodLink RX6 103 yX6_behind, Cond.instanceMethod yX6_behind, Cond.selects RX6 yX6_behind yX6_behind, Cond.code yX6_behind cX6_behind 6 (some .long)]
def wsX6_value : List Cond := .code yX6_value cX6_value 4 (some .int) :: ((wsX6_value_r1 ++ wsX6_value_r2) ++ wsX60)
def wsX6_numberOf : List Cond := .code yX6_numberOf cX6_numberOf 6 (some .long) :: ([.fieldLink RX6 86 "TrialSearchModel" "names" "I", .fieldLink RX6 32 "TrialSearchModel" "values" "[I", .methodLink RX6 103 yX6_behind, .instanceMethod yX6_behind, .selects RX6 yX6_behind yX6_behind, .initialized RX6, .code yX6_behind cX6_behind 6 (some .long), .fieldLink RX6 22 "TrialSearchModel" "on" "[I", .fieldLink RX6 28 "TrialSearchModel" "ways" "[J", .methodLink RX6 99 yX6_isThere, .instanceMethod yX6_isThere, .selects RX6 yX6_isThere yX6_isThere, .code yX6_isThere cX6_isThere 3 (some .boolean), .fieldLink RX6 25 "TrialSearchModel" "set" "[I"] ++ wsX60)
def wsX6_number : List Cond := .code yX6_number cX6_number 4 (some .long) :: ([.fieldLink RX6 86 "TrialSearchModel" "names" "I", .fieldLink RX6 32 "TrialSearchModel" "values" "[I", .constantLong RX6 118 (31), .fieldLink RX6 18 "TrialSearchModel" "many" "[I", .constantLong RX6 120 (-2), .methodLink RX6 99 yX6_isThere, .instanceMethod yX6_isThere, .selects RX6 yX6_isThere yX6_isThere, .initialized RX6, .code yX6_isThere cX6_isThere 3 (some .boolean), .fieldLink RX6 22 "TrialSearchModel" "on" "[I", .fieldLink RX6 25 "TrialSearchModel" "set" "[I", .methodLink RX6 122 yX6_numberOf, .instanceMethod yX6_numberOf, .selects RX6 yX6_numberOf yX6_numberOf, .code yX6_numberOf cX6_numberOf 6 (some .long), .methodLink RX6 103 yX6_behind, .instanceMethod yX6_behind, .selects RX6 yX6_behind yX6_behind, .code yX6_behind cX6_behind 6 (some .long), .fieldLink RX6 28 "TrialSearchModel" "ways" "[J"] ++ wsX60)
def wsX6_distanceOf : List Cond := .code yX6_distanceOf cX6_distanceOf 10 (some .int) :: ([.fieldLink RX6 86 "TrialSearchModel" "names" "I", .fieldLink RX6 32 "TrialSearchModel" "values" "[I", .fieldLink RX6 18 "TrialSearchModel" "many" "[I", .methodLink RX6 114 yX6_find, .instanceMethod yX6_find, .selects RX6 yX6_find yX6_find, .initialized RX6, .code yX6_find cX6_find 9 none, .methodLink RX6 99 yX6_isThere, .instanceMethod yX6_isThere, .selects RX6 yX6_isThere yX6_isThere, .code yX6_isThere cX6_isThere 3 (some .boolean), .fieldLink RX6 22 "TrialSearchModel" "on" "[I", .fieldLink RX6 25 "TrialSearchModel" "set" "[I", .methodLink RX6 103 yX6_behind, .instanceMethod yX6_behind, .selects RX6 yX6_behind yX6_behind, .code yX6_behind cX6_behind 6 (some .long), .fieldLink RX6 28 "TrialSearchModel" "ways" "[J"] ++ wsX60)
def wsX6_distance_r1 : List Cond := [Cond.methodLink RX6 110 yX6_noPoint, Cond.instanceMethod yX6_noPoint, Cond.selects RX6 yX6_noPoint yX6_noPoint, Cond.initialized RX6, Cond.code yX6_noPoint cX6_noPoint 3 (some .boolean), Cond.methodLink RX6 106 yX6_points, Cond.instanceMethod yX6_points, Cond.selects RX6 yX6_points yX6_points, Cond.code yX6_points cX6_points 4 (some .long), Cond.fieldLink RX6 86 "TrialSearchModel" "names" "I", Cond.fieldLink RX6 22 "TrialSearchModel" "on" "[I", Cond.fieldLink RX6 28 "TrialSearchModel" "ways" "[J", Cond.methodLink RX6 80 yX6_in, Cond.static yX6_in, Cond.code yX6_in cX6_in 6 (some .boolean), Cond.methodLink RX6 125 yX6_distanceOf, Cond.instanceMethod yX6_distanceOf, Cond.selects RX6 yX6_distanceOf yX6_distanceOf, Cond.code yX6_distanceOf cX6_distanceOf 10 (some .int), Cond.fieldLink RX6 32 "TrialSearchModel" "values" "[I", Cond.fieldLink RX6 18 "TrialSearchModel" "many" "[I", Cond.methodLink RX6 114 yX6_find, Cond.instanceMethod yX6_find, Cond.selects RX6 yX6_find yX6_find]
def wsX6_distance_r2 : List Cond := [Cond.code yX6_find cX6_find 9 none, Cond.methodLink RX6 99 yX6_isThere, Cond.instanceMethod yX6_isThere, Cond.selects RX6 yX6_isThere yX6_isThere, Cond.code yX6_isThere cX6_isThere 3 (some .boolean), Cond.fieldLink RX6 25 "TrialSearchModel" "set" "[I", Cond.methodLink RX6 103 yX6_behind, Cond.instanceMethod yX6_behind, Cond.selects RX6 yX6_behind yX6_behind, Cond.code yX6_behind cX6_behind 6 (some .long)]
def wsX6_distance : List Cond := .code yX6_distance cX6_distance 5 (some .int) :: ((wsX6_distance_r1 ++ wsX6_distance_r2) ++ wsX60)
def wsX6_add : List Cond := .code yX6_add cX6_add 3 (some .int) :: ([.fieldLink RX6 35 "TrialSearchModel" "pointOf" "[J", .fieldLink RX6 92 "TrialSearchModel" "trials" "I", .fieldLink RX6 38 "TrialSearchModel" "state" "[I", .fieldLink RX6 41 "TrialSearchModel" "score" "[I", .fieldLink RX6 44 "TrialSearchModel" "reports" "[I"] ++ wsX60)
def wsX6_trial_r1 : List Cond := [Cond.constantLong RX6 129 (2), Cond.fieldLink RX6 92 "TrialSearchModel" "trials" "I", Cond.fieldLink RX6 86 "TrialSearchModel" "names" "I", Cond.fieldLink RX6 32 "TrialSearchModel" "values" "[I", Cond.fieldLink RX6 18 "TrialSearchModel" "many" "[I", Cond.methodLink RX6 80 yX6_in, Cond.static yX6_in, Cond.initialized RX6, Cond.code yX6_in cX6_in 6 (some .boolean), Cond.methodLink RX6 106 yX6_points, Cond.instanceMethod yX6_points, Cond.selects RX6 yX6_points yX6_points, Cond.code yX6_points cX6_points 4 (some .long), Cond.fieldLink RX6 22 "TrialSearchModel" "on" "[I", Cond.fieldLink RX6 28 "TrialSearchModel" "ways" "[J", Cond.methodLink RX6 131 yX6_pick, Cond.static yX6_pick, Cond.code yX6_pick cX6_pick 7 (some .long), Cond.constantLong RX6 10 (4294967295), Cond.methodLink RX6 4 yX6_hash, Cond.static yX6_hash, Cond.code yX6_hash cX6_hash 3 (some .int), Cond.constant RX6 1 (-1640531527), Cond.constant RX6 2 (-2048144789)]
def wsX6_trial_r2 : List Cond := [Cond.constant RX6 3 (-1028477387), Cond.methodLink RX6 135 yX6_add, Cond.instanceMethod yX6_add, Cond.selects RX6 yX6_add yX6_add, Cond.code yX6_add cX6_add 3 (some .int), Cond.fieldLink RX6 35 "TrialSearchModel" "pointOf" "[J", Cond.fieldLink RX6 38 "TrialSearchModel" "state" "[I", Cond.fieldLink RX6 41 "TrialSearchModel" "score" "[I", Cond.fieldLink RX6 44 "TrialSearchModel" "reports" "[I", Cond.methodLink RX6 99 yX6_isThere, Cond.instanceMethod yX6_isThere, Cond.selects RX6 yX6_isThere yX6_isThere, Cond.code yX6_isThere cX6_isThere 3 (some .boolean), Cond.fieldLink RX6 25 "TrialSearchModel" "set" "[I", Cond.methodLink RX6 122 yX6_numberOf, Cond.instanceMethod yX6_numberOf, Cond.selects RX6 yX6_numberOf yX6_numberOf, Cond.code yX6_numberOf cX6_numberOf 6 (some .long), Cond.methodLink RX6 103 yX6_behind, Cond.instanceMethod yX6_behind, Cond.selects RX6 yX6_behind yX6_behind, Cond.code yX6_behind cX6_behind 6 (some .long)]
def wsX6_trial : List Cond := .code yX6_trial cX6_trial 4 (some .int) :: ((wsX6_trial_r1 ++ wsX6_trial_r2) ++ wsX60)
def wsX6_near_r1 : List Cond := [Cond.fieldLink RX6 92 "TrialSearchModel" "trials" "I", Cond.fieldLink RX6 50 "TrialSearchModel" "isTaken" "[Z", Cond.fieldLink RX6 54 "TrialSearchModel" "far" "[I", Cond.fieldLink RX6 38 "TrialSearchModel" "state" "[I", Cond.fieldLink RX6 35 "TrialSearchModel" "pointOf" "[J", Cond.fieldLink RX6 139 "TrialSearchModel" "taken" "I", Cond.fieldLink RX6 41 "TrialSearchModel" "score" "[I", Cond.methodLink RX6 125 yX6_distanceOf, Cond.instanceMethod yX6_distanceOf, Cond.selects RX6 yX6_distanceOf yX6_distanceOf, Cond.initialized RX6, Cond.code yX6_distanceOf cX6_distanceOf 10 (some .int), Cond.fieldLink RX6 86 "TrialSearchModel" "names" "I", Cond.fieldLink RX6 32 "TrialSearchModel" "values" "[I", Cond.fieldLink RX6 18 "TrialSearchModel" "many" "[I", Cond.methodLink RX6 114 yX6_find, Cond.instanceMethod yX6_find, Cond.selects RX6 yX6_find yX6_find, Cond.code yX6_find cX6_find 9 none, Cond.methodLink RX6 99 yX6_isThere, Cond.instanceMethod yX6_isThere, Cond.selects RX6 yX6_isThere yX6_isThere, Cond.code yX6_isThere cX6_isThere 3 (some .boolean), Cond.fieldLink RX6 22 "TrialSearchModel" "on" "[I"]
def wsX6_near_r2 : List Cond := [Cond.fieldLink RX6 25 "TrialSearchModel" "set" "[I", Cond.methodLink RX6 103 yX6_behind, Cond.instanceMethod yX6_behind, Cond.selects RX6 yX6_behind yX6_behind, Cond.code yX6_behind cX6_behind 6 (some .long), Cond.fieldLink RX6 28 "TrialSearchModel" "ways" "[J"]
def wsX6_near : List Cond := .code yX6_near cX6_near 9 (some .long) :: ((wsX6_near_r1 ++ wsX6_near_r2) ++ wsX60)
def wsX6_guess_r1 : List Cond := [Cond.constantLong RX6 142 (40), Cond.constantLong RX6 144 (5), Cond.fieldLink RX6 92 "TrialSearchModel" "trials" "I", Cond.fieldLink RX6 139 "TrialSearchModel" "taken" "I", Cond.methodLink RX6 80 yX6_in, Cond.static yX6_in, Cond.initialized RX6, Cond.code yX6_in cX6_in 6 (some .boolean), Cond.methodLink RX6 4 yX6_hash, Cond.static yX6_hash, Cond.code yX6_hash cX6_hash 3 (some .int), Cond.constant RX6 1 (-1640531527), Cond.constant RX6 2 (-2048144789), Cond.constant RX6 3 (-1028477387), Cond.methodLink RX6 106 yX6_points, Cond.instanceMethod yX6_points, Cond.selects RX6 yX6_points yX6_points, Cond.code yX6_points cX6_points 4 (some .long), Cond.fieldLink RX6 86 "TrialSearchModel" "names" "I", Cond.fieldLink RX6 22 "TrialSearchModel" "on" "[I", Cond.fieldLink RX6 28 "TrialSearchModel" "ways" "[J", Cond.methodLink RX6 131 yX6_pick, Cond.static yX6_pick, Cond.code yX6_pick cX6_pick 7 (some .long)]
def wsX6_guess_r2 : List Cond := [Cond.constantLong RX6 10 (4294967295), Cond.methodLink RX6 146 yX6_near, Cond.instanceMethod yX6_near, Cond.selects RX6 yX6_near yX6_near, Cond.code yX6_near cX6_near 9 (some .long), Cond.fieldLink RX6 50 "TrialSearchModel" "isTaken" "[Z", Cond.fieldLink RX6 54 "TrialSearchModel" "far" "[I", Cond.fieldLink RX6 38 "TrialSearchModel" "state" "[I", Cond.fieldLink RX6 35 "TrialSearchModel" "pointOf" "[J", Cond.fieldLink RX6 41 "TrialSearchModel" "score" "[I", Cond.methodLink RX6 125 yX6_distanceOf, Cond.instanceMethod yX6_distanceOf, Cond.selects RX6 yX6_distanceOf yX6_distanceOf, Cond.code yX6_distanceOf cX6_distanceOf 10 (some .int), Cond.fieldLink RX6 32 "TrialSearchModel" "values" "[I", Cond.fieldLink RX6 18 "TrialSearchModel" "many" "[I", Cond.methodLink RX6 114 yX6_find, Cond.instanceMethod yX6_find, Cond.selects RX6 yX6_find yX6_find, Cond.code yX6_find cX6_find 9 none, Cond.methodLink RX6 99 yX6_isThere, Cond.instanceMethod yX6_isThere, Cond.selects RX6 yX6_isThere yX6_isThere, Cond.code yX6_isThere cX6_isThere 3 (some .boolean)]
def wsX6_guess_r3 : List Cond := [Cond.fieldLink RX6 25 "TrialSearchModel" "set" "[I", Cond.methodLink RX6 103 yX6_behind, Cond.instanceMethod yX6_behind, Cond.selects RX6 yX6_behind yX6_behind, Cond.code yX6_behind cX6_behind 6 (some .long), Cond.methodLink RX6 135 yX6_add, Cond.instanceMethod yX6_add, Cond.selects RX6 yX6_add yX6_add, Cond.code yX6_add cX6_add 3 (some .int), Cond.fieldLink RX6 44 "TrialSearchModel" "reports" "[I"]
def wsX6_guess : List Cond := .code yX6_guess cX6_guess 13 (some .int) :: ((wsX6_guess_r1 ++ (wsX6_guess_r2 ++ wsX6_guess_r3)) ++ wsX60)
def wsX6_divisor : List Cond := .code yX6_divisor cX6_divisor 10 (some .long) :: ([])
def wsX6_forecast_r1 : List Cond := [Cond.constantLong RX6 144 (5), Cond.constantLong RX6 150 (-1000000000000000001), Cond.fieldLink RX6 139 "TrialSearchModel" "taken" "I", Cond.constantLong RX6 152 (-1000000000000000002), Cond.methodLink RX6 110 yX6_noPoint, Cond.instanceMethod yX6_noPoint, Cond.selects RX6 yX6_noPoint yX6_noPoint, Cond.initialized RX6, Cond.code yX6_noPoint cX6_noPoint 3 (some .boolean), Cond.methodLink RX6 106 yX6_points, Cond.instanceMethod yX6_points, Cond.selects RX6 yX6_points yX6_points, Cond.code yX6_points cX6_points 4 (some .long), Cond.fieldLink RX6 86 "TrialSearchModel" "names" "I", Cond.fieldLink RX6 22 "TrialSearchModel" "on" "[I", Cond.fieldLink RX6 28 "TrialSearchModel" "ways" "[J", Cond.methodLink RX6 80 yX6_in, Cond.static yX6_in, Cond.code yX6_in cX6_in 6 (some .boolean), Cond.methodLink RX6 146 yX6_near, Cond.instanceMethod yX6_near, Cond.selects RX6 yX6_near yX6_near, Cond.code yX6_near cX6_near 9 (some .long), Cond.fieldLink RX6 92 "TrialSearchModel" "trials" "I"]
def wsX6_forecast_r2 : List Cond := [Cond.fieldLink RX6 50 "TrialSearchModel" "isTaken" "[Z", Cond.fieldLink RX6 54 "TrialSearchModel" "far" "[I", Cond.fieldLink RX6 38 "TrialSearchModel" "state" "[I", Cond.fieldLink RX6 35 "TrialSearchModel" "pointOf" "[J", Cond.fieldLink RX6 41 "TrialSearchModel" "score" "[I", Cond.methodLink RX6 125 yX6_distanceOf, Cond.instanceMethod yX6_distanceOf, Cond.selects RX6 yX6_distanceOf yX6_distanceOf, Cond.code yX6_distanceOf cX6_distanceOf 10 (some .int), Cond.fieldLink RX6 32 "TrialSearchModel" "values" "[I", Cond.fieldLink RX6 18 "TrialSearchModel" "many" "[I", Cond.methodLink RX6 114 yX6_find, Cond.instanceMethod yX6_find, Cond.selects RX6 yX6_find yX6_find, Cond.code yX6_find cX6_find 9 none, Cond.methodLink RX6 99 yX6_isThere, Cond.instanceMethod yX6_isThere, Cond.selects RX6 yX6_isThere yX6_isThere, Cond.code yX6_isThere cX6_isThere 3 (some .boolean), Cond.fieldLink RX6 25 "TrialSearchModel" "set" "[I", Cond.methodLink RX6 103 yX6_behind, Cond.instanceMethod yX6_behind, Cond.selects RX6 yX6_behind yX6_behind, Cond.code yX6_behind cX6_behind 6 (some .long)]
def wsX6_forecast_r3 : List Cond := [Cond.methodLink RX6 154 yX6_divisor, Cond.static yX6_divisor, Cond.code yX6_divisor cX6_divisor 10 (some .long)]
def wsX6_forecast : List Cond := .code yX6_forecast cX6_forecast 9 (some .long) :: ((wsX6_forecast_r1 ++ (wsX6_forecast_r2 ++ wsX6_forecast_r3)) ++ wsX60)
def wsX6_noTrial : List Cond := .code yX6_noTrial cX6_noTrial 2 (some .boolean) :: ([.fieldLink RX6 92 "TrialSearchModel" "trials" "I", .methodLink RX6 80 yX6_in, .static yX6_in, .initialized RX6, .code yX6_in cX6_in 6 (some .boolean)] ++ wsX60)
def wsX6_isScore : List Cond := .code yX6_isScore cX6_isScore 1 (some .boolean) :: ([.constantLong RX6 158 (-1000000), .constantLong RX6 160 (1000000), .methodLink RX6 80 yX6_in, .static yX6_in, .initialized RX6, .code yX6_in cX6_in 6 (some .boolean)])
def wsX6_score : List Cond := .code yX6_score cX6_score 6 (some .int) :: ([.fieldLink RX6 38 "TrialSearchModel" "state" "[I", .fieldLink RX6 41 "TrialSearchModel" "score" "[I", .fieldLink RX6 92 "TrialSearchModel" "trials" "I", .methodLink RX6 162 yX6_noTrial, .instanceMethod yX6_noTrial, .selects RX6 yX6_noTrial yX6_noTrial, .initialized RX6, .code yX6_noTrial cX6_noTrial 2 (some .boolean), .methodLink RX6 80 yX6_in, .static yX6_in, .code yX6_in cX6_in 6 (some .boolean), .methodLink RX6 166 yX6_isScore, .static yX6_isScore, .code yX6_isScore cX6_isScore 1 (some .boolean), .constantLong RX6 158 (-1000000), .constantLong RX6 160 (1000000)] ++ wsX60)
def wsX6_prunes : List Cond := .code yX6_prunes cX6_prunes 8 (some .boolean) :: ([.fieldLink RX6 92 "TrialSearchModel" "trials" "I", .fieldLink RX6 44 "TrialSearchModel" "reports" "[I", .fieldLink RX6 47 "TrialSearchModel" "reported" "[I"] ++ wsX60)
def wsX6_report : List Cond := .code yX6_report cX6_report 5 (some .int) :: ([.constantLong RX6 169 (60), .fieldLink RX6 38 "TrialSearchModel" "state" "[I", .fieldLink RX6 44 "TrialSearchModel" "reports" "[I", .fieldLink RX6 47 "TrialSearchModel" "reported" "[I", .methodLink RX6 162 yX6_noTrial, .instanceMethod yX6_noTrial, .selects RX6 yX6_noTrial yX6_noTrial, .initialized RX6, .code yX6_noTrial cX6_noTrial 2 (some .boolean), .fieldLink RX6 92 "TrialSearchModel" "trials" "I", .methodLink RX6 80 yX6_in, .static yX6_in, .code yX6_in cX6_in 6 (some .boolean), .methodLink RX6 166 yX6_isScore, .static yX6_isScore, .code yX6_isScore cX6_isScore 1 (some .boolean), .constantLong RX6 158 (-1000000), .constantLong RX6 160 (1000000), .methodLink RX6 171 yX6_prunes, .instanceMethod yX6_prunes, .selects RX6 yX6_prunes yX6_prunes, .code yX6_prunes cX6_prunes 8 (some .boolean)] ++ wsX60)
def wsX6_told : List Cond := .code yX6_told cX6_told 3 (some .int) :: ([.fieldLink RX6 38 "TrialSearchModel" "state" "[I", .fieldLink RX6 41 "TrialSearchModel" "score" "[I", .fieldLink RX6 44 "TrialSearchModel" "reports" "[I", .fieldLink RX6 57 "TrialSearchModel" "isIn" "[Z", .fieldLink RX6 60 "TrialSearchModel" "hasResult" "[Z", .fieldLink RX6 66 "TrialSearchModel" "result" "[I", .methodLink RX6 162 yX6_noTrial, .instanceMethod yX6_noTrial, .selects RX6 yX6_noTrial yX6_noTrial, .initialized RX6, .code yX6_noTrial cX6_noTrial 2 (some .boolean), .fieldLink RX6 92 "TrialSearchModel" "trials" "I", .methodLink RX6 80 yX6_in, .static yX6_in, .code yX6_in cX6_in 6 (some .boolean)] ++ wsX60)
def wsX6_point : List Cond := .code yX6_point cX6_point 2 (some .long) :: ([.constantLong RX6 84 (-1), .fieldLink RX6 35 "TrialSearchModel" "pointOf" "[J", .methodLink RX6 162 yX6_noTrial, .instanceMethod yX6_noTrial, .selects RX6 yX6_noTrial yX6_noTrial, .initialized RX6, .code yX6_noTrial cX6_noTrial 2 (some .boolean), .fieldLink RX6 92 "TrialSearchModel" "trials" "I", .methodLink RX6 80 yX6_in, .static yX6_in, .code yX6_in cX6_in 6 (some .boolean)] ++ wsX60)
def wsX6_reported : List Cond := .code yX6_reported cX6_reported 3 (some .int) :: ([.fieldLink RX6 44 "TrialSearchModel" "reports" "[I", .constant RX6 175 (-2000000), .fieldLink RX6 47 "TrialSearchModel" "reported" "[I", .methodLink RX6 162 yX6_noTrial, .instanceMethod yX6_noTrial, .selects RX6 yX6_noTrial yX6_noTrial, .initialized RX6, .code yX6_noTrial cX6_noTrial 2 (some .boolean), .fieldLink RX6 92 "TrialSearchModel" "trials" "I", .methodLink RX6 80 yX6_in, .static yX6_in, .code yX6_in cX6_in 6 (some .boolean)] ++ wsX60)
def wsX6_best : List Cond := .code yX6_best cX6_best 3 (some .int) :: ([.fieldLink RX6 92 "TrialSearchModel" "trials" "I", .fieldLink RX6 38 "TrialSearchModel" "state" "[I", .fieldLink RX6 41 "TrialSearchModel" "score" "[I"] ++ wsX60)
def wsX6_clear : List Cond := .code yX6_clear cX6_clear 2 none :: ([.fieldLink RX6 60 "TrialSearchModel" "hasResult" "[Z", .fieldLink RX6 63 "TrialSearchModel" "hasFailed" "[Z", .fieldLink RX6 66 "TrialSearchModel" "result" "[I"] ++ wsX60)
def wsX6_bracket : List Cond := .code yX6_bracket cX6_bracket 6 (some .int) :: ([.constantLong RX6 169 (60), .fieldLink RX6 92 "TrialSearchModel" "trials" "I", .constantLong RX6 160 (1000000), .constantLong RX6 129 (2), .constantLong RX6 144 (5), .fieldLink RX6 176 "TrialSearchModel" "isBracket" "Z", .fieldLink RX6 180 "TrialSearchModel" "budget" "I", .fieldLink RX6 183 "TrialSearchModel" "factor" "I", .fieldLink RX6 186 "TrialSearchModel" "halved" "I", .fieldLink RX6 189 "TrialSearchModel" "isOver" "Z", .fieldLink RX6 192 "TrialSearchModel" "cost" "J", .fieldLink RX6 57 "TrialSearchModel" "isIn" "[Z", .methodLink RX6 80 yX6_in, .static yX6_in, .initialized RX6, .code yX6_in cX6_in 6 (some .boolean), .methodLink RX6 196 yX6_clear, .instanceMethod yX6_clear, .selects RX6 yX6_clear yX6_clear, .code yX6_clear cX6_clear 2 none, .fieldLink RX6 60 "TrialSearchModel" "hasResult" "[Z", .fieldLink RX6 63 "TrialSearchModel" "hasFailed" "[Z", .fieldLink RX6 66 "TrialSearchModel" "result" "[I"] ++ wsX60)
def wsX6_open : List Cond := .code yX6_open cX6_open 3 (some .int) :: ([.fieldLink RX6 57 "TrialSearchModel" "isIn" "[Z", .fieldLink RX6 60 "TrialSearchModel" "hasResult" "[Z", .fieldLink RX6 63 "TrialSearchModel" "hasFailed" "[Z"] ++ wsX60)
def wsX6_inside : List Cond := .code yX6_inside cX6_inside 3 (some .int) :: ([.fieldLink RX6 57 "TrialSearchModel" "isIn" "[Z"] ++ wsX60)
def wsX6_result_r1 : List Cond := [Cond.fieldLink RX6 176 "TrialSearchModel" "isBracket" "Z", Cond.fieldLink RX6 57 "TrialSearchModel" "isIn" "[Z", Cond.fieldLink RX6 60 "TrialSearchModel" "hasResult" "[Z", Cond.fieldLink RX6 63 "TrialSearchModel" "hasFailed" "[Z", Cond.fieldLink RX6 66 "TrialSearchModel" "result" "[I", Cond.fieldLink RX6 192 "TrialSearchModel" "cost" "J", Cond.fieldLink RX6 180 "TrialSearchModel" "budget" "I", Cond.methodLink RX6 162 yX6_noTrial, Cond.instanceMethod yX6_noTrial, Cond.selects RX6 yX6_noTrial yX6_noTrial, Cond.initialized RX6, Cond.code yX6_noTrial cX6_noTrial 2 (some .boolean), Cond.fieldLink RX6 92 "TrialSearchModel" "trials" "I", Cond.methodLink RX6 80 yX6_in, Cond.static yX6_in, Cond.code yX6_in cX6_in 6 (some .boolean), Cond.methodLink RX6 166 yX6_isScore, Cond.static yX6_isScore, Cond.code yX6_isScore cX6_isScore 1 (some .boolean), Cond.constantLong RX6 158 (-1000000), Cond.constantLong RX6 160 (1000000), Cond.methodLink RX6 200 yX6_open, Cond.instanceMethod yX6_open, Cond.selects RX6 yX6_open yX6_open]
def wsX6_result_r2 : List Cond := [Cond.code yX6_open cX6_open 3 (some .int)]
def wsX6_result : List Cond := .code yX6_result cX6_result 4 (some .int) :: ((wsX6_result_r1 ++ wsX6_result_r2) ++ wsX60)
def wsX6_halve_r1 : List Cond := [Cond.fieldLink RX6 176 "TrialSearchModel" "isBracket" "Z", Cond.fieldLink RX6 189 "TrialSearchModel" "isOver" "Z", Cond.fieldLink RX6 183 "TrialSearchModel" "factor" "I", Cond.fieldLink RX6 50 "TrialSearchModel" "isTaken" "[Z", Cond.fieldLink RX6 57 "TrialSearchModel" "isIn" "[Z", Cond.fieldLink RX6 60 "TrialSearchModel" "hasResult" "[Z", Cond.fieldLink RX6 66 "TrialSearchModel" "result" "[I", Cond.fieldLink RX6 180 "TrialSearchModel" "budget" "I", Cond.constantLong RX6 207 (1000000000), Cond.constant RX6 209 (1000000000), Cond.fieldLink RX6 186 "TrialSearchModel" "halved" "I", Cond.methodLink RX6 200 yX6_open, Cond.instanceMethod yX6_open, Cond.selects RX6 yX6_open yX6_open, Cond.initialized RX6, Cond.code yX6_open cX6_open 3 (some .int), Cond.fieldLink RX6 63 "TrialSearchModel" "hasFailed" "[Z", Cond.methodLink RX6 204 yX6_inside, Cond.instanceMethod yX6_inside, Cond.selects RX6 yX6_inside yX6_inside, Cond.code yX6_inside cX6_inside 3 (some .int), Cond.methodLink RX6 196 yX6_clear, Cond.instanceMethod yX6_clear, Cond.selects RX6 yX6_clear yX6_clear]
def wsX6_halve_r2 : List Cond := [Cond.code yX6_clear cX6_clear 2 none]
def wsX6_halve : List Cond := .code yX6_halve cX6_halve 5 (some .int) :: ((wsX6_halve_r1 ++ wsX6_halve_r2) ++ wsX60)
def wsX6_round : List Cond := .code yX6_round cX6_round 2 (some .int) :: ([.constantLong RX6 210 (3), .fieldLink RX6 176 "TrialSearchModel" "isBracket" "Z", .fieldLink RX6 186 "TrialSearchModel" "halved" "I", .fieldLink RX6 180 "TrialSearchModel" "budget" "I", .fieldLink RX6 189 "TrialSearchModel" "isOver" "Z", .methodLink RX6 80 yX6_in, .static yX6_in, .initialized RX6, .code yX6_in cX6_in 6 (some .boolean), .methodLink RX6 204 yX6_inside, .instanceMethod yX6_inside, .selects RX6 yX6_inside yX6_inside, .code yX6_inside cX6_inside 3 (some .int), .fieldLink RX6 57 "TrialSearchModel" "isIn" "[Z"] ++ wsX60)
def wsX6_cost : List Cond := .code yX6_cost cX6_cost 1 (some .long) :: ([.fieldLink RX6 192 "TrialSearchModel" "cost" "J"] ++ wsX60)
def wsX6_plan : List Cond := .code yX6_plan cX6_plan 9 (some .int) :: ([.constantLong RX6 160 (1000000), .constantLong RX6 129 (2), .constantLong RX6 144 (5), .constantLong RX6 84 (-1), .methodLink RX6 80 yX6_in, .static yX6_in, .initialized RX6, .code yX6_in cX6_in 6 (some .boolean)])
def wsX6_folds : List Cond := .code yX6_folds cX6_folds 9 (some .int) :: ([.constantLong RX6 212 (200), .constantLong RX6 129 (2), .constantLong RX6 214 (10), .fieldLink RX6 216 "TrialSearchModel" "rows" "I", .fieldLink RX6 219 "TrialSearchModel" "outers" "I", .fieldLink RX6 222 "TrialSearchModel" "inners" "I", .fieldLink RX6 69 "TrialSearchModel" "place" "[I", .fieldLink RX6 75 "TrialSearchModel" "counts" "[I", .fieldLink RX6 72 "TrialSearchModel" "isTested" "[Z", .methodLink RX6 80 yX6_in, .static yX6_in, .initialized RX6, .code yX6_in cX6_in 6 (some .boolean), .methodLink RX6 4 yX6_hash, .static yX6_hash, .code yX6_hash cX6_hash 3 (some .int), .constant RX6 1 (-1640531527), .constant RX6 2 (-2048144789), .constant RX6 3 (-1028477387)] ++ wsX60)
def wsX6_outerOf : List Cond := .code yX6_outerOf cX6_outerOf 2 (some .int) :: ([.fieldLink RX6 69 "TrialSearchModel" "place" "[I", .fieldLink RX6 219 "TrialSearchModel" "outers" "I"] ++ wsX60)
def wsX6_innerOf : List Cond := .code yX6_innerOf cX6_innerOf 2 (some .int) :: ([.fieldLink RX6 69 "TrialSearchModel" "place" "[I", .fieldLink RX6 219 "TrialSearchModel" "outers" "I", .fieldLink RX6 222 "TrialSearchModel" "inners" "I"] ++ wsX60)
def wsX6_fold : List Cond := .code yX6_fold cX6_fold 3 (some .int) :: ([.fieldLink RX6 216 "TrialSearchModel" "rows" "I", .methodLink RX6 80 yX6_in, .static yX6_in, .initialized RX6, .code yX6_in cX6_in 6 (some .boolean), .methodLink RX6 225 yX6_outerOf, .instanceMethod yX6_outerOf, .selects RX6 yX6_outerOf yX6_outerOf, .code yX6_outerOf cX6_outerOf 2 (some .int), .fieldLink RX6 69 "TrialSearchModel" "place" "[I", .fieldLink RX6 219 "TrialSearchModel" "outers" "I", .methodLink RX6 229 yX6_innerOf, .instanceMethod yX6_innerOf, .selects RX6 yX6_innerOf yX6_innerOf, .code yX6_innerOf cX6_innerOf 2 (some .int), .fieldLink RX6 222 "TrialSearchModel" "inners" "I"] ++ wsX60)
def wsX6_use : List Cond := .code yX6_use cX6_use 8 (some .int) :: ([.fieldLink RX6 216 "TrialSearchModel" "rows" "I", .fieldLink RX6 219 "TrialSearchModel" "outers" "I", .constantLong RX6 84 (-1), .fieldLink RX6 222 "TrialSearchModel" "inners" "I", .fieldLink RX6 72 "TrialSearchModel" "isTested" "[Z", .fieldLink RX6 75 "TrialSearchModel" "counts" "[I", .methodLink RX6 80 yX6_in, .static yX6_in, .initialized RX6, .code yX6_in cX6_in 6 (some .boolean), .methodLink RX6 225 yX6_outerOf, .instanceMethod yX6_outerOf, .selects RX6 yX6_outerOf yX6_outerOf, .code yX6_outerOf cX6_outerOf 2 (some .int), .fieldLink RX6 69 "TrialSearchModel" "place" "[I", .methodLink RX6 229 yX6_innerOf, .instanceMethod yX6_innerOf, .selects RX6 yX6_innerOf yX6_innerOf, .code yX6_innerOf cX6_innerOf 2 (some .int)] ++ wsX60)
def wsX6_used : List Cond := .code yX6_used cX6_used 4 (some .int) :: ([.fieldLink RX6 216 "TrialSearchModel" "rows" "I", .fieldLink RX6 219 "TrialSearchModel" "outers" "I", .constantLong RX6 129 (2), .fieldLink RX6 75 "TrialSearchModel" "counts" "[I", .methodLink RX6 80 yX6_in, .static yX6_in, .initialized RX6, .code yX6_in cX6_in 6 (some .boolean)] ++ wsX60)
def wsJ9_abs_0f7a4 : List Cond := .code yJ9_abs_0f7a4 cJ9_abs_0f7a4 1 (some .int) :: ([])
def wsJ9_abs_067f4 : List Cond := .code yJ9_abs_067f4 cJ9_abs_067f4 2 (some .long) :: ([])
def wsJ9_max_f86c9 : List Cond := .code yJ9_max_f86c9 cJ9_max_f86c9 4 (some .long) :: ([])
def wsJ9_min_7cf53 : List Cond := .code yJ9_min_7cf53 cJ9_min_7cf53 2 (some .int) :: ([])
def wsJ9_min_f86c9 : List Cond := .code yJ9_min_f86c9 cJ9_min_f86c9 4 (some .long) :: ([])
def wsL_law_r1 : List Cond := [Cond.classLink RL 7 RX5, Cond.instantiable RX5 4, Cond.initialized RX5, Cond.classLink RL 10 RX6, Cond.instantiable RX6 31, Cond.initialized RX6, Cond.constantLong RL 23 (4294967295), Cond.methodLink RL 9 yX5_init, Cond.instanceMethod yX5_init, Cond.code yX5_init cX5_init 1 none, Cond.methodLink RX5 3 objectInit, Cond.instanceMethod objectInit, Cond.code objectInit ⟨#[0xb1]⟩ 1 none, Cond.classLink RX5 9 RX3, Cond.instantiable RX3 9, Cond.initialized RX3, Cond.fieldLink RX5 12 "TrialSearch" "space" "LTrialSearch$Space;", Cond.classLink RX5 16 RX4, Cond.instantiable RX4 12, Cond.initialized RX4, Cond.fieldLink RX5 21 "TrialSearch" "trials" "LTrialSearch$Trials;", Cond.classLink RX5 25 RX1, Cond.instantiable RX1 10, Cond.initialized RX1]
def wsL_law_r2 : List Cond := [Cond.fieldLink RX5 28 "TrialSearch" "rounds" "LTrialSearch$Rounds;", Cond.classLink RX5 32 RX0, Cond.instantiable RX0 8, Cond.initialized RX0, Cond.fieldLink RX5 35 "TrialSearch" "parts" "LTrialSearch$Folds;", Cond.methodLink RX5 11 yX3_init, Cond.instanceMethod yX3_init, Cond.code yX3_init cX3_init 1 none, Cond.methodLink RX3 3 objectInit, Cond.fieldLink RX3 9 "TrialSearch$Space" "names" "I", Cond.fieldLink RX3 15 "TrialSearch$Space" "all" "J", Cond.arrayClass .int, Cond.fieldLink RX3 19 "TrialSearch$Space" "left" "[I", Cond.fieldLink RX3 23 "TrialSearch$Space" "right" "[I", Cond.fieldLink RX3 26 "TrialSearch$Space" "many" "[I", Cond.fieldLink RX3 29 "TrialSearch$Space" "on" "[I", Cond.fieldLink RX3 32 "TrialSearch$Space" "set" "[I", Cond.arrayClass .long, Cond.fieldLink RX3 35 "TrialSearch$Space" "ways" "[J", Cond.classLink RX3 39 "[[J", Cond.fieldLink RX3 41 "TrialSearch$Space" "waysBelow" "[[J", Cond.methodLink RX5 18 yX4_init, Cond.instanceMethod yX4_init, Cond.code yX4_init cX4_init 2 none]
def wsL_law_r3 : List Cond := [Cond.methodLink RX4 3 objectInit, Cond.fieldLink RX4 9 "TrialSearch$Trials" "made" "I", Cond.fieldLink RX4 15 "TrialSearch$Trials" "scored" "I", Cond.fieldLink RX4 18 "TrialSearch$Trials" "places" "[J", Cond.fieldLink RX4 22 "TrialSearch$Trials" "states" "[I", Cond.fieldLink RX4 26 "TrialSearch$Trials" "scores" "[I", Cond.fieldLink RX4 29 "TrialSearch$Trials" "steps" "[I", Cond.classLink RX4 32 "[[I", Cond.fieldLink RX4 34 "TrialSearch$Trials" "reports" "[[I", Cond.fieldLink RX4 37 "TrialSearch$Trials" "space" "LTrialSearch$Space;", Cond.fieldLink RX4 41 "TrialSearch$Trials" "values" "[[I", Cond.fieldLink RX4 44 "TrialSearch$Trials" "nearGaps" "[I", Cond.fieldLink RX4 47 "TrialSearch$Trials" "nearScores" "[I", Cond.fieldLink RX4 50 "TrialSearch$Trials" "others" "[I", Cond.methodLink RX5 27 yX1_init, Cond.instanceMethod yX1_init, Cond.code yX1_init cX1_init 1 none, Cond.methodLink RX1 3 objectInit, Cond.fieldLink RX1 9 "TrialSearch$Rounds" "started" "Z", Cond.fieldLink RX1 15 "TrialSearch$Rounds" "spent" "J", Cond.fieldLink RX1 19 "TrialSearch$Rounds" "marks" "[I", Cond.fieldLink RX1 23 "TrialSearch$Rounds" "stands" "[I", Cond.methodLink RX5 34 yX0_init, Cond.instanceMethod yX0_init]
def wsL_law_r4 : List Cond := [Cond.code yX0_init cX0_init 1 none, Cond.methodLink RX0 3 objectInit, Cond.fieldLink RX0 9 "TrialSearch$Folds" "rows" "I", Cond.fieldLink RX0 15 "TrialSearch$Folds" "outer" "I", Cond.fieldLink RX0 18 "TrialSearch$Folds" "inner" "I", Cond.fieldLink RX0 21 "TrialSearch$Folds" "outerOf" "[I", Cond.fieldLink RX0 25 "TrialSearch$Folds" "innerOf" "[I", Cond.fieldLink RX0 28 "TrialSearch$Folds" "tested" "[I", Cond.classLink RX0 31 "[[I", Cond.fieldLink RX0 33 "TrialSearch$Folds" "chosen" "[[I", Cond.fieldLink RX0 36 "TrialSearch$Folds" "order" "[J", Cond.methodLink RL 12 yX6_init, Cond.instanceMethod yX6_init, Cond.code yX6_init cX6_init 1 none, Cond.methodLink RX6 12 objectInit, Cond.fieldLink RX6 18 "TrialSearchModel" "many" "[I", Cond.fieldLink RX6 22 "TrialSearchModel" "on" "[I", Cond.fieldLink RX6 25 "TrialSearchModel" "set" "[I", Cond.fieldLink RX6 28 "TrialSearchModel" "ways" "[J", Cond.fieldLink RX6 32 "TrialSearchModel" "values" "[I", Cond.fieldLink RX6 35 "TrialSearchModel" "pointOf" "[J", Cond.fieldLink RX6 38 "TrialSearchModel" "state" "[I", Cond.fieldLink RX6 41 "TrialSearchModel" "score" "[I", Cond.fieldLink RX6 44 "TrialSearchModel" "reports" "[I"]
def wsL_law_r5 : List Cond := [Cond.fieldLink RX6 47 "TrialSearchModel" "reported" "[I", Cond.arrayClass .boolean, Cond.fieldLink RX6 50 "TrialSearchModel" "isTaken" "[Z", Cond.fieldLink RX6 54 "TrialSearchModel" "far" "[I", Cond.fieldLink RX6 57 "TrialSearchModel" "isIn" "[Z", Cond.fieldLink RX6 60 "TrialSearchModel" "hasResult" "[Z", Cond.fieldLink RX6 63 "TrialSearchModel" "hasFailed" "[Z", Cond.fieldLink RX6 66 "TrialSearchModel" "result" "[I", Cond.fieldLink RX6 69 "TrialSearchModel" "place" "[I", Cond.fieldLink RX6 72 "TrialSearchModel" "isTested" "[Z", Cond.fieldLink RX6 75 "TrialSearchModel" "counts" "[I", Cond.methodLink RL 13 yX5_name, Cond.instanceMethod yX5_name, Cond.selects RX5 yX5_name yX5_name, Cond.code yX5_name cX5_name 4 (some .int), Cond.constantLong RX5 39 (30), Cond.constantLong RX5 45 (-1), Cond.fieldLink RX5 47 "TrialSearch$Space" "names" "I", Cond.constantLong RX5 51 (1073741823), Cond.fieldLink RX5 53 "TrialSearch$Trials" "made" "I", Cond.methodLink RX5 41 yX5_within, Cond.static yX5_within, Cond.code yX5_within cX5_within 6 (some .boolean), Cond.methodLink RX5 56 yX3_add]
def wsL_law_r6 : List Cond := [Cond.instanceMethod yX3_add, Cond.selects RX3 yX3_add yX3_add, Cond.code yX3_add cX3_add 5 (some .int), Cond.methodLink RX3 44 yX3_countWays, Cond.instanceMethod yX3_countWays, Cond.selects RX3 yX3_countWays yX3_countWays, Cond.code yX3_countWays cX3_countWays 2 none, Cond.methodLink RX3 47 yJ7_fill_d0a16, Cond.static yJ7_fill_d0a16, Cond.initialized RJ7, Cond.code yJ7_fill_d0a16 cJ7_fill_d0a16 5 none, Cond.methodLink RX3 53 yX3_sumOfWays, Cond.instanceMethod yX3_sumOfWays, Cond.selects RX3 yX3_sumOfWays yX3_sumOfWays, Cond.code yX3_sumOfWays cX3_sumOfWays 5 (some .long), Cond.methodLink RX3 57 yX3_hang, Cond.instanceMethod yX3_hang, Cond.selects RX3 yX3_hang yX3_hang, Cond.code yX3_hang cX3_hang 4 none, Cond.methodLink RX3 61 yX3_hasBit, Cond.static yX3_hasBit, Cond.code yX3_hasBit cX3_hasBit 2 (some .boolean), Cond.methodLink RL 17 yX6_name, Cond.instanceMethod yX6_name]
def wsL_law_r7 : List Cond := [Cond.selects RX6 yX6_name yX6_name, Cond.code yX6_name cX6_name 6 (some .int), Cond.constantLong RX6 78 (30), Cond.constantLong RX6 84 (-1), Cond.fieldLink RX6 86 "TrialSearchModel" "names" "I", Cond.constantLong RX6 90 (1073741823), Cond.fieldLink RX6 92 "TrialSearchModel" "trials" "I", Cond.methodLink RX6 80 yX6_in, Cond.static yX6_in, Cond.code yX6_in cX6_in 6 (some .boolean), Cond.methodLink RX6 95 yX6_waysOf, Cond.instanceMethod yX6_waysOf, Cond.selects RX6 yX6_waysOf yX6_waysOf, Cond.code yX6_waysOf cX6_waysOf 6 (some .long), Cond.methodLink RL 18 yX5_points, Cond.instanceMethod yX5_points, Cond.selects RX5 yX5_points yX5_points, Cond.code yX5_points cX5_points 1 (some .long), Cond.fieldLink RX5 60 "TrialSearch$Space" "all" "J", Cond.methodLink RL 22 yX6_points, Cond.instanceMethod yX6_points, Cond.selects RX6 yX6_points yX6_points, Cond.code yX6_points cX6_points 4 (some .long), Cond.methodLink RL 25 yX5_value]
def wsL_law_r8 : List Cond := [Cond.instanceMethod yX5_value, Cond.selects RX5 yX5_value yX5_value, Cond.code yX5_value cX5_value 4 (some .int), Cond.fieldLink RX5 68 "TrialSearch$Space" "left" "[I", Cond.methodLink RX5 64 yX5_isPoint, Cond.instanceMethod yX5_isPoint, Cond.selects RX5 yX5_isPoint yX5_isPoint, Cond.code yX5_isPoint cX5_isPoint 3 (some .boolean), Cond.methodLink RX5 72 yX3_read, Cond.instanceMethod yX3_read, Cond.selects RX3 yX3_read yX3_read, Cond.code yX3_read cX3_read 10 none, Cond.methodLink RX3 65 yX3_isThere, Cond.instanceMethod yX3_isThere, Cond.selects RX3 yX3_isThere yX3_isThere, Cond.code yX3_isThere cX3_isThere 4 (some .boolean), Cond.static yX5_cut, Cond.code yX5_cut cX5_cut 4 (some .long), Cond.methodLink RL 29 yX6_value, Cond.instanceMethod yX6_value, Cond.selects RX6 yX6_value yX6_value, Cond.code yX6_value cX6_value 4 (some .int), Cond.methodLink RX6 110 yX6_noPoint, Cond.instanceMethod yX6_noPoint]
def wsL_law_r9 : List Cond := [Cond.selects RX6 yX6_noPoint yX6_noPoint, Cond.code yX6_noPoint cX6_noPoint 3 (some .boolean), Cond.methodLink RX6 106 yX6_points, Cond.methodLink RX6 114 yX6_find, Cond.instanceMethod yX6_find, Cond.selects RX6 yX6_find yX6_find, Cond.code yX6_find cX6_find 9 none, Cond.methodLink RX6 99 yX6_isThere, Cond.instanceMethod yX6_isThere, Cond.selects RX6 yX6_isThere yX6_isThere, Cond.code yX6_isThere cX6_isThere 3 (some .boolean), Cond.methodLink RX6 103 yX6_behind, Cond.instanceMethod yX6_behind, Cond.selects RX6 yX6_behind yX6_behind, Cond.code yX6_behind cX6_behind 6 (some .long), Cond.methodLink RL 30 yX5_number, Cond.instanceMethod yX5_number, Cond.selects RX5 yX5_number yX5_number, Cond.code yX5_number cX5_number 3 (some .long), Cond.constantLong RX5 84 (-2), Cond.methodLink RX5 76 yX3_takeBits, Cond.instanceMethod yX3_takeBits, Cond.selects RX3 yX3_takeBits yX3_takeBits, Cond.code yX3_takeBits cX3_takeBits 6 (some .boolean)]
def wsL_law_r10 : List Cond := [Cond.methodLink RX5 80 yX3_place, Cond.instanceMethod yX3_place, Cond.selects RX3 yX3_place yX3_place, Cond.code yX3_place cX3_place 8 (some .long), Cond.methodLink RL 34 yX6_number, Cond.instanceMethod yX6_number, Cond.selects RX6 yX6_number yX6_number, Cond.code yX6_number cX6_number 4 (some .long), Cond.constantLong RX6 118 (31), Cond.constantLong RX6 120 (-2), Cond.methodLink RX6 122 yX6_numberOf, Cond.instanceMethod yX6_numberOf, Cond.selects RX6 yX6_numberOf yX6_numberOf, Cond.code yX6_numberOf cX6_numberOf 6 (some .long), Cond.methodLink RL 35 yX5_distance, Cond.instanceMethod yX5_distance, Cond.selects RX5 yX5_distance yX5_distance, Cond.code yX5_distance cX5_distance 5 (some .int), Cond.fieldLink RX5 86 "TrialSearch$Space" "right" "[I", Cond.methodLink RX5 89 yX3_apart, Cond.instanceMethod yX3_apart, Cond.selects RX3 yX3_apart yX3_apart, Cond.code yX3_apart cX3_apart 5 (some .int), Cond.methodLink RX3 83 yX3_apartAt]
def wsL_law_r11 : List Cond := [Cond.instanceMethod yX3_apartAt, Cond.selects RX3 yX3_apartAt yX3_apartAt, Cond.code yX3_apartAt cX3_apartAt 4 (some .int), Cond.methodLink RX3 87 Lib.Math.abs.name, Cond.static Lib.Math.abs.name, Cond.initialized "java/lang/Math", Cond.code Lib.Math.abs.name Lib.Math.abs.code 1 (some .int), Cond.methodLink RL 39 yX6_distance, Cond.instanceMethod yX6_distance, Cond.selects RX6 yX6_distance yX6_distance, Cond.code yX6_distance cX6_distance 5 (some .int), Cond.methodLink RX6 125 yX6_distanceOf, Cond.instanceMethod yX6_distanceOf, Cond.selects RX6 yX6_distanceOf yX6_distanceOf, Cond.code yX6_distanceOf cX6_distanceOf 10 (some .int), Cond.methodLink RL 40 yX5_trial, Cond.instanceMethod yX5_trial, Cond.selects RX5 yX5_trial yX5_trial, Cond.code yX5_trial cX5_trial 3 (some .int), Cond.constantLong RX5 93 (2), Cond.methodLink RX5 95 yX5_placeBy, Cond.instanceMethod yX5_placeBy, Cond.selects RX5 yX5_placeBy yX5_placeBy, Cond.code yX5_placeBy cX5_placeBy 3 (some .long)]
def wsL_law_r12 : List Cond := [Cond.methodLink RX5 272 yX5_rest, Cond.static yX5_rest, Cond.code yX5_rest cX5_rest 4 (some .long), Cond.methodLink RX5 275 yX2_pick, Cond.static yX2_pick, Cond.initialized RX2, Cond.code yX2_pick cX2_pick 7 (some .long), Cond.constant RX2 16 (1000000), Cond.methodLink RX2 10 yX2_bitsFor, Cond.static yX2_bitsFor, Cond.code yX2_bitsFor cX2_bitsFor 3 (some .int), Cond.methodLink RX2 17 yX2_twoHashes, Cond.static yX2_twoHashes, Cond.code yX2_twoHashes cX2_twoHashes 6 (some .long), Cond.constantLong RX2 25 (4294967295), Cond.methodLink RX2 21 yX2_hash, Cond.static yX2_hash, Cond.code yX2_hash cX2_hash 3 (some .int), Cond.constant RX2 7 (-1640531527), Cond.constant RX2 8 (-2048144789), Cond.constant RX2 9 (-1028477387), Cond.methodLink RX5 280 yX3_pickEach, Cond.instanceMethod yX3_pickEach, Cond.selects RX3 yX3_pickEach yX3_pickEach]
def wsL_law_r13 : List Cond := [Cond.code yX3_pickEach cX3_pickEach 4 none, Cond.methodLink RX3 73 yX2_hash, Cond.methodLink RX3 79 yX2_pick, Cond.methodLink RX5 99 yX4_add, Cond.instanceMethod yX4_add, Cond.selects RX4 yX4_add yX4_add, Cond.code yX4_add cX4_add 4 (some .int), Cond.methodLink RX4 53 yX3_read, Cond.methodLink RL 44 yX6_trial, Cond.instanceMethod yX6_trial, Cond.selects RX6 yX6_trial yX6_trial, Cond.code yX6_trial cX6_trial 4 (some .int), Cond.constantLong RX6 129 (2), Cond.methodLink RX6 131 yX6_pick, Cond.static yX6_pick, Cond.code yX6_pick cX6_pick 7 (some .long), Cond.constantLong RX6 10 (4294967295), Cond.methodLink RX6 4 yX6_hash, Cond.static yX6_hash, Cond.code yX6_hash cX6_hash 3 (some .int), Cond.constant RX6 1 (-1640531527), Cond.constant RX6 2 (-2048144789), Cond.constant RX6 3 (-1028477387), Cond.methodLink RX6 135 yX6_add]
def wsL_law_r14 : List Cond := [Cond.instanceMethod yX6_add, Cond.selects RX6 yX6_add yX6_add, Cond.code yX6_add cX6_add 3 (some .int), Cond.methodLink RL 45 yX5_guess, Cond.instanceMethod yX5_guess, Cond.selects RX5 yX5_guess yX5_guess, Cond.code yX5_guess cX5_guess 4 (some .int), Cond.constantLong RX5 102 (40), Cond.constantLong RX5 104 (5), Cond.methodLink RX5 106 yX4_bestCandidate, Cond.instanceMethod yX4_bestCandidate, Cond.selects RX4 yX4_bestCandidate yX4_bestCandidate, Cond.code yX4_bestCandidate cX4_bestCandidate 13 (some .long), Cond.fieldLink RX4 59 "TrialSearch$Space" "all" "J", Cond.methodLink RX4 63 yX2_hash, Cond.methodLink RX4 69 yX2_pick, Cond.methodLink RX4 73 yX4_nearSum, Cond.instanceMethod yX4_nearSum, Cond.selects RX4 yX4_nearSum yX4_nearSum, Cond.code yX4_nearSum cX4_nearSum 8 (some .long), Cond.fieldLink RX4 76 "TrialSearch$Space" "left" "[I", Cond.methodLink RX4 79 yX3_apart, Cond.methodLink RX4 83 yX4_holdNear, Cond.instanceMethod yX4_holdNear]
def wsL_law_r15 : List Cond := [Cond.selects RX4 yX4_holdNear yX4_holdNear, Cond.code yX4_holdNear cX4_holdNear 8 (some .int), Cond.methodLink RX4 87 Lib.Math.min.name, Cond.static Lib.Math.min.name, Cond.code Lib.Math.min.name Lib.Math.min.code 2 (some .int), Cond.methodLink RL 48 yX6_guess, Cond.instanceMethod yX6_guess, Cond.selects RX6 yX6_guess yX6_guess, Cond.code yX6_guess cX6_guess 13 (some .int), Cond.constantLong RX6 142 (40), Cond.constantLong RX6 144 (5), Cond.fieldLink RX6 139 "TrialSearchModel" "taken" "I", Cond.methodLink RX6 146 yX6_near, Cond.instanceMethod yX6_near, Cond.selects RX6 yX6_near yX6_near, Cond.code yX6_near cX6_near 9 (some .long), Cond.methodLink RL 49 yX5_forecast, Cond.instanceMethod yX5_forecast, Cond.selects RX5 yX5_forecast yX5_forecast, Cond.code yX5_forecast cX5_forecast 11 (some .long), Cond.constantLong RX5 110 (-1000000000000000001), Cond.fieldLink RX5 112 "TrialSearch$Trials" "scored" "I", Cond.constantLong RX5 115 (-1000000000000000002), Cond.methodLink RX5 121 Lib.Math.min.name]
def wsL_law_r16 : List Cond := [Cond.methodLink RX5 127 Lib.MathLoose.abs_long.x, Cond.static Lib.MathLoose.abs_long.x, Cond.code Lib.MathLoose.abs_long.x Lib.MathLoose.abs_long.code 2 (some .long), Cond.methodLink RX5 117 yX4_nearSum, Cond.methodLink RX5 131 yX5_commonDivisor, Cond.static yX5_commonDivisor, Cond.code yX5_commonDivisor cX5_commonDivisor 11 (some .long), Cond.methodLink RX5 135 yX5_cut, Cond.methodLink RL 53 yX6_forecast, Cond.instanceMethod yX6_forecast, Cond.selects RX6 yX6_forecast yX6_forecast, Cond.code yX6_forecast cX6_forecast 9 (some .long), Cond.constantLong RX6 150 (-1000000000000000001), Cond.constantLong RX6 152 (-1000000000000000002), Cond.methodLink RX6 154 yX6_divisor, Cond.static yX6_divisor, Cond.code yX6_divisor cX6_divisor 10 (some .long), Cond.methodLink RL 54 yX5_score, Cond.instanceMethod yX5_score, Cond.selects RX5 yX5_score yX5_score, Cond.code yX5_score cX5_score 4 (some .int), Cond.fieldLink RX5 146 "TrialSearch$Trials" "states" "[I", Cond.methodLink RX5 138 yX5_isTrial, Cond.instanceMethod yX5_isTrial]
def wsL_law_r17 : List Cond := [Cond.selects RX5 yX5_isTrial yX5_isTrial, Cond.code yX5_isTrial cX5_isTrial 2 (some .boolean), Cond.methodLink RX5 142 yX5_isMark, Cond.static yX5_isMark, Cond.code yX5_isMark cX5_isMark 2 (some .boolean), Cond.constantLong RX5 264 (-1000000), Cond.constantLong RX5 183 (1000000), Cond.methodLink RX5 149 yX4_close, Cond.instanceMethod yX4_close, Cond.selects RX4 yX4_close yX4_close, Cond.code yX4_close cX4_close 4 (some .int), Cond.methodLink RL 58 yX6_score, Cond.instanceMethod yX6_score, Cond.selects RX6 yX6_score yX6_score, Cond.code yX6_score cX6_score 6 (some .int), Cond.methodLink RX6 162 yX6_noTrial, Cond.instanceMethod yX6_noTrial, Cond.selects RX6 yX6_noTrial yX6_noTrial, Cond.code yX6_noTrial cX6_noTrial 2 (some .boolean), Cond.methodLink RX6 166 yX6_isScore, Cond.static yX6_isScore, Cond.code yX6_isScore cX6_isScore 1 (some .boolean), Cond.constantLong RX6 158 (-1000000), Cond.constantLong RX6 160 (1000000)]
def wsL_law_r18 : List Cond := [Cond.methodLink RL 59 yX5_report, Cond.instanceMethod yX5_report, Cond.selects RX5 yX5_report yX5_report, Cond.code yX5_report cX5_report 4 (some .int), Cond.constantLong RX5 153 (60), Cond.fieldLink RX5 155 "TrialSearch$Trials" "steps" "[I", Cond.methodLink RX5 158 yX4_addReport, Cond.instanceMethod yX4_addReport, Cond.selects RX4 yX4_addReport yX4_addReport, Cond.code yX4_addReport cX4_addReport 6 (some .int), Cond.methodLink RX4 92 yX4_isBelowMiddle, Cond.instanceMethod yX4_isBelowMiddle, Cond.selects RX4 yX4_isBelowMiddle yX4_isBelowMiddle, Cond.code yX4_isBelowMiddle cX4_isBelowMiddle 7 (some .boolean), Cond.methodLink RX4 96 yX4_sortIn, Cond.instanceMethod yX4_sortIn, Cond.selects RX4 yX4_sortIn yX4_sortIn, Cond.code yX4_sortIn cX4_sortIn 4 none, Cond.methodLink RL 62 yX6_report, Cond.instanceMethod yX6_report, Cond.selects RX6 yX6_report yX6_report, Cond.code yX6_report cX6_report 5 (some .int), Cond.constantLong RX6 169 (60), Cond.methodLink RX6 171 yX6_prunes]
def wsL_law_r19 : List Cond := [Cond.instanceMethod yX6_prunes, Cond.selects RX6 yX6_prunes yX6_prunes, Cond.code yX6_prunes cX6_prunes 8 (some .boolean), Cond.methodLink RL 63 yX5_told, Cond.instanceMethod yX5_told, Cond.selects RX5 yX5_told yX5_told, Cond.code yX5_told cX5_told 3 (some .int), Cond.fieldLink RX5 161 "TrialSearch$Trials" "scores" "[I", Cond.fieldLink RX5 164 "TrialSearch$Rounds" "marks" "[I", Cond.methodLink RX5 167 yX1_isIn, Cond.instanceMethod yX1_isIn, Cond.selects RX1 yX1_isIn yX1_isIn, Cond.code yX1_isIn cX1_isIn 2 (some .boolean), Cond.methodLink RL 66 yX6_told, Cond.instanceMethod yX6_told, Cond.selects RX6 yX6_told yX6_told, Cond.code yX6_told cX6_told 3 (some .int), Cond.methodLink RL 67 yX5_point, Cond.instanceMethod yX5_point, Cond.selects RX5 yX5_point yX5_point, Cond.code yX5_point cX5_point 2 (some .long), Cond.fieldLink RX5 170 "TrialSearch$Trials" "places" "[J", Cond.methodLink RL 71 yX6_point, Cond.instanceMethod yX6_point]
def wsL_law_r20 : List Cond := [Cond.selects RX6 yX6_point yX6_point, Cond.code yX6_point cX6_point 2 (some .long), Cond.methodLink RL 72 yX5_reported, Cond.instanceMethod yX5_reported, Cond.selects RX5 yX5_reported yX5_reported, Cond.code yX5_reported cX5_reported 3 (some .int), Cond.constant RX5 174 (-2000000), Cond.fieldLink RX5 175 "TrialSearch$Trials" "reports" "[[I", Cond.methodLink RL 75 yX6_reported, Cond.instanceMethod yX6_reported, Cond.selects RX6 yX6_reported yX6_reported, Cond.code yX6_reported cX6_reported 3 (some .int), Cond.constant RX6 175 (-2000000), Cond.methodLink RL 76 yX5_best, Cond.instanceMethod yX5_best, Cond.selects RX5 yX5_best yX5_best, Cond.code yX5_best cX5_best 1 (some .int), Cond.methodLink RX5 179 yX4_firstGreatest, Cond.instanceMethod yX4_firstGreatest, Cond.selects RX4 yX4_firstGreatest yX4_firstGreatest, Cond.code yX4_firstGreatest cX4_firstGreatest 3 (some .int), Cond.methodLink RL 80 yX6_best, Cond.instanceMethod yX6_best, Cond.selects RX6 yX6_best yX6_best]
def wsL_law_r21 : List Cond := [Cond.code yX6_best cX6_best 3 (some .int), Cond.methodLink RL 81 yX5_bracket, Cond.instanceMethod yX5_bracket, Cond.selects RX5 yX5_bracket yX5_bracket, Cond.code yX5_bracket cX5_bracket 5 (some .int), Cond.methodLink RX5 185 yX1_start, Cond.instanceMethod yX1_start, Cond.selects RX1 yX1_start yX1_start, Cond.code yX1_start cX1_start 6 none, Cond.fieldLink RX1 26 "TrialSearch$Rounds" "over" "Z", Cond.fieldLink RX1 29 "TrialSearch$Rounds" "halved" "I", Cond.fieldLink RX1 33 "TrialSearch$Rounds" "budget" "I", Cond.fieldLink RX1 36 "TrialSearch$Rounds" "factor" "I", Cond.fieldLink RX1 39 "TrialSearch$Rounds" "in" "I", Cond.fieldLink RX1 42 "TrialSearch$Rounds" "waiting" "I", Cond.methodLink RL 85 yX6_bracket, Cond.instanceMethod yX6_bracket, Cond.selects RX6 yX6_bracket yX6_bracket, Cond.code yX6_bracket cX6_bracket 6 (some .int), Cond.fieldLink RX6 176 "TrialSearchModel" "isBracket" "Z", Cond.fieldLink RX6 180 "TrialSearchModel" "budget" "I", Cond.fieldLink RX6 183 "TrialSearchModel" "factor" "I", Cond.fieldLink RX6 186 "TrialSearchModel" "halved" "I", Cond.fieldLink RX6 189 "TrialSearchModel" "isOver" "Z"]
def wsL_law_r22 : List Cond := [Cond.fieldLink RX6 192 "TrialSearchModel" "cost" "J", Cond.methodLink RX6 196 yX6_clear, Cond.instanceMethod yX6_clear, Cond.selects RX6 yX6_clear yX6_clear, Cond.code yX6_clear cX6_clear 2 none, Cond.methodLink RL 86 yX5_result, Cond.instanceMethod yX5_result, Cond.selects RX5 yX5_result yX5_result, Cond.code yX5_result cX5_result 4 (some .int), Cond.methodLink RX5 189 yX1_isWaiting, Cond.instanceMethod yX1_isWaiting, Cond.selects RX1 yX1_isWaiting yX1_isWaiting, Cond.code yX1_isWaiting cX1_isWaiting 2 (some .boolean), Cond.methodLink RX5 192 yX1_mark, Cond.instanceMethod yX1_mark, Cond.selects RX1 yX1_mark yX1_mark, Cond.code yX1_mark cX1_mark 4 (some .int), Cond.methodLink RL 89 yX6_result, Cond.instanceMethod yX6_result, Cond.selects RX6 yX6_result yX6_result, Cond.code yX6_result cX6_result 4 (some .int), Cond.methodLink RX6 200 yX6_open, Cond.instanceMethod yX6_open, Cond.selects RX6 yX6_open yX6_open]
def wsL_law_r23 : List Cond := [Cond.code yX6_open cX6_open 3 (some .int), Cond.methodLink RL 90 yX5_halve, Cond.instanceMethod yX5_halve, Cond.selects RX5 yX5_halve yX5_halve, Cond.code yX5_halve cX5_halve 1 (some .int), Cond.methodLink RX5 195 yX1_canEnd, Cond.instanceMethod yX1_canEnd, Cond.selects RX1 yX1_canEnd yX1_canEnd, Cond.code yX1_canEnd cX1_canEnd 1 (some .boolean), Cond.methodLink RX5 199 yX1_end, Cond.instanceMethod yX1_end, Cond.selects RX1 yX1_end yX1_end, Cond.code yX1_end cX1_end 4 (some .int), Cond.methodLink RX1 49 Lib.MathLoose.max_long.x, Cond.static Lib.MathLoose.max_long.x, Cond.code Lib.MathLoose.max_long.x Lib.MathLoose.max_long.code 4 (some .long), Cond.constantLong RX1 61 (1000000000), Cond.methodLink RX1 63 Lib.MathLoose.min_long.x, Cond.static Lib.MathLoose.min_long.x, Cond.code Lib.MathLoose.min_long.x Lib.MathLoose.min_long.code 4 (some .long), Cond.methodLink RX1 54 yX1_keepGreatest, Cond.instanceMethod yX1_keepGreatest, Cond.selects RX1 yX1_keepGreatest yX1_keepGreatest, Cond.code yX1_keepGreatest cX1_keepGreatest 3 (some .boolean)]
def wsL_law_r24 : List Cond := [Cond.methodLink RX1 58 yX1_openRound, Cond.instanceMethod yX1_openRound, Cond.selects RX1 yX1_openRound yX1_openRound, Cond.code yX1_openRound cX1_openRound 2 none, Cond.methodLink RL 93 yX6_halve, Cond.instanceMethod yX6_halve, Cond.selects RX6 yX6_halve yX6_halve, Cond.code yX6_halve cX6_halve 5 (some .int), Cond.constantLong RX6 207 (1000000000), Cond.constant RX6 209 (1000000000), Cond.methodLink RX6 204 yX6_inside, Cond.instanceMethod yX6_inside, Cond.selects RX6 yX6_inside yX6_inside, Cond.code yX6_inside cX6_inside 3 (some .int), Cond.methodLink RL 94 yX5_round, Cond.instanceMethod yX5_round, Cond.selects RX5 yX5_round yX5_round, Cond.code yX5_round cX5_round 2 (some .int), Cond.constantLong RX5 202 (3), Cond.fieldLink RX5 204 "TrialSearch$Rounds" "started" "Z", Cond.methodLink RX5 208 yX1_tell, Cond.instanceMethod yX1_tell, Cond.selects RX1 yX1_tell yX1_tell, Cond.code yX1_tell cX1_tell 2 (some .int)]
def wsL_law_r25 : List Cond := [Cond.methodLink RL 98 yX6_round, Cond.instanceMethod yX6_round, Cond.selects RX6 yX6_round yX6_round, Cond.code yX6_round cX6_round 2 (some .int), Cond.constantLong RX6 210 (3), Cond.methodLink RL 99 yX5_cost, Cond.instanceMethod yX5_cost, Cond.selects RX5 yX5_cost yX5_cost, Cond.code yX5_cost cX5_cost 1 (some .long), Cond.fieldLink RX5 212 "TrialSearch$Rounds" "spent" "J", Cond.methodLink RL 102 yX6_cost, Cond.instanceMethod yX6_cost, Cond.selects RX6 yX6_cost yX6_cost, Cond.code yX6_cost cX6_cost 1 (some .long), Cond.methodLink RL 103 yX5_plan, Cond.instanceMethod yX5_plan, Cond.selects RX5 yX5_plan yX5_plan, Cond.code yX5_plan cX5_plan 8 (some .int), Cond.methodLink RX5 215 yX5_lastBracket, Cond.static yX5_lastBracket, Cond.code yX5_lastBracket cX5_lastBracket 3 (some .int), Cond.methodLink RX5 218 yX5_power, Cond.static yX5_power, Cond.code yX5_power cX5_power 5 (some .long)]
def wsL_law_r26 : List Cond := [Cond.methodLink RX5 221 yX5_cutUp, Cond.static yX5_cutUp, Cond.code yX5_cutUp cX5_cutUp 4 (some .long), Cond.methodLink RL 106 yX6_plan, Cond.instanceMethod yX6_plan, Cond.selects RX6 yX6_plan yX6_plan, Cond.code yX6_plan cX6_plan 9 (some .int), Cond.methodLink RL 107 yX5_folds, Cond.instanceMethod yX5_folds, Cond.selects RX5 yX5_folds yX5_folds, Cond.code yX5_folds cX5_folds 5 (some .int), Cond.constantLong RX5 224 (200), Cond.constantLong RX5 226 (10), Cond.methodLink RX5 228 yX0_make, Cond.instanceMethod yX0_make, Cond.selects RX0 yX0_make yX0_make, Cond.code yX0_make cX0_make 7 none, Cond.methodLink RX0 40 yJ7_fill_53178, Cond.static yJ7_fill_53178, Cond.code yJ7_fill_53178 cJ7_fill_53178 4 none, Cond.methodLink RX0 46 yX2_hash, Cond.methodLink RX0 52 yX0_sortIn, Cond.instanceMethod yX0_sortIn, Cond.selects RX0 yX0_sortIn yX0_sortIn]
def wsL_law_r27 : List Cond := [Cond.code yX0_sortIn cX0_sortIn 7 none, Cond.methodLink RX0 63 arraycopyName, Cond.native arraycopyName, Cond.static arraycopyName, Cond.initialized "java/lang/System", Cond.methodLink RL 110 yX6_folds, Cond.instanceMethod yX6_folds, Cond.selects RX6 yX6_folds yX6_folds, Cond.code yX6_folds cX6_folds 9 (some .int), Cond.constantLong RX6 212 (200), Cond.constantLong RX6 214 (10), Cond.fieldLink RX6 216 "TrialSearchModel" "rows" "I", Cond.fieldLink RX6 219 "TrialSearchModel" "outers" "I", Cond.fieldLink RX6 222 "TrialSearchModel" "inners" "I", Cond.methodLink RL 111 yX5_fold, Cond.instanceMethod yX5_fold, Cond.selects RX5 yX5_fold yX5_fold, Cond.code yX5_fold cX5_fold 3 (some .int), Cond.fieldLink RX5 234 "TrialSearch$Folds" "outerOf" "[I", Cond.fieldLink RX5 237 "TrialSearch$Folds" "innerOf" "[I", Cond.methodLink RX5 231 yX5_isRow, Cond.instanceMethod yX5_isRow, Cond.selects RX5 yX5_isRow yX5_isRow, Cond.code yX5_isRow cX5_isRow 2 (some .boolean)]
def wsL_law_r28 : List Cond := [Cond.fieldLink RX5 266 "TrialSearch$Folds" "rows" "I", Cond.methodLink RL 114 yX6_fold, Cond.instanceMethod yX6_fold, Cond.selects RX6 yX6_fold yX6_fold, Cond.code yX6_fold cX6_fold 3 (some .int), Cond.methodLink RX6 225 yX6_outerOf, Cond.instanceMethod yX6_outerOf, Cond.selects RX6 yX6_outerOf yX6_outerOf, Cond.code yX6_outerOf cX6_outerOf 2 (some .int), Cond.methodLink RX6 229 yX6_innerOf, Cond.instanceMethod yX6_innerOf, Cond.selects RX6 yX6_innerOf yX6_innerOf, Cond.code yX6_innerOf cX6_innerOf 2 (some .int), Cond.methodLink RL 115 yX5_use, Cond.instanceMethod yX5_use, Cond.selects RX5 yX5_use yX5_use, Cond.code yX5_use cX5_use 3 (some .int), Cond.fieldLink RX5 243 "TrialSearch$Folds" "inner" "I", Cond.fieldLink RX5 246 "TrialSearch$Folds" "tested" "[I", Cond.methodLink RX5 240 yX5_isOuter, Cond.instanceMethod yX5_isOuter, Cond.selects RX5 yX5_isOuter yX5_isOuter, Cond.code yX5_isOuter cX5_isOuter 2 (some .boolean), Cond.fieldLink RX5 269 "TrialSearch$Folds" "outer" "I"]
def wsL_law_r29 : List Cond := [Cond.methodLink RX5 249 yX0_test, Cond.instanceMethod yX0_test, Cond.selects RX0 yX0_test yX0_test, Cond.code yX0_test cX0_test 4 (some .int), Cond.methodLink RX5 252 yX0_choose, Cond.instanceMethod yX0_choose, Cond.selects RX0 yX0_choose yX0_choose, Cond.code yX0_choose cX0_choose 5 (some .int), Cond.methodLink RL 118 yX6_use, Cond.instanceMethod yX6_use, Cond.selects RX6 yX6_use yX6_use, Cond.code yX6_use cX6_use 8 (some .int), Cond.methodLink RL 119 yX5_used, Cond.instanceMethod yX5_used, Cond.selects RX5 yX5_used yX5_used, Cond.code yX5_used cX5_used 4 (some .int), Cond.methodLink RX5 255 yX0_trained, Cond.instanceMethod yX0_trained, Cond.selects RX0 yX0_trained yX0_trained, Cond.code yX0_trained cX0_trained 5 (some .int), Cond.methodLink RX5 258 yX0_validated, Cond.instanceMethod yX0_validated, Cond.selects RX0 yX0_validated yX0_validated, Cond.code yX0_validated cX0_validated 3 (some .int)]
def wsL_law_r30 : List Cond := [Cond.methodLink RX5 261 yX0_testing, Cond.instanceMethod yX0_testing, Cond.selects RX0 yX0_testing yX0_testing, Cond.code yX0_testing cX0_testing 3 (some .int), Cond.methodLink RL 122 yX6_used, Cond.instanceMethod yX6_used, Cond.selects RX6 yX6_used yX6_used, Cond.code yX6_used cX6_used 4 (some .int)]
def wsL_law : List Cond := (wsL_law_r1 ++ (wsL_law_r2 ++ (wsL_law_r3 ++ (wsL_law_r4 ++ (wsL_law_r5 ++ (wsL_law_r6 ++ (wsL_law_r7 ++ (wsL_law_r8 ++ (wsL_law_r9 ++ (wsL_law_r10 ++ (wsL_law_r11 ++ (wsL_law_r12 ++ (wsL_law_r13 ++ (wsL_law_r14 ++ (wsL_law_r15 ++ (wsL_law_r16 ++ (wsL_law_r17 ++ (wsL_law_r18 ++ (wsL_law_r19 ++ (wsL_law_r20 ++ (wsL_law_r21 ++ (wsL_law_r22 ++ (wsL_law_r23 ++ (wsL_law_r24 ++ (wsL_law_r25 ++ (wsL_law_r26 ++ (wsL_law_r27 ++ (wsL_law_r28 ++ (wsL_law_r29 ++ wsL_law_r30))))))))))))))))))))))))))))) ++ wsX50 ++ wsX60 ++ wsX30 ++ wsX40 ++ wsX10 ++ wsX00 ++ ([] : List Cond)
set_option maxRecDepth 20000 in
theorem wsL_law_in : ∀ w ∈ wsL_law, w ∈ lw_tbl := fun w h => (goodIn_p wsL_law [47, 50, 55, 99, 151, 191, 600, 241, 245, 251, 255, 258, 262, 266, 269, 700, 704, 710, 273, 714, 277, 281, 285, 289, 292, 718, 722, 727, 731, 735, 296, 300, 304, 739, 745, 309, 313, 317, 320, 749, 753, 324, 329, 332, 335, 338, 342, 345, 353, 359, 757, 761, 764, 772, 364, 370, 376, 381, 384, 776, 782, 388, 395, 398, 786, 791, 403, 407, 410, 416, 795, 799, 802, 420, 425, 429, 433, 808, 813, 437, 441, 817, 445, 821, 449, 825, 454, 458, 830, 462, 466, 834, 838, 470, 474, 478, 842, 846, 482, 486, 490, 494, 506, 498, 502, 850, 854, 510, 515, 860, 519, 865, 523, 526, 529, 532, 869, 536, 542, 545, 550, 873, 559, 563, 879, 883, 887, 567, 571, 575, 579, 891, 583, 587, 591, 595, 895] (by decide +kernel) (by decide +kernel) w h).1
theorem inlX0 : ∀ w ∈ wsX00, w ∈ wsL_law := fun _ h => List.mem_append_left _ (List.mem_append_right _ h)
theorem inX0 : ∀ w ∈ wsX00, w ∈ lw_tbl := fun w h => wsL_law_in w (inlX0 w h)
theorem inlX1 : ∀ w ∈ wsX10, w ∈ wsL_law := fun _ h => List.mem_append_left _ (List.mem_append_left _ (List.mem_append_right _ h))
theorem inX1 : ∀ w ∈ wsX10, w ∈ lw_tbl := fun w h => wsL_law_in w (inlX1 w h)
theorem inX2 : ∀ w ∈ wsX20, w ∈ lw_tbl := by decide +kernel
theorem inlX3 : ∀ w ∈ wsX30, w ∈ wsL_law := fun _ h => List.mem_append_left _ (List.mem_append_left _ (List.mem_append_left _ (List.mem_append_left _ (List.mem_append_right _ h))))
theorem inX3 : ∀ w ∈ wsX30, w ∈ lw_tbl := fun w h => wsL_law_in w (inlX3 w h)
theorem inlX4 : ∀ w ∈ wsX40, w ∈ wsL_law := fun _ h => List.mem_append_left _ (List.mem_append_left _ (List.mem_append_left _ (List.mem_append_right _ h)))
theorem inX4 : ∀ w ∈ wsX40, w ∈ lw_tbl := fun w h => wsL_law_in w (inlX4 w h)
theorem inlX5 : ∀ w ∈ wsX50, w ∈ wsL_law := fun _ h => List.mem_append_left _ (List.mem_append_left _ (List.mem_append_left _ (List.mem_append_left _ (List.mem_append_left _ (List.mem_append_left _ (List.mem_append_right _ h))))))
theorem inX5 : ∀ w ∈ wsX50, w ∈ lw_tbl := fun w h => wsL_law_in w (inlX5 w h)
theorem inlX6 : ∀ w ∈ wsX60, w ∈ wsL_law := fun _ h => List.mem_append_left _ (List.mem_append_left _ (List.mem_append_left _ (List.mem_append_left _ (List.mem_append_left _ (List.mem_append_right _ h)))))
theorem inX6 : ∀ w ∈ wsX60, w ∈ lw_tbl := fun w h => wsL_law_in w (inlX6 w h)
theorem inJ9 : ∀ w ∈ wsJ90, w ∈ lw_tbl := by decide +kernel
theorem inJ10 : ∀ w ∈ wsJ100, w ∈ lw_tbl := by decide +kernel
theorem inJ7 : ∀ w ∈ wsJ70, w ∈ lw_tbl := by decide +kernel
abbrev vwCl : List vw_C := [(RX0, TX0, 8), (RX1, TX1, 10), (RX3, TX3, 9), (RX4, TX4, 12), (RX5, TX5, 4), (RX6, TX6, 31)]
end
section
theorem dX0_init_0 : decode cX0_init 0 = .ok (.aload_n 0, 1) := by decide +kernel
theorem dX0_init_1 : decode cX0_init 1 = .ok (.invokespecial 3, 3) := by decide +kernel
theorem dX0_init_4 : decode cX0_init 4 = .ok (.aload_n 0, 1) := by decide +kernel
theorem dX0_init_5 : decode cX0_init 5 = .ok (.iconst 0, 1) := by decide +kernel
theorem dX0_init_6 : decode cX0_init 6 = .ok (.putfield 9, 3) := by decide +kernel
theorem dX0_init_9 : decode cX0_init 9 = .ok (.aload_n 0, 1) := by decide +kernel
theorem dX0_init_10 : decode cX0_init 10 = .ok (.iconst 0, 1) := by decide +kernel
theorem dX0_init_11 : decode cX0_init 11 = .ok (.putfield 15, 3) := by decide +kernel
theorem dX0_init_14 : decode cX0_init 14 = .ok (.aload_n 0, 1) := by decide +kernel
theorem dX0_init_15 : decode cX0_init 15 = .ok (.iconst 0, 1) := by decide +kernel
theorem dX0_init_16 : decode cX0_init 16 = .ok (.putfield 18, 3) := by decide +kernel
theorem dX0_init_19 : decode cX0_init 19 = .ok (.aload_n 0, 1) := by decide +kernel
theorem dX0_init_20 : decode cX0_init 20 = .ok (.sipush 200, 3) := by decide +kernel
theorem dX0_init_23 : decode cX0_init 23 = .ok (.newarray .int, 2) := by decide +kernel
theorem dX0_init_25 : decode cX0_init 25 = .ok (.putfield 21, 3) := by decide +kernel
theorem dX0_init_28 : decode cX0_init 28 = .ok (.aload_n 0, 1) := by decide +kernel
theorem dX0_init_29 : decode cX0_init 29 = .ok (.sipush 200, 3) := by decide +kernel
theorem dX0_init_32 : decode cX0_init 32 = .ok (.newarray .int, 2) := by decide +kernel
theorem dX0_init_34 : decode cX0_init 34 = .ok (.putfield 25, 3) := by decide +kernel
theorem dX0_init_37 : decode cX0_init 37 = .ok (.aload_n 0, 1) := by decide +kernel
theorem dX0_init_38 : decode cX0_init 38 = .ok (.bipush 10, 2) := by decide +kernel
theorem dX0_init_40 : decode cX0_init 40 = .ok (.newarray .int, 2) := by decide +kernel
theorem dX0_init_42 : decode cX0_init 42 = .ok (.putfield 28, 3) := by decide +kernel
theorem dX0_init_45 : decode cX0_init 45 = .ok (.aload_n 0, 1) := by decide +kernel
theorem dX0_init_46 : decode cX0_init 46 = .ok (.bipush 10, 2) := by decide +kernel
theorem dX0_init_48 : decode cX0_init 48 = .ok (.bipush 10, 2) := by decide +kernel
theorem dX0_init_50 : decode cX0_init 50 = .ok (.multianewarray 31 2, 4) := by decide +kernel
theorem dX0_init_54 : decode cX0_init 54 = .ok (.putfield 33, 3) := by decide +kernel
theorem dX0_init_57 : decode cX0_init 57 = .ok (.aload_n 0, 1) := by decide +kernel
theorem dX0_init_58 : decode cX0_init 58 = .ok (.sipush 200, 3) := by decide +kernel
theorem dX0_init_61 : decode cX0_init 61 = .ok (.newarray .long, 2) := by decide +kernel
theorem dX0_init_63 : decode cX0_init 63 = .ok (.putfield 36, 3) := by decide +kernel
theorem dX0_init_66 : decode cX0_init 66 = .ok (.return_, 1) := by decide +kernel
set_option maxRecDepth 20000 in
theorem ggX0_make_J7_fill_53178 : GoodIn wsX0_make wsJ7_fill_53178 := goodIn_r _ [12] (by decide +kernel) (by decide +kernel)
set_option maxRecDepth 20000 in
theorem gX0_make_J7_fill_53178 : GoodIn wsX0_make (va_wsS RX0 40 yJ7_fill_53178 wsJ7_fill_53178) := goodIn_app (goodIn_of _ (by decide +kernel)) ggX0_make_J7_fill_53178
set_option maxRecDepth 20000 in
theorem ggX0_make_X2_hash : GoodIn wsX0_make wsX2_hash := goodIn_r _ [16, 17, 18, 19] (by decide +kernel) (by decide +kernel)
set_option maxRecDepth 20000 in
theorem gX0_make_X2_hash : GoodIn wsX0_make (va_wsS RX0 46 yX2_hash wsX2_hash) := goodIn_app (goodIn_of _ (by decide +kernel)) ggX0_make_X2_hash
set_option maxRecDepth 20000 in
theorem ggX0_make_X0_sortIn : GoodIn wsX0_make wsX0_sortIn := goodIn_r _ [24, 6, 25, 26, 27, 28, 34, 35, 36, 37, 38, 39, 40, 41] (by decide +kernel) (by decide +kernel)
set_option maxRecDepth 20000 in
theorem gX0_make_X0_sortIn : GoodIn wsX0_make (wsV RX0 52 RX0 yX0_sortIn wsX0_sortIn) := goodIn_app (goodIn_of _ (by decide +kernel)) ggX0_make_X0_sortIn
set_option maxRecDepth 20000 in
theorem ggX0_make_X5_rest : GoodIn wsX0_make wsX5_rest := goodIn_r _ [31] (by decide +kernel) (by decide +kernel)
set_option maxRecDepth 20000 in
theorem gX0_make_X5_rest_n56 : GoodIn wsX0_make (wsX5_rest) := ggX0_make_X5_rest
set_option maxRecDepth 20000 in
theorem ggX0_make_X5_cut : GoodIn wsX0_make wsX5_cut := goodIn_r _ [33] (by decide +kernel) (by decide +kernel)
set_option maxRecDepth 20000 in
theorem gX0_make_X5_cut_n60 : GoodIn wsX0_make (wsX5_cut) := ggX0_make_X5_cut
theorem dX0_make_0 : decode cX0_make 0 = .ok (.aload_n 0, 1) := by decide +kernel
theorem dX0_make_1 : decode cX0_make 1 = .ok (.iload_n 1, 1) := by decide +kernel
theorem dX0_make_2 : decode cX0_make 2 = .ok (.putfield 9, 3) := by decide +kernel
theorem dX0_make_5 : decode cX0_make 5 = .ok (.aload_n 0, 1) := by decide +kernel
theorem dX0_make_6 : decode cX0_make 6 = .ok (.iload_n 2, 1) := by decide +kernel
theorem dX0_make_7 : decode cX0_make 7 = .ok (.putfield 15, 3) := by decide +kernel
theorem dX0_make_10 : decode cX0_make 10 = .ok (.aload_n 0, 1) := by decide +kernel
theorem dX0_make_11 : decode cX0_make 11 = .ok (.iload_n 3, 1) := by decide +kernel
theorem dX0_make_12 : decode cX0_make 12 = .ok (.putfield 18, 3) := by decide +kernel
theorem dX0_make_15 : decode cX0_make 15 = .ok (.aload_n 0, 1) := by decide +kernel
theorem dX0_make_16 : decode cX0_make 16 = .ok (.getfield 28, 3) := by decide +kernel
theorem dX0_make_19 : decode cX0_make 19 = .ok (.iconst 0, 1) := by decide +kernel
theorem dX0_make_20 : decode cX0_make 20 = .ok (.invokestatic 40, 3) := by decide +kernel
theorem dX0_make_23 : decode cX0_make 23 = .ok (.iconst 0, 1) := by decide +kernel
theorem dX0_make_24 : decode cX0_make 24 = .ok (.istore 5, 2) := by decide +kernel
theorem dX0_make_26 : decode cX0_make 26 = .ok (.iload 5, 2) := by decide +kernel
theorem dX0_make_28 : decode cX0_make 28 = .ok (.bipush 10, 2) := by decide +kernel
theorem dX0_make_30 : decode cX0_make 30 = .ok (.if_icmp .ge 20, 3) := by decide +kernel
theorem dX0_make_33 : decode cX0_make 33 = .ok (.aload_n 0, 1) := by decide +kernel
theorem dX0_make_34 : decode cX0_make 34 = .ok (.getfield 33, 3) := by decide +kernel
theorem dX0_make_37 : decode cX0_make 37 = .ok (.iload 5, 2) := by decide +kernel
theorem dX0_make_39 : decode cX0_make 39 = .ok (.aaload, 1) := by decide +kernel
theorem dX0_make_40 : decode cX0_make 40 = .ok (.iconst 0, 1) := by decide +kernel
theorem dX0_make_41 : decode cX0_make 41 = .ok (.invokestatic 40, 3) := by decide +kernel
theorem dX0_make_44 : decode cX0_make 44 = .ok (.iinc 5 1, 3) := by decide +kernel
theorem dX0_make_47 : decode cX0_make 47 = .ok (.goto (-21), 3) := by decide +kernel
theorem dX0_make_50 : decode cX0_make 50 = .ok (.iconst 0, 1) := by decide +kernel
theorem dX0_make_51 : decode cX0_make 51 = .ok (.istore 5, 2) := by decide +kernel
theorem dX0_make_53 : decode cX0_make 53 = .ok (.iload 5, 2) := by decide +kernel
theorem dX0_make_55 : decode cX0_make 55 = .ok (.aload_n 0, 1) := by decide +kernel
theorem dX0_make_56 : decode cX0_make 56 = .ok (.getfield 9, 3) := by decide +kernel
theorem dX0_make_59 : decode cX0_make 59 = .ok (.if_icmp .ge 30, 3) := by decide +kernel
theorem dX0_make_62 : decode cX0_make 62 = .ok (.aload_n 0, 1) := by decide +kernel
theorem dX0_make_63 : decode cX0_make 63 = .ok (.iload 4, 2) := by decide +kernel
theorem dX0_make_65 : decode cX0_make 65 = .ok (.iload 5, 2) := by decide +kernel
theorem dX0_make_67 : decode cX0_make 67 = .ok (.invokestatic 46, 3) := by decide +kernel
theorem dX0_make_70 : decode cX0_make 70 = .ok (.i2l, 1) := by decide +kernel
theorem dX0_make_71 : decode cX0_make 71 = .ok (.bipush 8, 2) := by decide +kernel
theorem dX0_make_73 : decode cX0_make 73 = .ok (.lshl, 1) := by decide +kernel
theorem dX0_make_74 : decode cX0_make 74 = .ok (.iload 5, 2) := by decide +kernel
theorem dX0_make_76 : decode cX0_make 76 = .ok (.i2l, 1) := by decide +kernel
theorem dX0_make_77 : decode cX0_make 77 = .ok (.lor, 1) := by decide +kernel
theorem dX0_make_78 : decode cX0_make 78 = .ok (.iload 5, 2) := by decide +kernel
theorem dX0_make_80 : decode cX0_make 80 = .ok (.invokevirtual 52, 3) := by decide +kernel
theorem dX0_make_83 : decode cX0_make 83 = .ok (.iinc 5 1, 3) := by decide +kernel
theorem dX0_make_86 : decode cX0_make 86 = .ok (.goto (-33), 3) := by decide +kernel
theorem dX0_make_89 : decode cX0_make 89 = .ok (.iconst 0, 1) := by decide +kernel
theorem dX0_make_90 : decode cX0_make 90 = .ok (.istore 5, 2) := by decide +kernel
theorem dX0_make_92 : decode cX0_make 92 = .ok (.iload 5, 2) := by decide +kernel
theorem dX0_make_94 : decode cX0_make 94 = .ok (.aload_n 0, 1) := by decide +kernel
theorem dX0_make_95 : decode cX0_make 95 = .ok (.getfield 9, 3) := by decide +kernel
theorem dX0_make_98 : decode cX0_make 98 = .ok (.if_icmp .ge 69, 3) := by decide +kernel
theorem dX0_make_101 : decode cX0_make 101 = .ok (.aload_n 0, 1) := by decide +kernel
theorem dX0_make_102 : decode cX0_make 102 = .ok (.getfield 36, 3) := by decide +kernel
theorem dX0_make_105 : decode cX0_make 105 = .ok (.iload 5, 2) := by decide +kernel
theorem dX0_make_107 : decode cX0_make 107 = .ok (.laload, 1) := by decide +kernel
theorem dX0_make_108 : decode cX0_make 108 = .ok (.l2i, 1) := by decide +kernel
theorem dX0_make_109 : decode cX0_make 109 = .ok (.sipush 255, 3) := by decide +kernel
theorem dX0_make_112 : decode cX0_make 112 = .ok (.iand, 1) := by decide +kernel
theorem dX0_make_113 : decode cX0_make 113 = .ok (.istore 6, 2) := by decide +kernel
theorem dX0_make_115 : decode cX0_make 115 = .ok (.aload_n 0, 1) := by decide +kernel
theorem dX0_make_116 : decode cX0_make 116 = .ok (.getfield 21, 3) := by decide +kernel
theorem dX0_make_119 : decode cX0_make 119 = .ok (.iload 6, 2) := by decide +kernel
theorem dX0_make_121 : decode cX0_make 121 = .ok (.iload 5, 2) := by decide +kernel
theorem dX0_make_123 : decode cX0_make 123 = .ok (.i2l, 1) := by decide +kernel
theorem dX0_make_124 : decode cX0_make 124 = .ok (.aload_n 0, 1) := by decide +kernel
theorem dX0_make_125 : decode cX0_make 125 = .ok (.getfield 15, 3) := by decide +kernel
theorem dX0_make_128 : decode cX0_make 128 = .ok (.i2l, 1) := by decide +kernel
theorem dX0_make_129 : decode cX0_make 129 = .ok (.invokestatic 56, 3) := by decide +kernel
theorem dX0_make_132 : decode cX0_make 132 = .ok (.l2i, 1) := by decide +kernel
theorem dX0_make_133 : decode cX0_make 133 = .ok (.iastore, 1) := by decide +kernel
theorem dX0_make_134 : decode cX0_make 134 = .ok (.aload_n 0, 1) := by decide +kernel
theorem dX0_make_135 : decode cX0_make 135 = .ok (.getfield 25, 3) := by decide +kernel
theorem dX0_make_138 : decode cX0_make 138 = .ok (.iload 6, 2) := by decide +kernel
theorem dX0_make_140 : decode cX0_make 140 = .ok (.iload 5, 2) := by decide +kernel
theorem dX0_make_142 : decode cX0_make 142 = .ok (.i2l, 1) := by decide +kernel
theorem dX0_make_143 : decode cX0_make 143 = .ok (.aload_n 0, 1) := by decide +kernel
theorem dX0_make_144 : decode cX0_make 144 = .ok (.getfield 15, 3) := by decide +kernel
theorem dX0_make_147 : decode cX0_make 147 = .ok (.i2l, 1) := by decide +kernel
theorem dX0_make_148 : decode cX0_make 148 = .ok (.invokestatic 60, 3) := by decide +kernel
theorem dX0_make_151 : decode cX0_make 151 = .ok (.aload_n 0, 1) := by decide +kernel
theorem dX0_make_152 : decode cX0_make 152 = .ok (.getfield 18, 3) := by decide +kernel
theorem dX0_make_155 : decode cX0_make 155 = .ok (.i2l, 1) := by decide +kernel
theorem dX0_make_156 : decode cX0_make 156 = .ok (.invokestatic 56, 3) := by decide +kernel
theorem dX0_make_159 : decode cX0_make 159 = .ok (.l2i, 1) := by decide +kernel
theorem dX0_make_160 : decode cX0_make 160 = .ok (.iastore, 1) := by decide +kernel
theorem dX0_make_161 : decode cX0_make 161 = .ok (.iinc 5 1, 3) := by decide +kernel
theorem dX0_make_164 : decode cX0_make 164 = .ok (.goto (-72), 3) := by decide +kernel
theorem dX0_make_167 : decode cX0_make 167 = .ok (.return_, 1) := by decide +kernel
theorem dX0_sortIn_0 : decode cX0_sortIn 0 = .ok (.iconst 0, 1) := by decide +kernel
theorem dX0_sortIn_1 : decode cX0_sortIn 1 = .ok (.istore 4, 2) := by decide +kernel
theorem dX0_sortIn_3 : decode cX0_sortIn 3 = .ok (.iload_n 3, 1) := by decide +kernel
theorem dX0_sortIn_4 : decode cX0_sortIn 4 = .ok (.istore 5, 2) := by decide +kernel
theorem dX0_sortIn_6 : decode cX0_sortIn 6 = .ok (.iload 4, 2) := by decide +kernel
theorem dX0_sortIn_8 : decode cX0_sortIn 8 = .ok (.iload 5, 2) := by decide +kernel
theorem dX0_sortIn_10 : decode cX0_sortIn 10 = .ok (.if_icmp .ge 40, 3) := by decide +kernel
theorem dX0_sortIn_13 : decode cX0_sortIn 13 = .ok (.iload 4, 2) := by decide +kernel
theorem dX0_sortIn_15 : decode cX0_sortIn 15 = .ok (.iload 5, 2) := by decide +kernel
theorem dX0_sortIn_17 : decode cX0_sortIn 17 = .ok (.iadd, 1) := by decide +kernel
theorem dX0_sortIn_18 : decode cX0_sortIn 18 = .ok (.iconst 2, 1) := by decide +kernel
theorem dX0_sortIn_19 : decode cX0_sortIn 19 = .ok (.idiv, 1) := by decide +kernel
theorem dX0_sortIn_20 : decode cX0_sortIn 20 = .ok (.istore 6, 2) := by decide +kernel
theorem dX0_sortIn_22 : decode cX0_sortIn 22 = .ok (.aload_n 0, 1) := by decide +kernel
theorem dX0_sortIn_23 : decode cX0_sortIn 23 = .ok (.getfield 36, 3) := by decide +kernel
theorem dX0_sortIn_26 : decode cX0_sortIn 26 = .ok (.iload 6, 2) := by decide +kernel
theorem dX0_sortIn_28 : decode cX0_sortIn 28 = .ok (.laload, 1) := by decide +kernel
theorem dX0_sortIn_29 : decode cX0_sortIn 29 = .ok (.lload_n 1, 1) := by decide +kernel
theorem dX0_sortIn_30 : decode cX0_sortIn 30 = .ok (.lcmp, 1) := by decide +kernel
theorem dX0_sortIn_31 : decode cX0_sortIn 31 = .ok (.ifCond .ge 12, 3) := by decide +kernel
theorem dX0_sortIn_34 : decode cX0_sortIn 34 = .ok (.iload 6, 2) := by decide +kernel
theorem dX0_sortIn_36 : decode cX0_sortIn 36 = .ok (.iconst 1, 1) := by decide +kernel
theorem dX0_sortIn_37 : decode cX0_sortIn 37 = .ok (.iadd, 1) := by decide +kernel
theorem dX0_sortIn_38 : decode cX0_sortIn 38 = .ok (.istore 4, 2) := by decide +kernel
theorem dX0_sortIn_40 : decode cX0_sortIn 40 = .ok (.goto 7, 3) := by decide +kernel
theorem dX0_sortIn_43 : decode cX0_sortIn 43 = .ok (.iload 6, 2) := by decide +kernel
theorem dX0_sortIn_45 : decode cX0_sortIn 45 = .ok (.istore 5, 2) := by decide +kernel
theorem dX0_sortIn_47 : decode cX0_sortIn 47 = .ok (.goto (-41), 3) := by decide +kernel
theorem dX0_sortIn_50 : decode cX0_sortIn 50 = .ok (.aload_n 0, 1) := by decide +kernel
theorem dX0_sortIn_51 : decode cX0_sortIn 51 = .ok (.getfield 36, 3) := by decide +kernel
theorem dX0_sortIn_54 : decode cX0_sortIn 54 = .ok (.iload 4, 2) := by decide +kernel
theorem dX0_sortIn_56 : decode cX0_sortIn 56 = .ok (.aload_n 0, 1) := by decide +kernel
theorem dX0_sortIn_57 : decode cX0_sortIn 57 = .ok (.getfield 36, 3) := by decide +kernel
theorem dX0_sortIn_60 : decode cX0_sortIn 60 = .ok (.iload 4, 2) := by decide +kernel
theorem dX0_sortIn_62 : decode cX0_sortIn 62 = .ok (.iconst 1, 1) := by decide +kernel
theorem dX0_sortIn_63 : decode cX0_sortIn 63 = .ok (.iadd, 1) := by decide +kernel
theorem dX0_sortIn_64 : decode cX0_sortIn 64 = .ok (.iload_n 3, 1) := by decide +kernel
theorem dX0_sortIn_65 : decode cX0_sortIn 65 = .ok (.iload 4, 2) := by decide +kernel
theorem dX0_sortIn_67 : decode cX0_sortIn 67 = .ok (.isub, 1) := by decide +kernel
theorem dX0_sortIn_68 : decode cX0_sortIn 68 = .ok (.invokestatic 63, 3) := by decide +kernel
theorem dX0_sortIn_71 : decode cX0_sortIn 71 = .ok (.aload_n 0, 1) := by decide +kernel
theorem dX0_sortIn_72 : decode cX0_sortIn 72 = .ok (.getfield 36, 3) := by decide +kernel
theorem dX0_sortIn_75 : decode cX0_sortIn 75 = .ok (.iload 4, 2) := by decide +kernel
theorem dX0_sortIn_77 : decode cX0_sortIn 77 = .ok (.lload_n 1, 1) := by decide +kernel
theorem dX0_sortIn_78 : decode cX0_sortIn 78 = .ok (.lastore, 1) := by decide +kernel
theorem dX0_sortIn_79 : decode cX0_sortIn 79 = .ok (.return_, 1) := by decide +kernel
theorem dX0_test_0 : decode cX0_test 0 = .ok (.aload_n 0, 1) := by decide +kernel
theorem dX0_test_1 : decode cX0_test 1 = .ok (.getfield 28, 3) := by decide +kernel
theorem dX0_test_4 : decode cX0_test 4 = .ok (.iload_n 1, 1) := by decide +kernel
theorem dX0_test_5 : decode cX0_test 5 = .ok (.dup2, 1) := by decide +kernel
theorem dX0_test_6 : decode cX0_test 6 = .ok (.iaload, 1) := by decide +kernel
theorem dX0_test_7 : decode cX0_test 7 = .ok (.iconst 1, 1) := by decide +kernel
theorem dX0_test_8 : decode cX0_test 8 = .ok (.iadd, 1) := by decide +kernel
theorem dX0_test_9 : decode cX0_test 9 = .ok (.iastore, 1) := by decide +kernel
theorem dX0_test_10 : decode cX0_test 10 = .ok (.iconst 0, 1) := by decide +kernel
theorem dX0_test_11 : decode cX0_test 11 = .ok (.istore_n 2, 1) := by decide +kernel
theorem dX0_test_12 : decode cX0_test 12 = .ok (.iconst 0, 1) := by decide +kernel
theorem dX0_test_13 : decode cX0_test 13 = .ok (.istore_n 3, 1) := by decide +kernel
theorem dX0_test_14 : decode cX0_test 14 = .ok (.iload_n 3, 1) := by decide +kernel
theorem dX0_test_15 : decode cX0_test 15 = .ok (.aload_n 0, 1) := by decide +kernel
theorem dX0_test_16 : decode cX0_test 16 = .ok (.getfield 9, 3) := by decide +kernel
theorem dX0_test_19 : decode cX0_test 19 = .ok (.if_icmp .ge 22, 3) := by decide +kernel
theorem dX0_test_22 : decode cX0_test 22 = .ok (.aload_n 0, 1) := by decide +kernel
theorem dX0_test_23 : decode cX0_test 23 = .ok (.getfield 21, 3) := by decide +kernel
theorem dX0_test_26 : decode cX0_test 26 = .ok (.iload_n 3, 1) := by decide +kernel
theorem dX0_test_27 : decode cX0_test 27 = .ok (.iaload, 1) := by decide +kernel
theorem dX0_test_28 : decode cX0_test 28 = .ok (.iload_n 1, 1) := by decide +kernel
theorem dX0_test_29 : decode cX0_test 29 = .ok (.if_icmp .ne 6, 3) := by decide +kernel
theorem dX0_test_32 : decode cX0_test 32 = .ok (.iinc 2 1, 3) := by decide +kernel
theorem dX0_test_35 : decode cX0_test 35 = .ok (.iinc 3 1, 3) := by decide +kernel
theorem dX0_test_38 : decode cX0_test 38 = .ok (.goto (-24), 3) := by decide +kernel
theorem dX0_test_41 : decode cX0_test 41 = .ok (.iload_n 2, 1) := by decide +kernel
theorem dX0_test_42 : decode cX0_test 42 = .ok (.ireturn, 1) := by decide +kernel
theorem dX0_choose_0 : decode cX0_choose 0 = .ok (.aload_n 0, 1) := by decide +kernel
theorem dX0_choose_1 : decode cX0_choose 1 = .ok (.getfield 33, 3) := by decide +kernel
theorem dX0_choose_4 : decode cX0_choose 4 = .ok (.iload_n 1, 1) := by decide +kernel
theorem dX0_choose_5 : decode cX0_choose 5 = .ok (.aaload, 1) := by decide +kernel
theorem dX0_choose_6 : decode cX0_choose 6 = .ok (.iload_n 2, 1) := by decide +kernel
theorem dX0_choose_7 : decode cX0_choose 7 = .ok (.dup2, 1) := by decide +kernel
theorem dX0_choose_8 : decode cX0_choose 8 = .ok (.iaload, 1) := by decide +kernel
theorem dX0_choose_9 : decode cX0_choose 9 = .ok (.iconst 1, 1) := by decide +kernel
theorem dX0_choose_10 : decode cX0_choose 10 = .ok (.iadd, 1) := by decide +kernel
theorem dX0_choose_11 : decode cX0_choose 11 = .ok (.iastore, 1) := by decide +kernel
theorem dX0_choose_12 : decode cX0_choose 12 = .ok (.iconst 0, 1) := by decide +kernel
theorem dX0_choose_13 : decode cX0_choose 13 = .ok (.istore_n 3, 1) := by decide +kernel
theorem dX0_choose_14 : decode cX0_choose 14 = .ok (.iconst 0, 1) := by decide +kernel
theorem dX0_choose_15 : decode cX0_choose 15 = .ok (.istore 4, 2) := by decide +kernel
theorem dX0_choose_17 : decode cX0_choose 17 = .ok (.iload 4, 2) := by decide +kernel
theorem dX0_choose_19 : decode cX0_choose 19 = .ok (.aload_n 0, 1) := by decide +kernel
theorem dX0_choose_20 : decode cX0_choose 20 = .ok (.getfield 9, 3) := by decide +kernel
theorem dX0_choose_23 : decode cX0_choose 23 = .ok (.if_icmp .ge 34, 3) := by decide +kernel
theorem dX0_choose_26 : decode cX0_choose 26 = .ok (.aload_n 0, 1) := by decide +kernel
theorem dX0_choose_27 : decode cX0_choose 27 = .ok (.getfield 21, 3) := by decide +kernel
theorem dX0_choose_30 : decode cX0_choose 30 = .ok (.iload 4, 2) := by decide +kernel
theorem dX0_choose_32 : decode cX0_choose 32 = .ok (.iaload, 1) := by decide +kernel
theorem dX0_choose_33 : decode cX0_choose 33 = .ok (.iload_n 1, 1) := by decide +kernel
theorem dX0_choose_34 : decode cX0_choose 34 = .ok (.if_icmp .eq 17, 3) := by decide +kernel
theorem dX0_choose_37 : decode cX0_choose 37 = .ok (.aload_n 0, 1) := by decide +kernel
theorem dX0_choose_38 : decode cX0_choose 38 = .ok (.getfield 25, 3) := by decide +kernel
theorem dX0_choose_41 : decode cX0_choose 41 = .ok (.iload 4, 2) := by decide +kernel
theorem dX0_choose_43 : decode cX0_choose 43 = .ok (.iaload, 1) := by decide +kernel
theorem dX0_choose_44 : decode cX0_choose 44 = .ok (.iload_n 2, 1) := by decide +kernel
theorem dX0_choose_45 : decode cX0_choose 45 = .ok (.if_icmp .ne 6, 3) := by decide +kernel
theorem dX0_choose_48 : decode cX0_choose 48 = .ok (.iinc 3 1, 3) := by decide +kernel
theorem dX0_choose_51 : decode cX0_choose 51 = .ok (.iinc 4 1, 3) := by decide +kernel
theorem dX0_choose_54 : decode cX0_choose 54 = .ok (.goto (-37), 3) := by decide +kernel
theorem dX0_choose_57 : decode cX0_choose 57 = .ok (.iload_n 3, 1) := by decide +kernel
theorem dX0_choose_58 : decode cX0_choose 58 = .ok (.ireturn, 1) := by decide +kernel
theorem dX0_trained_0 : decode cX0_trained 0 = .ok (.aload_n 0, 1) := by decide +kernel
theorem dX0_trained_1 : decode cX0_trained 1 = .ok (.getfield 21, 3) := by decide +kernel
theorem dX0_trained_4 : decode cX0_trained 4 = .ok (.iload_n 1, 1) := by decide +kernel
theorem dX0_trained_5 : decode cX0_trained 5 = .ok (.iaload, 1) := by decide +kernel
theorem dX0_trained_6 : decode cX0_trained 6 = .ok (.iload_n 2, 1) := by decide +kernel
theorem dX0_trained_7 : decode cX0_trained 7 = .ok (.if_icmp .ne 5, 3) := by decide +kernel
theorem dX0_trained_10 : decode cX0_trained 10 = .ok (.iconst 0, 1) := by decide +kernel
theorem dX0_trained_11 : decode cX0_trained 11 = .ok (.ireturn, 1) := by decide +kernel
theorem dX0_trained_12 : decode cX0_trained 12 = .ok (.aload_n 0, 1) := by decide +kernel
theorem dX0_trained_13 : decode cX0_trained 13 = .ok (.getfield 28, 3) := by decide +kernel
theorem dX0_trained_16 : decode cX0_trained 16 = .ok (.iload_n 2, 1) := by decide +kernel
theorem dX0_trained_17 : decode cX0_trained 17 = .ok (.iaload, 1) := by decide +kernel
theorem dX0_trained_18 : decode cX0_trained 18 = .ok (.istore_n 3, 1) := by decide +kernel
theorem dX0_trained_19 : decode cX0_trained 19 = .ok (.iconst 0, 1) := by decide +kernel
theorem dX0_trained_20 : decode cX0_trained 20 = .ok (.istore 4, 2) := by decide +kernel
theorem dX0_trained_22 : decode cX0_trained 22 = .ok (.iload 4, 2) := by decide +kernel
theorem dX0_trained_24 : decode cX0_trained 24 = .ok (.aload_n 0, 1) := by decide +kernel
theorem dX0_trained_25 : decode cX0_trained 25 = .ok (.getfield 18, 3) := by decide +kernel
theorem dX0_trained_28 : decode cX0_trained 28 = .ok (.if_icmp .ge 32, 3) := by decide +kernel
theorem dX0_trained_31 : decode cX0_trained 31 = .ok (.iload 4, 2) := by decide +kernel
theorem dX0_trained_33 : decode cX0_trained 33 = .ok (.aload_n 0, 1) := by decide +kernel
theorem dX0_trained_34 : decode cX0_trained 34 = .ok (.getfield 25, 3) := by decide +kernel
theorem dX0_trained_37 : decode cX0_trained 37 = .ok (.iload_n 1, 1) := by decide +kernel
theorem dX0_trained_38 : decode cX0_trained 38 = .ok (.iaload, 1) := by decide +kernel
theorem dX0_trained_39 : decode cX0_trained 39 = .ok (.if_icmp .eq 15, 3) := by decide +kernel
theorem dX0_trained_42 : decode cX0_trained 42 = .ok (.iload_n 3, 1) := by decide +kernel
theorem dX0_trained_43 : decode cX0_trained 43 = .ok (.aload_n 0, 1) := by decide +kernel
theorem dX0_trained_44 : decode cX0_trained 44 = .ok (.getfield 33, 3) := by decide +kernel
theorem dX0_trained_47 : decode cX0_trained 47 = .ok (.iload_n 2, 1) := by decide +kernel
theorem dX0_trained_48 : decode cX0_trained 48 = .ok (.aaload, 1) := by decide +kernel
theorem dX0_trained_49 : decode cX0_trained 49 = .ok (.iload 4, 2) := by decide +kernel
theorem dX0_trained_51 : decode cX0_trained 51 = .ok (.iaload, 1) := by decide +kernel
theorem dX0_trained_52 : decode cX0_trained 52 = .ok (.iadd, 1) := by decide +kernel
theorem dX0_trained_53 : decode cX0_trained 53 = .ok (.istore_n 3, 1) := by decide +kernel
theorem dX0_trained_54 : decode cX0_trained 54 = .ok (.iinc 4 1, 3) := by decide +kernel
theorem dX0_trained_57 : decode cX0_trained 57 = .ok (.goto (-35), 3) := by decide +kernel
theorem dX0_trained_60 : decode cX0_trained 60 = .ok (.iload_n 3, 1) := by decide +kernel
theorem dX0_trained_61 : decode cX0_trained 61 = .ok (.ireturn, 1) := by decide +kernel
theorem dX0_validated_0 : decode cX0_validated 0 = .ok (.aload_n 0, 1) := by decide +kernel
theorem dX0_validated_1 : decode cX0_validated 1 = .ok (.getfield 21, 3) := by decide +kernel
theorem dX0_validated_4 : decode cX0_validated 4 = .ok (.iload_n 1, 1) := by decide +kernel
theorem dX0_validated_5 : decode cX0_validated 5 = .ok (.iaload, 1) := by decide +kernel
theorem dX0_validated_6 : decode cX0_validated 6 = .ok (.iload_n 2, 1) := by decide +kernel
theorem dX0_validated_7 : decode cX0_validated 7 = .ok (.if_icmp .ne 7, 3) := by decide +kernel
theorem dX0_validated_10 : decode cX0_validated 10 = .ok (.iconst 0, 1) := by decide +kernel
theorem dX0_validated_11 : decode cX0_validated 11 = .ok (.goto 16, 3) := by decide +kernel
theorem dX0_validated_14 : decode cX0_validated 14 = .ok (.aload_n 0, 1) := by decide +kernel
theorem dX0_validated_15 : decode cX0_validated 15 = .ok (.getfield 33, 3) := by decide +kernel
theorem dX0_validated_18 : decode cX0_validated 18 = .ok (.iload_n 2, 1) := by decide +kernel
theorem dX0_validated_19 : decode cX0_validated 19 = .ok (.aaload, 1) := by decide +kernel
theorem dX0_validated_20 : decode cX0_validated 20 = .ok (.aload_n 0, 1) := by decide +kernel
theorem dX0_validated_21 : decode cX0_validated 21 = .ok (.getfield 25, 3) := by decide +kernel
theorem dX0_validated_24 : decode cX0_validated 24 = .ok (.iload_n 1, 1) := by decide +kernel
theorem dX0_validated_25 : decode cX0_validated 25 = .ok (.iaload, 1) := by decide +kernel
theorem dX0_validated_26 : decode cX0_validated 26 = .ok (.iaload, 1) := by decide +kernel
theorem dX0_validated_27 : decode cX0_validated 27 = .ok (.ireturn, 1) := by decide +kernel
theorem dX0_testing_0 : decode cX0_testing 0 = .ok (.aload_n 0, 1) := by decide +kernel
theorem dX0_testing_1 : decode cX0_testing 1 = .ok (.getfield 21, 3) := by decide +kernel
theorem dX0_testing_4 : decode cX0_testing 4 = .ok (.iload_n 1, 1) := by decide +kernel
theorem dX0_testing_5 : decode cX0_testing 5 = .ok (.iaload, 1) := by decide +kernel
theorem dX0_testing_6 : decode cX0_testing 6 = .ok (.iload_n 2, 1) := by decide +kernel
theorem dX0_testing_7 : decode cX0_testing 7 = .ok (.if_icmp .ne 12, 3) := by decide +kernel
theorem dX0_testing_10 : decode cX0_testing 10 = .ok (.aload_n 0, 1) := by decide +kernel
theorem dX0_testing_11 : decode cX0_testing 11 = .ok (.getfield 28, 3) := by decide +kernel
theorem dX0_testing_14 : decode cX0_testing 14 = .ok (.iload_n 2, 1) := by decide +kernel
theorem dX0_testing_15 : decode cX0_testing 15 = .ok (.iaload, 1) := by decide +kernel
theorem dX0_testing_16 : decode cX0_testing 16 = .ok (.goto 4, 3) := by decide +kernel
theorem dX0_testing_19 : decode cX0_testing 19 = .ok (.iconst 0, 1) := by decide +kernel
theorem dX0_testing_20 : decode cX0_testing 20 = .ok (.ireturn, 1) := by decide +kernel
theorem dX1_init_0 : decode cX1_init 0 = .ok (.aload_n 0, 1) := by decide +kernel
theorem dX1_init_1 : decode cX1_init 1 = .ok (.invokespecial 3, 3) := by decide +kernel
theorem dX1_init_4 : decode cX1_init 4 = .ok (.aload_n 0, 1) := by decide +kernel
theorem dX1_init_5 : decode cX1_init 5 = .ok (.iconst 0, 1) := by decide +kernel
theorem dX1_init_6 : decode cX1_init 6 = .ok (.putfield 9, 3) := by decide +kernel
theorem dX1_init_9 : decode cX1_init 9 = .ok (.aload_n 0, 1) := by decide +kernel
theorem dX1_init_10 : decode cX1_init 10 = .ok (.lconst 0, 1) := by decide +kernel
theorem dX1_init_11 : decode cX1_init 11 = .ok (.putfield 15, 3) := by decide +kernel
theorem dX1_init_14 : decode cX1_init 14 = .ok (.aload_n 0, 1) := by decide +kernel
theorem dX1_init_15 : decode cX1_init 15 = .ok (.bipush 60, 2) := by decide +kernel
theorem dX1_init_17 : decode cX1_init 17 = .ok (.newarray .int, 2) := by decide +kernel
theorem dX1_init_19 : decode cX1_init 19 = .ok (.putfield 19, 3) := by decide +kernel
theorem dX1_init_22 : decode cX1_init 22 = .ok (.aload_n 0, 1) := by decide +kernel
theorem dX1_init_23 : decode cX1_init 23 = .ok (.bipush 60, 2) := by decide +kernel
theorem dX1_init_25 : decode cX1_init 25 = .ok (.newarray .int, 2) := by decide +kernel
theorem dX1_init_27 : decode cX1_init 27 = .ok (.putfield 23, 3) := by decide +kernel
theorem dX1_init_30 : decode cX1_init 30 = .ok (.return_, 1) := by decide +kernel
theorem dX1_start_0 : decode cX1_start 0 = .ok (.aload_n 0, 1) := by decide +kernel
theorem dX1_start_1 : decode cX1_start 1 = .ok (.iconst 1, 1) := by decide +kernel
theorem dX1_start_2 : decode cX1_start 2 = .ok (.putfield 9, 3) := by decide +kernel
theorem dX1_start_5 : decode cX1_start 5 = .ok (.aload_n 0, 1) := by decide +kernel
theorem dX1_start_6 : decode cX1_start 6 = .ok (.iconst 0, 1) := by decide +kernel
theorem dX1_start_7 : decode cX1_start 7 = .ok (.putfield 26, 3) := by decide +kernel
theorem dX1_start_10 : decode cX1_start 10 = .ok (.aload_n 0, 1) := by decide +kernel
theorem dX1_start_11 : decode cX1_start 11 = .ok (.lconst 0, 1) := by decide +kernel
theorem dX1_start_12 : decode cX1_start 12 = .ok (.putfield 15, 3) := by decide +kernel
theorem dX1_start_15 : decode cX1_start 15 = .ok (.aload_n 0, 1) := by decide +kernel
theorem dX1_start_16 : decode cX1_start 16 = .ok (.iconst 0, 1) := by decide +kernel
theorem dX1_start_17 : decode cX1_start 17 = .ok (.putfield 29, 3) := by decide +kernel
theorem dX1_start_20 : decode cX1_start 20 = .ok (.aload_n 0, 1) := by decide +kernel
theorem dX1_start_21 : decode cX1_start 21 = .ok (.iload_n 3, 1) := by decide +kernel
theorem dX1_start_22 : decode cX1_start 22 = .ok (.putfield 33, 3) := by decide +kernel
theorem dX1_start_25 : decode cX1_start 25 = .ok (.aload_n 0, 1) := by decide +kernel
theorem dX1_start_26 : decode cX1_start 26 = .ok (.iload 4, 2) := by decide +kernel
theorem dX1_start_28 : decode cX1_start 28 = .ok (.putfield 36, 3) := by decide +kernel
theorem dX1_start_31 : decode cX1_start 31 = .ok (.iconst 0, 1) := by decide +kernel
theorem dX1_start_32 : decode cX1_start 32 = .ok (.istore 5, 2) := by decide +kernel
theorem dX1_start_34 : decode cX1_start 34 = .ok (.iload 5, 2) := by decide +kernel
theorem dX1_start_36 : decode cX1_start 36 = .ok (.bipush 60, 2) := by decide +kernel
theorem dX1_start_38 : decode cX1_start 38 = .ok (.if_icmp .ge 43, 3) := by decide +kernel
theorem dX1_start_41 : decode cX1_start 41 = .ok (.aload_n 0, 1) := by decide +kernel
theorem dX1_start_42 : decode cX1_start 42 = .ok (.getfield 19, 3) := by decide +kernel
theorem dX1_start_45 : decode cX1_start 45 = .ok (.iload 5, 2) := by decide +kernel
theorem dX1_start_47 : decode cX1_start 47 = .ok (.iconst 0, 1) := by decide +kernel
theorem dX1_start_48 : decode cX1_start 48 = .ok (.iastore, 1) := by decide +kernel
theorem dX1_start_49 : decode cX1_start 49 = .ok (.aload_n 0, 1) := by decide +kernel
theorem dX1_start_50 : decode cX1_start 50 = .ok (.getfield 23, 3) := by decide +kernel
theorem dX1_start_53 : decode cX1_start 53 = .ok (.iload 5, 2) := by decide +kernel
theorem dX1_start_55 : decode cX1_start 55 = .ok (.iload_n 1, 1) := by decide +kernel
theorem dX1_start_56 : decode cX1_start 56 = .ok (.iload 5, 2) := by decide +kernel
theorem dX1_start_58 : decode cX1_start 58 = .ok (.if_icmp .gt 15, 3) := by decide +kernel
theorem dX1_start_61 : decode cX1_start 61 = .ok (.iload 5, 2) := by decide +kernel
theorem dX1_start_63 : decode cX1_start 63 = .ok (.iload_n 1, 1) := by decide +kernel
theorem dX1_start_64 : decode cX1_start 64 = .ok (.isub, 1) := by decide +kernel
theorem dX1_start_65 : decode cX1_start 65 = .ok (.iload_n 2, 1) := by decide +kernel
theorem dX1_start_66 : decode cX1_start 66 = .ok (.if_icmp .ge 7, 3) := by decide +kernel
theorem dX1_start_69 : decode cX1_start 69 = .ok (.iconst 1, 1) := by decide +kernel
theorem dX1_start_70 : decode cX1_start 70 = .ok (.goto 4, 3) := by decide +kernel
theorem dX1_start_73 : decode cX1_start 73 = .ok (.iconst 0, 1) := by decide +kernel
theorem dX1_start_74 : decode cX1_start 74 = .ok (.iastore, 1) := by decide +kernel
theorem dX1_start_75 : decode cX1_start 75 = .ok (.iinc 5 1, 3) := by decide +kernel
theorem dX1_start_78 : decode cX1_start 78 = .ok (.goto (-44), 3) := by decide +kernel
theorem dX1_start_81 : decode cX1_start 81 = .ok (.aload_n 0, 1) := by decide +kernel
theorem dX1_start_82 : decode cX1_start 82 = .ok (.iload_n 2, 1) := by decide +kernel
theorem dX1_start_83 : decode cX1_start 83 = .ok (.putfield 39, 3) := by decide +kernel
theorem dX1_start_86 : decode cX1_start 86 = .ok (.aload_n 0, 1) := by decide +kernel
theorem dX1_start_87 : decode cX1_start 87 = .ok (.iload_n 2, 1) := by decide +kernel
theorem dX1_start_88 : decode cX1_start 88 = .ok (.putfield 42, 3) := by decide +kernel
theorem dX1_start_91 : decode cX1_start 91 = .ok (.return_, 1) := by decide +kernel
theorem dX1_isIn_0 : decode cX1_isIn 0 = .ok (.aload_n 0, 1) := by decide +kernel
theorem dX1_isIn_1 : decode cX1_isIn 1 = .ok (.getfield 23, 3) := by decide +kernel
theorem dX1_isIn_4 : decode cX1_isIn 4 = .ok (.iload_n 1, 1) := by decide +kernel
theorem dX1_isIn_5 : decode cX1_isIn 5 = .ok (.iaload, 1) := by decide +kernel
theorem dX1_isIn_6 : decode cX1_isIn 6 = .ok (.ifCond .eq 7, 3) := by decide +kernel
theorem dX1_isIn_9 : decode cX1_isIn 9 = .ok (.iconst 1, 1) := by decide +kernel
theorem dX1_isIn_10 : decode cX1_isIn 10 = .ok (.goto 4, 3) := by decide +kernel
theorem dX1_isIn_13 : decode cX1_isIn 13 = .ok (.iconst 0, 1) := by decide +kernel
theorem dX1_isIn_14 : decode cX1_isIn 14 = .ok (.ireturn, 1) := by decide +kernel
theorem dX1_isWaiting_0 : decode cX1_isWaiting 0 = .ok (.aload_n 0, 1) := by decide +kernel
theorem dX1_isWaiting_1 : decode cX1_isWaiting 1 = .ok (.getfield 23, 3) := by decide +kernel
theorem dX1_isWaiting_4 : decode cX1_isWaiting 4 = .ok (.iload_n 1, 1) := by decide +kernel
theorem dX1_isWaiting_5 : decode cX1_isWaiting 5 = .ok (.iaload, 1) := by decide +kernel
theorem dX1_isWaiting_6 : decode cX1_isWaiting 6 = .ok (.iconst 1, 1) := by decide +kernel
theorem dX1_isWaiting_7 : decode cX1_isWaiting 7 = .ok (.if_icmp .ne 7, 3) := by decide +kernel
theorem dX1_isWaiting_10 : decode cX1_isWaiting 10 = .ok (.iconst 1, 1) := by decide +kernel
theorem dX1_isWaiting_11 : decode cX1_isWaiting 11 = .ok (.goto 4, 3) := by decide +kernel
theorem dX1_isWaiting_14 : decode cX1_isWaiting 14 = .ok (.iconst 0, 1) := by decide +kernel
theorem dX1_isWaiting_15 : decode cX1_isWaiting 15 = .ok (.ireturn, 1) := by decide +kernel
theorem dX1_mark_0 : decode cX1_mark 0 = .ok (.aload_n 0, 1) := by decide +kernel
theorem dX1_mark_1 : decode cX1_mark 1 = .ok (.getfield 23, 3) := by decide +kernel
theorem dX1_mark_4 : decode cX1_mark 4 = .ok (.iload_n 1, 1) := by decide +kernel
theorem dX1_mark_5 : decode cX1_mark 5 = .ok (.iload_n 3, 1) := by decide +kernel
theorem dX1_mark_6 : decode cX1_mark 6 = .ok (.ifCond .eq 7, 3) := by decide +kernel
theorem dX1_mark_9 : decode cX1_mark 9 = .ok (.iconst 2, 1) := by decide +kernel
theorem dX1_mark_10 : decode cX1_mark 10 = .ok (.goto 4, 3) := by decide +kernel
theorem dX1_mark_13 : decode cX1_mark 13 = .ok (.iconst 3, 1) := by decide +kernel
theorem dX1_mark_14 : decode cX1_mark 14 = .ok (.iastore, 1) := by decide +kernel
theorem dX1_mark_15 : decode cX1_mark 15 = .ok (.aload_n 0, 1) := by decide +kernel
theorem dX1_mark_16 : decode cX1_mark 16 = .ok (.getfield 19, 3) := by decide +kernel
theorem dX1_mark_19 : decode cX1_mark 19 = .ok (.iload_n 1, 1) := by decide +kernel
theorem dX1_mark_20 : decode cX1_mark 20 = .ok (.iload_n 3, 1) := by decide +kernel
theorem dX1_mark_21 : decode cX1_mark 21 = .ok (.ifCond .eq 7, 3) := by decide +kernel
theorem dX1_mark_24 : decode cX1_mark 24 = .ok (.iload_n 2, 1) := by decide +kernel
theorem dX1_mark_25 : decode cX1_mark 25 = .ok (.goto 4, 3) := by decide +kernel
theorem dX1_mark_28 : decode cX1_mark 28 = .ok (.iconst 0, 1) := by decide +kernel
theorem dX1_mark_29 : decode cX1_mark 29 = .ok (.iastore, 1) := by decide +kernel
theorem dX1_mark_30 : decode cX1_mark 30 = .ok (.aload_n 0, 1) := by decide +kernel
theorem dX1_mark_31 : decode cX1_mark 31 = .ok (.dup, 1) := by decide +kernel
theorem dX1_mark_32 : decode cX1_mark 32 = .ok (.getfield 15, 3) := by decide +kernel
theorem dX1_mark_35 : decode cX1_mark 35 = .ok (.aload_n 0, 1) := by decide +kernel
theorem dX1_mark_36 : decode cX1_mark 36 = .ok (.getfield 33, 3) := by decide +kernel
theorem dX1_mark_39 : decode cX1_mark 39 = .ok (.i2l, 1) := by decide +kernel
theorem dX1_mark_40 : decode cX1_mark 40 = .ok (.ladd, 1) := by decide +kernel
theorem dX1_mark_41 : decode cX1_mark 41 = .ok (.putfield 15, 3) := by decide +kernel
theorem dX1_mark_44 : decode cX1_mark 44 = .ok (.aload_n 0, 1) := by decide +kernel
theorem dX1_mark_45 : decode cX1_mark 45 = .ok (.dup, 1) := by decide +kernel
theorem dX1_mark_46 : decode cX1_mark 46 = .ok (.getfield 42, 3) := by decide +kernel
theorem dX1_mark_49 : decode cX1_mark 49 = .ok (.iconst 1, 1) := by decide +kernel
theorem dX1_mark_50 : decode cX1_mark 50 = .ok (.isub, 1) := by decide +kernel
theorem dX1_mark_51 : decode cX1_mark 51 = .ok (.putfield 42, 3) := by decide +kernel
theorem dX1_mark_54 : decode cX1_mark 54 = .ok (.aload_n 0, 1) := by decide +kernel
theorem dX1_mark_55 : decode cX1_mark 55 = .ok (.getfield 42, 3) := by decide +kernel
theorem dX1_mark_58 : decode cX1_mark 58 = .ok (.ireturn, 1) := by decide +kernel
theorem dX1_canEnd_0 : decode cX1_canEnd 0 = .ok (.aload_n 0, 1) := by decide +kernel
theorem dX1_canEnd_1 : decode cX1_canEnd 1 = .ok (.getfield 9, 3) := by decide +kernel
theorem dX1_canEnd_4 : decode cX1_canEnd 4 = .ok (.ifCond .eq 21, 3) := by decide +kernel
theorem dX1_canEnd_7 : decode cX1_canEnd 7 = .ok (.aload_n 0, 1) := by decide +kernel
theorem dX1_canEnd_8 : decode cX1_canEnd 8 = .ok (.getfield 26, 3) := by decide +kernel
theorem dX1_canEnd_11 : decode cX1_canEnd 11 = .ok (.ifCond .ne 14, 3) := by decide +kernel
theorem dX1_canEnd_14 : decode cX1_canEnd 14 = .ok (.aload_n 0, 1) := by decide +kernel
theorem dX1_canEnd_15 : decode cX1_canEnd 15 = .ok (.getfield 42, 3) := by decide +kernel
theorem dX1_canEnd_18 : decode cX1_canEnd 18 = .ok (.ifCond .ne 7, 3) := by decide +kernel
theorem dX1_canEnd_21 : decode cX1_canEnd 21 = .ok (.iconst 1, 1) := by decide +kernel
theorem dX1_canEnd_22 : decode cX1_canEnd 22 = .ok (.goto 4, 3) := by decide +kernel
theorem dX1_canEnd_25 : decode cX1_canEnd 25 = .ok (.iconst 0, 1) := by decide +kernel
theorem dX1_canEnd_26 : decode cX1_canEnd 26 = .ok (.ireturn, 1) := by decide +kernel
set_option maxRecDepth 20000 in
theorem ggX1_end_X5_cut : GoodIn wsX1_end wsX5_cut := goodIn_r _ [17] (by decide +kernel) (by decide +kernel)
set_option maxRecDepth 20000 in
theorem gX1_end_X5_cut_n45 : GoodIn wsX1_end (wsX5_cut) := ggX1_end_X5_cut
set_option maxRecDepth 20000 in
theorem ggX1_end_X1_keepGreatest : GoodIn wsX1_end wsX1_keepGreatest := goodIn_r _ [22, 23, 24, 29, 30, 31, 32, 33, 34, 35, 36, 37, 38] (by decide +kernel) (by decide +kernel)
set_option maxRecDepth 20000 in
theorem gX1_end_X1_keepGreatest : GoodIn wsX1_end (wsV RX1 54 RX1 yX1_keepGreatest wsX1_keepGreatest) := goodIn_app (goodIn_of _ (by decide +kernel)) ggX1_end_X1_keepGreatest
set_option maxRecDepth 20000 in
theorem ggX1_end_X1_openRound : GoodIn wsX1_end wsX1_openRound := goodIn_r _ [28, 23, 24, 29, 30, 31, 32, 33, 34, 35, 36, 37, 38] (by decide +kernel) (by decide +kernel)
set_option maxRecDepth 20000 in
theorem gX1_end_X1_openRound : GoodIn wsX1_end (wsV RX1 58 RX1 yX1_openRound wsX1_openRound) := goodIn_app (goodIn_of _ (by decide +kernel)) ggX1_end_X1_openRound
theorem dX1_end_0 : decode cX1_end 0 = .ok (.lconst 1, 1) := by decide +kernel
theorem dX1_end_1 : decode cX1_end 1 = .ok (.aload_n 0, 1) := by decide +kernel
theorem dX1_end_2 : decode cX1_end 2 = .ok (.getfield 39, 3) := by decide +kernel
theorem dX1_end_5 : decode cX1_end 5 = .ok (.i2l, 1) := by decide +kernel
theorem dX1_end_6 : decode cX1_end 6 = .ok (.aload_n 0, 1) := by decide +kernel
theorem dX1_end_7 : decode cX1_end 7 = .ok (.getfield 36, 3) := by decide +kernel
theorem dX1_end_10 : decode cX1_end 10 = .ok (.i2l, 1) := by decide +kernel
theorem dX1_end_11 : decode cX1_end 11 = .ok (.invokestatic 45, 3) := by decide +kernel
theorem dX1_end_14 : decode cX1_end 14 = .ok (.invokestatic 49, 3) := by decide +kernel
theorem dX1_end_17 : decode cX1_end 17 = .ok (.lstore_n 1, 1) := by decide +kernel
theorem dX1_end_18 : decode cX1_end 18 = .ok (.iconst 0, 1) := by decide +kernel
theorem dX1_end_19 : decode cX1_end 19 = .ok (.istore_n 3, 1) := by decide +kernel
theorem dX1_end_20 : decode cX1_end 20 = .ok (.iload_n 3, 1) := by decide +kernel
theorem dX1_end_21 : decode cX1_end 21 = .ok (.i2l, 1) := by decide +kernel
theorem dX1_end_22 : decode cX1_end 22 = .ok (.lload_n 1, 1) := by decide +kernel
theorem dX1_end_23 : decode cX1_end 23 = .ok (.lcmp, 1) := by decide +kernel
theorem dX1_end_24 : decode cX1_end 24 = .ok (.ifCond .ge 16, 3) := by decide +kernel
theorem dX1_end_27 : decode cX1_end 27 = .ok (.aload_n 0, 1) := by decide +kernel
theorem dX1_end_28 : decode cX1_end 28 = .ok (.invokevirtual 54, 3) := by decide +kernel
theorem dX1_end_31 : decode cX1_end 31 = .ok (.ifCond .eq 9, 3) := by decide +kernel
theorem dX1_end_34 : decode cX1_end 34 = .ok (.iinc 3 1, 3) := by decide +kernel
theorem dX1_end_37 : decode cX1_end 37 = .ok (.goto (-17), 3) := by decide +kernel
theorem dX1_end_40 : decode cX1_end 40 = .ok (.aload_n 0, 1) := by decide +kernel
theorem dX1_end_41 : decode cX1_end 41 = .ok (.invokevirtual 58, 3) := by decide +kernel
theorem dX1_end_44 : decode cX1_end 44 = .ok (.aload_n 0, 1) := by decide +kernel
theorem dX1_end_45 : decode cX1_end 45 = .ok (.iload_n 3, 1) := by decide +kernel
theorem dX1_end_46 : decode cX1_end 46 = .ok (.putfield 39, 3) := by decide +kernel
theorem dX1_end_49 : decode cX1_end 49 = .ok (.aload_n 0, 1) := by decide +kernel
theorem dX1_end_50 : decode cX1_end 50 = .ok (.iload_n 3, 1) := by decide +kernel
theorem dX1_end_51 : decode cX1_end 51 = .ok (.putfield 42, 3) := by decide +kernel
theorem dX1_end_54 : decode cX1_end 54 = .ok (.aload_n 0, 1) := by decide +kernel
theorem dX1_end_55 : decode cX1_end 55 = .ok (.dup, 1) := by decide +kernel
theorem dX1_end_56 : decode cX1_end 56 = .ok (.getfield 29, 3) := by decide +kernel
theorem dX1_end_59 : decode cX1_end 59 = .ok (.iconst 1, 1) := by decide +kernel
theorem dX1_end_60 : decode cX1_end 60 = .ok (.iadd, 1) := by decide +kernel
theorem dX1_end_61 : decode cX1_end 61 = .ok (.putfield 29, 3) := by decide +kernel
theorem dX1_end_64 : decode cX1_end 64 = .ok (.aload_n 0, 1) := by decide +kernel
theorem dX1_end_65 : decode cX1_end 65 = .ok (.aload_n 0, 1) := by decide +kernel
theorem dX1_end_66 : decode cX1_end 66 = .ok (.getfield 33, 3) := by decide +kernel
theorem dX1_end_69 : decode cX1_end 69 = .ok (.i2l, 1) := by decide +kernel
theorem dX1_end_70 : decode cX1_end 70 = .ok (.aload_n 0, 1) := by decide +kernel
theorem dX1_end_71 : decode cX1_end 71 = .ok (.getfield 36, 3) := by decide +kernel
theorem dX1_end_74 : decode cX1_end 74 = .ok (.i2l, 1) := by decide +kernel
theorem dX1_end_75 : decode cX1_end 75 = .ok (.lmul, 1) := by decide +kernel
theorem dX1_end_76 : decode cX1_end 76 = .ok (.ldc2_w 61, 3) := by decide +kernel
theorem dX1_end_79 : decode cX1_end 79 = .ok (.invokestatic 63, 3) := by decide +kernel
theorem dX1_end_82 : decode cX1_end 82 = .ok (.l2i, 1) := by decide +kernel
theorem dX1_end_83 : decode cX1_end 83 = .ok (.putfield 33, 3) := by decide +kernel
theorem dX1_end_86 : decode cX1_end 86 = .ok (.aload_n 0, 1) := by decide +kernel
theorem dX1_end_87 : decode cX1_end 87 = .ok (.aload_n 0, 1) := by decide +kernel
theorem dX1_end_88 : decode cX1_end 88 = .ok (.getfield 39, 3) := by decide +kernel
theorem dX1_end_91 : decode cX1_end 91 = .ok (.iconst 1, 1) := by decide +kernel
theorem dX1_end_92 : decode cX1_end 92 = .ok (.if_icmp .gt 7, 3) := by decide +kernel
theorem dX1_end_95 : decode cX1_end 95 = .ok (.iconst 1, 1) := by decide +kernel
theorem dX1_end_96 : decode cX1_end 96 = .ok (.goto 4, 3) := by decide +kernel
theorem dX1_end_99 : decode cX1_end 99 = .ok (.iconst 0, 1) := by decide +kernel
theorem dX1_end_100 : decode cX1_end 100 = .ok (.putfield 26, 3) := by decide +kernel
theorem dX1_end_103 : decode cX1_end 103 = .ok (.aload_n 0, 1) := by decide +kernel
theorem dX1_end_104 : decode cX1_end 104 = .ok (.getfield 39, 3) := by decide +kernel
theorem dX1_end_107 : decode cX1_end 107 = .ok (.ireturn, 1) := by decide +kernel
theorem dX1_keepGreatest_0 : decode cX1_keepGreatest 0 = .ok (.bipush (-2), 2) := by decide +kernel
theorem dX1_keepGreatest_2 : decode cX1_keepGreatest 2 = .ok (.istore_n 1, 1) := by decide +kernel
theorem dX1_keepGreatest_3 : decode cX1_keepGreatest 3 = .ok (.iconst 0, 1) := by decide +kernel
theorem dX1_keepGreatest_4 : decode cX1_keepGreatest 4 = .ok (.istore_n 2, 1) := by decide +kernel
theorem dX1_keepGreatest_5 : decode cX1_keepGreatest 5 = .ok (.iload_n 2, 1) := by decide +kernel
theorem dX1_keepGreatest_6 : decode cX1_keepGreatest 6 = .ok (.bipush 60, 2) := by decide +kernel
theorem dX1_keepGreatest_8 : decode cX1_keepGreatest 8 = .ok (.if_icmp .ge 40, 3) := by decide +kernel
theorem dX1_keepGreatest_11 : decode cX1_keepGreatest 11 = .ok (.aload_n 0, 1) := by decide +kernel
theorem dX1_keepGreatest_12 : decode cX1_keepGreatest 12 = .ok (.getfield 23, 3) := by decide +kernel
theorem dX1_keepGreatest_15 : decode cX1_keepGreatest 15 = .ok (.iload_n 2, 1) := by decide +kernel
theorem dX1_keepGreatest_16 : decode cX1_keepGreatest 16 = .ok (.iaload, 1) := by decide +kernel
theorem dX1_keepGreatest_17 : decode cX1_keepGreatest 17 = .ok (.iconst 2, 1) := by decide +kernel
theorem dX1_keepGreatest_18 : decode cX1_keepGreatest 18 = .ok (.if_icmp .ne 24, 3) := by decide +kernel
theorem dX1_keepGreatest_21 : decode cX1_keepGreatest 21 = .ok (.iload_n 1, 1) := by decide +kernel
theorem dX1_keepGreatest_22 : decode cX1_keepGreatest 22 = .ok (.ifCond .lt 18, 3) := by decide +kernel
theorem dX1_keepGreatest_25 : decode cX1_keepGreatest 25 = .ok (.aload_n 0, 1) := by decide +kernel
theorem dX1_keepGreatest_26 : decode cX1_keepGreatest 26 = .ok (.getfield 19, 3) := by decide +kernel
theorem dX1_keepGreatest_29 : decode cX1_keepGreatest 29 = .ok (.iload_n 2, 1) := by decide +kernel
theorem dX1_keepGreatest_30 : decode cX1_keepGreatest 30 = .ok (.iaload, 1) := by decide +kernel
theorem dX1_keepGreatest_31 : decode cX1_keepGreatest 31 = .ok (.aload_n 0, 1) := by decide +kernel
theorem dX1_keepGreatest_32 : decode cX1_keepGreatest 32 = .ok (.getfield 19, 3) := by decide +kernel
theorem dX1_keepGreatest_35 : decode cX1_keepGreatest 35 = .ok (.iload_n 1, 1) := by decide +kernel
theorem dX1_keepGreatest_36 : decode cX1_keepGreatest 36 = .ok (.iaload, 1) := by decide +kernel
theorem dX1_keepGreatest_37 : decode cX1_keepGreatest 37 = .ok (.if_icmp .le 5, 3) := by decide +kernel
theorem dX1_keepGreatest_40 : decode cX1_keepGreatest 40 = .ok (.iload_n 2, 1) := by decide +kernel
theorem dX1_keepGreatest_41 : decode cX1_keepGreatest 41 = .ok (.istore_n 1, 1) := by decide +kernel
theorem dX1_keepGreatest_42 : decode cX1_keepGreatest 42 = .ok (.iinc 2 1, 3) := by decide +kernel
theorem dX1_keepGreatest_45 : decode cX1_keepGreatest 45 = .ok (.goto (-40), 3) := by decide +kernel
theorem dX1_keepGreatest_48 : decode cX1_keepGreatest 48 = .ok (.iload_n 1, 1) := by decide +kernel
theorem dX1_keepGreatest_49 : decode cX1_keepGreatest 49 = .ok (.ifCond .ge 5, 3) := by decide +kernel
theorem dX1_keepGreatest_52 : decode cX1_keepGreatest 52 = .ok (.iconst 0, 1) := by decide +kernel
theorem dX1_keepGreatest_53 : decode cX1_keepGreatest 53 = .ok (.ireturn, 1) := by decide +kernel
theorem dX1_keepGreatest_54 : decode cX1_keepGreatest 54 = .ok (.aload_n 0, 1) := by decide +kernel
theorem dX1_keepGreatest_55 : decode cX1_keepGreatest 55 = .ok (.getfield 23, 3) := by decide +kernel
theorem dX1_keepGreatest_58 : decode cX1_keepGreatest 58 = .ok (.iload_n 1, 1) := by decide +kernel
theorem dX1_keepGreatest_59 : decode cX1_keepGreatest 59 = .ok (.iconst 4, 1) := by decide +kernel
theorem dX1_keepGreatest_60 : decode cX1_keepGreatest 60 = .ok (.iastore, 1) := by decide +kernel
theorem dX1_keepGreatest_61 : decode cX1_keepGreatest 61 = .ok (.iconst 1, 1) := by decide +kernel
theorem dX1_keepGreatest_62 : decode cX1_keepGreatest 62 = .ok (.ireturn, 1) := by decide +kernel
theorem dX1_openRound_0 : decode cX1_openRound 0 = .ok (.iconst 0, 1) := by decide +kernel
theorem dX1_openRound_1 : decode cX1_openRound 1 = .ok (.istore_n 1, 1) := by decide +kernel
theorem dX1_openRound_2 : decode cX1_openRound 2 = .ok (.iload_n 1, 1) := by decide +kernel
theorem dX1_openRound_3 : decode cX1_openRound 3 = .ok (.bipush 60, 2) := by decide +kernel
theorem dX1_openRound_5 : decode cX1_openRound 5 = .ok (.if_icmp .ge 37, 3) := by decide +kernel
theorem dX1_openRound_8 : decode cX1_openRound 8 = .ok (.aload_n 0, 1) := by decide +kernel
theorem dX1_openRound_9 : decode cX1_openRound 9 = .ok (.getfield 23, 3) := by decide +kernel
theorem dX1_openRound_12 : decode cX1_openRound 12 = .ok (.iload_n 1, 1) := by decide +kernel
theorem dX1_openRound_13 : decode cX1_openRound 13 = .ok (.aload_n 0, 1) := by decide +kernel
theorem dX1_openRound_14 : decode cX1_openRound 14 = .ok (.getfield 23, 3) := by decide +kernel
theorem dX1_openRound_17 : decode cX1_openRound 17 = .ok (.iload_n 1, 1) := by decide +kernel
theorem dX1_openRound_18 : decode cX1_openRound 18 = .ok (.iaload, 1) := by decide +kernel
theorem dX1_openRound_19 : decode cX1_openRound 19 = .ok (.iconst 4, 1) := by decide +kernel
theorem dX1_openRound_20 : decode cX1_openRound 20 = .ok (.if_icmp .ne 7, 3) := by decide +kernel
theorem dX1_openRound_23 : decode cX1_openRound 23 = .ok (.iconst 1, 1) := by decide +kernel
theorem dX1_openRound_24 : decode cX1_openRound 24 = .ok (.goto 4, 3) := by decide +kernel
theorem dX1_openRound_27 : decode cX1_openRound 27 = .ok (.iconst 0, 1) := by decide +kernel
theorem dX1_openRound_28 : decode cX1_openRound 28 = .ok (.iastore, 1) := by decide +kernel
theorem dX1_openRound_29 : decode cX1_openRound 29 = .ok (.aload_n 0, 1) := by decide +kernel
theorem dX1_openRound_30 : decode cX1_openRound 30 = .ok (.getfield 19, 3) := by decide +kernel
theorem dX1_openRound_33 : decode cX1_openRound 33 = .ok (.iload_n 1, 1) := by decide +kernel
theorem dX1_openRound_34 : decode cX1_openRound 34 = .ok (.iconst 0, 1) := by decide +kernel
theorem dX1_openRound_35 : decode cX1_openRound 35 = .ok (.iastore, 1) := by decide +kernel
theorem dX1_openRound_36 : decode cX1_openRound 36 = .ok (.iinc 1 1, 3) := by decide +kernel
theorem dX1_openRound_39 : decode cX1_openRound 39 = .ok (.goto (-37), 3) := by decide +kernel
theorem dX1_openRound_42 : decode cX1_openRound 42 = .ok (.return_, 1) := by decide +kernel
theorem dX1_tell_0 : decode cX1_tell 0 = .ok (.iload_n 1, 1) := by decide +kernel
theorem dX1_tell_1 : decode cX1_tell 1 = .ok (.tableswitch 42 0 2 #[27, 32, 37], 27) := by decide +kernel
theorem dX1_tell_28 : decode cX1_tell 28 = .ok (.aload_n 0, 1) := by decide +kernel
theorem dX1_tell_29 : decode cX1_tell 29 = .ok (.getfield 39, 3) := by decide +kernel
theorem dX1_tell_32 : decode cX1_tell 32 = .ok (.ireturn, 1) := by decide +kernel
theorem dX1_tell_33 : decode cX1_tell 33 = .ok (.aload_n 0, 1) := by decide +kernel
theorem dX1_tell_34 : decode cX1_tell 34 = .ok (.getfield 29, 3) := by decide +kernel
theorem dX1_tell_37 : decode cX1_tell 37 = .ok (.ireturn, 1) := by decide +kernel
theorem dX1_tell_38 : decode cX1_tell 38 = .ok (.aload_n 0, 1) := by decide +kernel
theorem dX1_tell_39 : decode cX1_tell 39 = .ok (.getfield 33, 3) := by decide +kernel
theorem dX1_tell_42 : decode cX1_tell 42 = .ok (.ireturn, 1) := by decide +kernel
theorem dX1_tell_43 : decode cX1_tell 43 = .ok (.aload_n 0, 1) := by decide +kernel
theorem dX1_tell_44 : decode cX1_tell 44 = .ok (.getfield 26, 3) := by decide +kernel
theorem dX1_tell_47 : decode cX1_tell 47 = .ok (.ifCond .eq 7, 3) := by decide +kernel
theorem dX1_tell_50 : decode cX1_tell 50 = .ok (.iconst 1, 1) := by decide +kernel
theorem dX1_tell_51 : decode cX1_tell 51 = .ok (.goto 4, 3) := by decide +kernel
theorem dX1_tell_54 : decode cX1_tell 54 = .ok (.iconst 0, 1) := by decide +kernel
theorem dX1_tell_55 : decode cX1_tell 55 = .ok (.ireturn, 1) := by decide +kernel
theorem dX2_hash_0 : decode cX2_hash 0 = .ok (.iload_n 0, 1) := by decide +kernel
theorem dX2_hash_1 : decode cX2_hash 1 = .ok (.iload_n 1, 1) := by decide +kernel
theorem dX2_hash_2 : decode cX2_hash 2 = .ok (.ldc 7, 2) := by decide +kernel
theorem dX2_hash_4 : decode cX2_hash 4 = .ok (.imul, 1) := by decide +kernel
theorem dX2_hash_5 : decode cX2_hash 5 = .ok (.iadd, 1) := by decide +kernel
theorem dX2_hash_6 : decode cX2_hash 6 = .ok (.istore_n 2, 1) := by decide +kernel
theorem dX2_hash_7 : decode cX2_hash 7 = .ok (.iload_n 2, 1) := by decide +kernel
theorem dX2_hash_8 : decode cX2_hash 8 = .ok (.iload_n 2, 1) := by decide +kernel
theorem dX2_hash_9 : decode cX2_hash 9 = .ok (.bipush 16, 2) := by decide +kernel
theorem dX2_hash_11 : decode cX2_hash 11 = .ok (.iushr, 1) := by decide +kernel
theorem dX2_hash_12 : decode cX2_hash 12 = .ok (.ixor, 1) := by decide +kernel
theorem dX2_hash_13 : decode cX2_hash 13 = .ok (.ldc 8, 2) := by decide +kernel
theorem dX2_hash_15 : decode cX2_hash 15 = .ok (.imul, 1) := by decide +kernel
theorem dX2_hash_16 : decode cX2_hash 16 = .ok (.istore_n 2, 1) := by decide +kernel
theorem dX2_hash_17 : decode cX2_hash 17 = .ok (.iload_n 2, 1) := by decide +kernel
theorem dX2_hash_18 : decode cX2_hash 18 = .ok (.iload_n 2, 1) := by decide +kernel
theorem dX2_hash_19 : decode cX2_hash 19 = .ok (.bipush 13, 2) := by decide +kernel
theorem dX2_hash_21 : decode cX2_hash 21 = .ok (.iushr, 1) := by decide +kernel
theorem dX2_hash_22 : decode cX2_hash 22 = .ok (.ixor, 1) := by decide +kernel
theorem dX2_hash_23 : decode cX2_hash 23 = .ok (.ldc 9, 2) := by decide +kernel
theorem dX2_hash_25 : decode cX2_hash 25 = .ok (.imul, 1) := by decide +kernel
theorem dX2_hash_26 : decode cX2_hash 26 = .ok (.istore_n 2, 1) := by decide +kernel
theorem dX2_hash_27 : decode cX2_hash 27 = .ok (.iload_n 2, 1) := by decide +kernel
theorem dX2_hash_28 : decode cX2_hash 28 = .ok (.iload_n 2, 1) := by decide +kernel
theorem dX2_hash_29 : decode cX2_hash 29 = .ok (.bipush 16, 2) := by decide +kernel
theorem dX2_hash_31 : decode cX2_hash 31 = .ok (.iushr, 1) := by decide +kernel
theorem dX2_hash_32 : decode cX2_hash 32 = .ok (.ixor, 1) := by decide +kernel
theorem dX2_hash_33 : decode cX2_hash 33 = .ok (.ireturn, 1) := by decide +kernel
set_option maxRecDepth 20000 in
theorem ggX2_pick_X2_bitsFor : GoodIn wsX2_pick wsX2_bitsFor := goodIn_r _ [5] (by decide +kernel) (by decide +kernel)
set_option maxRecDepth 20000 in
theorem gX2_pick_X2_bitsFor : GoodIn wsX2_pick (va_wsS RX2 10 yX2_bitsFor wsX2_bitsFor) := goodIn_app (goodIn_of _ (by decide +kernel)) ggX2_pick_X2_bitsFor
set_option maxRecDepth 20000 in
theorem ggX2_pick_X2_twoHashes : GoodIn wsX2_pick wsX2_twoHashes := goodIn_r _ [8, 9, 10, 11, 4, 12, 13, 14, 15] (by decide +kernel) (by decide +kernel)
set_option maxRecDepth 20000 in
theorem gX2_pick_X2_twoHashes : GoodIn wsX2_pick (va_wsS RX2 17 yX2_twoHashes wsX2_twoHashes) := goodIn_app (goodIn_of _ (by decide +kernel)) ggX2_pick_X2_twoHashes
theorem dX2_pick_0 : decode cX2_pick 0 = .ok (.lload_n 0, 1) := by decide +kernel
theorem dX2_pick_1 : decode cX2_pick 1 = .ok (.invokestatic 10, 3) := by decide +kernel
theorem dX2_pick_4 : decode cX2_pick 4 = .ok (.istore_n 3, 1) := by decide +kernel
theorem dX2_pick_5 : decode cX2_pick 5 = .ok (.iload_n 3, 1) := by decide +kernel
theorem dX2_pick_6 : decode cX2_pick 6 = .ok (.ifCond .ne 5, 3) := by decide +kernel
theorem dX2_pick_9 : decode cX2_pick 9 = .ok (.lconst 0, 1) := by decide +kernel
theorem dX2_pick_10 : decode cX2_pick 10 = .ok (.lreturn, 1) := by decide +kernel
theorem dX2_pick_11 : decode cX2_pick 11 = .ok (.iconst 0, 1) := by decide +kernel
theorem dX2_pick_12 : decode cX2_pick 12 = .ok (.istore 4, 2) := by decide +kernel
theorem dX2_pick_14 : decode cX2_pick 14 = .ok (.iload 4, 2) := by decide +kernel
theorem dX2_pick_16 : decode cX2_pick 16 = .ok (.ldc 16, 2) := by decide +kernel
theorem dX2_pick_18 : decode cX2_pick 18 = .ok (.if_icmp .ge 32, 3) := by decide +kernel
theorem dX2_pick_21 : decode cX2_pick 21 = .ok (.iload_n 2, 1) := by decide +kernel
theorem dX2_pick_22 : decode cX2_pick 22 = .ok (.iload 4, 2) := by decide +kernel
theorem dX2_pick_24 : decode cX2_pick 24 = .ok (.invokestatic 17, 3) := by decide +kernel
theorem dX2_pick_27 : decode cX2_pick 27 = .ok (.bipush 64, 2) := by decide +kernel
theorem dX2_pick_29 : decode cX2_pick 29 = .ok (.iload_n 3, 1) := by decide +kernel
theorem dX2_pick_30 : decode cX2_pick 30 = .ok (.isub, 1) := by decide +kernel
theorem dX2_pick_31 : decode cX2_pick 31 = .ok (.lushr, 1) := by decide +kernel
theorem dX2_pick_32 : decode cX2_pick 32 = .ok (.lstore 5, 2) := by decide +kernel
theorem dX2_pick_34 : decode cX2_pick 34 = .ok (.lload 5, 2) := by decide +kernel
theorem dX2_pick_36 : decode cX2_pick 36 = .ok (.lload_n 0, 1) := by decide +kernel
theorem dX2_pick_37 : decode cX2_pick 37 = .ok (.lcmp, 1) := by decide +kernel
theorem dX2_pick_38 : decode cX2_pick 38 = .ok (.ifCond .ge 6, 3) := by decide +kernel
theorem dX2_pick_41 : decode cX2_pick 41 = .ok (.lload 5, 2) := by decide +kernel
theorem dX2_pick_43 : decode cX2_pick 43 = .ok (.lreturn, 1) := by decide +kernel
theorem dX2_pick_44 : decode cX2_pick 44 = .ok (.iinc 4 1, 3) := by decide +kernel
theorem dX2_pick_47 : decode cX2_pick 47 = .ok (.goto (-33), 3) := by decide +kernel
theorem dX2_pick_50 : decode cX2_pick 50 = .ok (.lconst 0, 1) := by decide +kernel
theorem dX2_pick_51 : decode cX2_pick 51 = .ok (.lreturn, 1) := by decide +kernel
set_option maxRecDepth 20000 in
theorem ggX2_twoHashes_X2_hash : GoodIn wsX2_twoHashes wsX2_hash := goodIn_r _ [5, 6, 7, 8] (by decide +kernel) (by decide +kernel)
set_option maxRecDepth 20000 in
theorem gX2_twoHashes_X2_hash : GoodIn wsX2_twoHashes (va_wsS RX2 21 yX2_hash wsX2_hash) := goodIn_app (goodIn_of _ (by decide +kernel)) ggX2_twoHashes_X2_hash
theorem dX2_twoHashes_0 : decode cX2_twoHashes 0 = .ok (.iload_n 0, 1) := by decide +kernel
theorem dX2_twoHashes_1 : decode cX2_twoHashes 1 = .ok (.iconst 2, 1) := by decide +kernel
theorem dX2_twoHashes_2 : decode cX2_twoHashes 2 = .ok (.iload_n 1, 1) := by decide +kernel
theorem dX2_twoHashes_3 : decode cX2_twoHashes 3 = .ok (.imul, 1) := by decide +kernel
theorem dX2_twoHashes_4 : decode cX2_twoHashes 4 = .ok (.iconst 1, 1) := by decide +kernel
theorem dX2_twoHashes_5 : decode cX2_twoHashes 5 = .ok (.iadd, 1) := by decide +kernel
theorem dX2_twoHashes_6 : decode cX2_twoHashes 6 = .ok (.invokestatic 21, 3) := by decide +kernel
theorem dX2_twoHashes_9 : decode cX2_twoHashes 9 = .ok (.i2l, 1) := by decide +kernel
theorem dX2_twoHashes_10 : decode cX2_twoHashes 10 = .ok (.lstore_n 2, 1) := by decide +kernel
theorem dX2_twoHashes_11 : decode cX2_twoHashes 11 = .ok (.iload_n 0, 1) := by decide +kernel
theorem dX2_twoHashes_12 : decode cX2_twoHashes 12 = .ok (.iconst 2, 1) := by decide +kernel
theorem dX2_twoHashes_13 : decode cX2_twoHashes 13 = .ok (.iload_n 1, 1) := by decide +kernel
theorem dX2_twoHashes_14 : decode cX2_twoHashes 14 = .ok (.imul, 1) := by decide +kernel
theorem dX2_twoHashes_15 : decode cX2_twoHashes 15 = .ok (.iconst 2, 1) := by decide +kernel
theorem dX2_twoHashes_16 : decode cX2_twoHashes 16 = .ok (.iadd, 1) := by decide +kernel
theorem dX2_twoHashes_17 : decode cX2_twoHashes 17 = .ok (.invokestatic 21, 3) := by decide +kernel
theorem dX2_twoHashes_20 : decode cX2_twoHashes 20 = .ok (.i2l, 1) := by decide +kernel
theorem dX2_twoHashes_21 : decode cX2_twoHashes 21 = .ok (.lstore 4, 2) := by decide +kernel
theorem dX2_twoHashes_23 : decode cX2_twoHashes 23 = .ok (.lload_n 2, 1) := by decide +kernel
theorem dX2_twoHashes_24 : decode cX2_twoHashes 24 = .ok (.bipush 32, 2) := by decide +kernel
theorem dX2_twoHashes_26 : decode cX2_twoHashes 26 = .ok (.lshl, 1) := by decide +kernel
theorem dX2_twoHashes_27 : decode cX2_twoHashes 27 = .ok (.lload 4, 2) := by decide +kernel
theorem dX2_twoHashes_29 : decode cX2_twoHashes 29 = .ok (.ldc2_w 25, 3) := by decide +kernel
theorem dX2_twoHashes_32 : decode cX2_twoHashes 32 = .ok (.land, 1) := by decide +kernel
theorem dX2_twoHashes_33 : decode cX2_twoHashes 33 = .ok (.lor, 1) := by decide +kernel
theorem dX2_twoHashes_34 : decode cX2_twoHashes 34 = .ok (.lreturn, 1) := by decide +kernel
theorem dX2_bitsFor_0 : decode cX2_bitsFor 0 = .ok (.iconst 0, 1) := by decide +kernel
theorem dX2_bitsFor_1 : decode cX2_bitsFor 1 = .ok (.istore_n 2, 1) := by decide +kernel
theorem dX2_bitsFor_2 : decode cX2_bitsFor 2 = .ok (.iload_n 2, 1) := by decide +kernel
theorem dX2_bitsFor_3 : decode cX2_bitsFor 3 = .ok (.bipush 62, 2) := by decide +kernel
theorem dX2_bitsFor_5 : decode cX2_bitsFor 5 = .ok (.if_icmp .ge 17, 3) := by decide +kernel
theorem dX2_bitsFor_8 : decode cX2_bitsFor 8 = .ok (.lconst 1, 1) := by decide +kernel
theorem dX2_bitsFor_9 : decode cX2_bitsFor 9 = .ok (.iload_n 2, 1) := by decide +kernel
theorem dX2_bitsFor_10 : decode cX2_bitsFor 10 = .ok (.lshl, 1) := by decide +kernel
theorem dX2_bitsFor_11 : decode cX2_bitsFor 11 = .ok (.lload_n 0, 1) := by decide +kernel
theorem dX2_bitsFor_12 : decode cX2_bitsFor 12 = .ok (.lcmp, 1) := by decide +kernel
theorem dX2_bitsFor_13 : decode cX2_bitsFor 13 = .ok (.ifCond .ge 9, 3) := by decide +kernel
theorem dX2_bitsFor_16 : decode cX2_bitsFor 16 = .ok (.iinc 2 1, 3) := by decide +kernel
theorem dX2_bitsFor_19 : decode cX2_bitsFor 19 = .ok (.goto (-17), 3) := by decide +kernel
theorem dX2_bitsFor_22 : decode cX2_bitsFor 22 = .ok (.iload_n 2, 1) := by decide +kernel
theorem dX2_bitsFor_23 : decode cX2_bitsFor 23 = .ok (.ireturn, 1) := by decide +kernel
theorem dX3_init_0 : decode cX3_init 0 = .ok (.aload_n 0, 1) := by decide +kernel
theorem dX3_init_1 : decode cX3_init 1 = .ok (.invokespecial 3, 3) := by decide +kernel
theorem dX3_init_4 : decode cX3_init 4 = .ok (.aload_n 0, 1) := by decide +kernel
theorem dX3_init_5 : decode cX3_init 5 = .ok (.iconst 0, 1) := by decide +kernel
theorem dX3_init_6 : decode cX3_init 6 = .ok (.putfield 9, 3) := by decide +kernel
theorem dX3_init_9 : decode cX3_init 9 = .ok (.aload_n 0, 1) := by decide +kernel
theorem dX3_init_10 : decode cX3_init 10 = .ok (.lconst 1, 1) := by decide +kernel
theorem dX3_init_11 : decode cX3_init 11 = .ok (.putfield 15, 3) := by decide +kernel
theorem dX3_init_14 : decode cX3_init 14 = .ok (.aload_n 0, 1) := by decide +kernel
theorem dX3_init_15 : decode cX3_init 15 = .ok (.bipush 8, 2) := by decide +kernel
theorem dX3_init_17 : decode cX3_init 17 = .ok (.newarray .int, 2) := by decide +kernel
theorem dX3_init_19 : decode cX3_init 19 = .ok (.putfield 19, 3) := by decide +kernel
theorem dX3_init_22 : decode cX3_init 22 = .ok (.aload_n 0, 1) := by decide +kernel
theorem dX3_init_23 : decode cX3_init 23 = .ok (.bipush 8, 2) := by decide +kernel
theorem dX3_init_25 : decode cX3_init 25 = .ok (.newarray .int, 2) := by decide +kernel
theorem dX3_init_27 : decode cX3_init 27 = .ok (.putfield 23, 3) := by decide +kernel
theorem dX3_init_30 : decode cX3_init 30 = .ok (.aload_n 0, 1) := by decide +kernel
theorem dX3_init_31 : decode cX3_init 31 = .ok (.bipush 8, 2) := by decide +kernel
theorem dX3_init_33 : decode cX3_init 33 = .ok (.newarray .int, 2) := by decide +kernel
theorem dX3_init_35 : decode cX3_init 35 = .ok (.putfield 26, 3) := by decide +kernel
theorem dX3_init_38 : decode cX3_init 38 = .ok (.aload_n 0, 1) := by decide +kernel
theorem dX3_init_39 : decode cX3_init 39 = .ok (.bipush 8, 2) := by decide +kernel
theorem dX3_init_41 : decode cX3_init 41 = .ok (.newarray .int, 2) := by decide +kernel
theorem dX3_init_43 : decode cX3_init 43 = .ok (.putfield 29, 3) := by decide +kernel
theorem dX3_init_46 : decode cX3_init 46 = .ok (.aload_n 0, 1) := by decide +kernel
theorem dX3_init_47 : decode cX3_init 47 = .ok (.bipush 8, 2) := by decide +kernel
theorem dX3_init_49 : decode cX3_init 49 = .ok (.newarray .int, 2) := by decide +kernel
theorem dX3_init_51 : decode cX3_init 51 = .ok (.putfield 32, 3) := by decide +kernel
theorem dX3_init_54 : decode cX3_init 54 = .ok (.aload_n 0, 1) := by decide +kernel
theorem dX3_init_55 : decode cX3_init 55 = .ok (.bipush 8, 2) := by decide +kernel
theorem dX3_init_57 : decode cX3_init 57 = .ok (.newarray .long, 2) := by decide +kernel
theorem dX3_init_59 : decode cX3_init 59 = .ok (.putfield 35, 3) := by decide +kernel
theorem dX3_init_62 : decode cX3_init 62 = .ok (.aload_n 0, 1) := by decide +kernel
theorem dX3_init_63 : decode cX3_init 63 = .ok (.bipush 8, 2) := by decide +kernel
theorem dX3_init_65 : decode cX3_init 65 = .ok (.bipush 30, 2) := by decide +kernel
theorem dX3_init_67 : decode cX3_init 67 = .ok (.multianewarray 39 2, 4) := by decide +kernel
theorem dX3_init_71 : decode cX3_init 71 = .ok (.putfield 41, 3) := by decide +kernel
theorem dX3_init_74 : decode cX3_init 74 = .ok (.return_, 1) := by decide +kernel
set_option maxRecDepth 20000 in
theorem ggX3_add_X3_countWays : GoodIn wsX3_add wsX3_countWays := goodIn_r _ [9, 10, 1, 11, 12, 3, 13, 14, 15, 16, 17, 18, 19, 8, 20, 2, 21, 22, 23, 24, 4, 25, 26, 27, 28, 29, 30, 31, 32, 33, 34, 35, 36] (by decide +kernel) (by decide +kernel)
set_option maxRecDepth 20000 in
theorem gX3_add_X3_countWays : GoodIn wsX3_add (wsV RX3 44 RX3 yX3_countWays wsX3_countWays) := goodIn_app (goodIn_of _ (by decide +kernel)) ggX3_add_X3_countWays
theorem dX3_add_0 : decode cX3_add 0 = .ok (.aload_n 0, 1) := by decide +kernel
theorem dX3_add_1 : decode cX3_add 1 = .ok (.getfield 9, 3) := by decide +kernel
theorem dX3_add_4 : decode cX3_add 4 = .ok (.istore 4, 2) := by decide +kernel
theorem dX3_add_6 : decode cX3_add 6 = .ok (.aload_n 0, 1) := by decide +kernel
theorem dX3_add_7 : decode cX3_add 7 = .ok (.getfield 26, 3) := by decide +kernel
theorem dX3_add_10 : decode cX3_add 10 = .ok (.iload 4, 2) := by decide +kernel
theorem dX3_add_12 : decode cX3_add 12 = .ok (.iload_n 1, 1) := by decide +kernel
theorem dX3_add_13 : decode cX3_add 13 = .ok (.iastore, 1) := by decide +kernel
theorem dX3_add_14 : decode cX3_add 14 = .ok (.aload_n 0, 1) := by decide +kernel
theorem dX3_add_15 : decode cX3_add 15 = .ok (.getfield 29, 3) := by decide +kernel
theorem dX3_add_18 : decode cX3_add 18 = .ok (.iload 4, 2) := by decide +kernel
theorem dX3_add_20 : decode cX3_add 20 = .ok (.iload_n 2, 1) := by decide +kernel
theorem dX3_add_21 : decode cX3_add 21 = .ok (.iastore, 1) := by decide +kernel
theorem dX3_add_22 : decode cX3_add 22 = .ok (.aload_n 0, 1) := by decide +kernel
theorem dX3_add_23 : decode cX3_add 23 = .ok (.getfield 32, 3) := by decide +kernel
theorem dX3_add_26 : decode cX3_add 26 = .ok (.iload 4, 2) := by decide +kernel
theorem dX3_add_28 : decode cX3_add 28 = .ok (.iload_n 3, 1) := by decide +kernel
theorem dX3_add_29 : decode cX3_add 29 = .ok (.iastore, 1) := by decide +kernel
theorem dX3_add_30 : decode cX3_add 30 = .ok (.aload_n 0, 1) := by decide +kernel
theorem dX3_add_31 : decode cX3_add 31 = .ok (.dup, 1) := by decide +kernel
theorem dX3_add_32 : decode cX3_add 32 = .ok (.getfield 9, 3) := by decide +kernel
theorem dX3_add_35 : decode cX3_add 35 = .ok (.iconst 1, 1) := by decide +kernel
theorem dX3_add_36 : decode cX3_add 36 = .ok (.iadd, 1) := by decide +kernel
theorem dX3_add_37 : decode cX3_add 37 = .ok (.putfield 9, 3) := by decide +kernel
theorem dX3_add_40 : decode cX3_add 40 = .ok (.aload_n 0, 1) := by decide +kernel
theorem dX3_add_41 : decode cX3_add 41 = .ok (.invokevirtual 44, 3) := by decide +kernel
theorem dX3_add_44 : decode cX3_add 44 = .ok (.iload 4, 2) := by decide +kernel
theorem dX3_add_46 : decode cX3_add 46 = .ok (.ireturn, 1) := by decide +kernel
set_option maxRecDepth 20000 in
theorem ggX3_countWays_J7_fill_d0a16 : GoodIn wsX3_countWays wsJ7_fill_d0a16 := goodIn_r _ [9] (by decide +kernel) (by decide +kernel)
set_option maxRecDepth 20000 in
theorem gX3_countWays_J7_fill_d0a16 : GoodIn wsX3_countWays (va_wsS RX3 47 yJ7_fill_d0a16 wsJ7_fill_d0a16) := goodIn_app (goodIn_of _ (by decide +kernel)) ggX3_countWays_J7_fill_d0a16
set_option maxRecDepth 20000 in
theorem ggX3_countWays_X3_sumOfWays : GoodIn wsX3_countWays wsX3_sumOfWays := goodIn_r _ [14, 15, 3, 24, 25, 26, 27, 28, 29, 30, 31, 32] (by decide +kernel) (by decide +kernel)
set_option maxRecDepth 20000 in
theorem gX3_countWays_X3_sumOfWays : GoodIn wsX3_countWays (wsV RX3 53 RX3 yX3_sumOfWays wsX3_sumOfWays) := goodIn_app (goodIn_of _ (by decide +kernel)) ggX3_countWays_X3_sumOfWays
set_option maxRecDepth 20000 in
theorem ggX3_countWays_X3_hang : GoodIn wsX3_countWays wsX3_hang := goodIn_r _ [19, 15, 20, 3, 4, 21, 22, 13, 23, 24, 25, 26, 27, 28, 29, 30, 31, 32] (by decide +kernel) (by decide +kernel)
set_option maxRecDepth 20000 in
theorem gX3_countWays_X3_hang : GoodIn wsX3_countWays (wsV RX3 57 RX3 yX3_hang wsX3_hang) := goodIn_app (goodIn_of _ (by decide +kernel)) ggX3_countWays_X3_hang
theorem dX3_countWays_0 : decode cX3_countWays 0 = .ok (.aload_n 0, 1) := by decide +kernel
theorem dX3_countWays_1 : decode cX3_countWays 1 = .ok (.lconst 1, 1) := by decide +kernel
theorem dX3_countWays_2 : decode cX3_countWays 2 = .ok (.putfield 15, 3) := by decide +kernel
theorem dX3_countWays_5 : decode cX3_countWays 5 = .ok (.iconst 0, 1) := by decide +kernel
theorem dX3_countWays_6 : decode cX3_countWays 6 = .ok (.istore_n 1, 1) := by decide +kernel
theorem dX3_countWays_7 : decode cX3_countWays 7 = .ok (.iload_n 1, 1) := by decide +kernel
theorem dX3_countWays_8 : decode cX3_countWays 8 = .ok (.aload_n 0, 1) := by decide +kernel
theorem dX3_countWays_9 : decode cX3_countWays 9 = .ok (.getfield 9, 3) := by decide +kernel
theorem dX3_countWays_12 : decode cX3_countWays 12 = .ok (.if_icmp .ge 19, 3) := by decide +kernel
theorem dX3_countWays_15 : decode cX3_countWays 15 = .ok (.aload_n 0, 1) := by decide +kernel
theorem dX3_countWays_16 : decode cX3_countWays 16 = .ok (.getfield 41, 3) := by decide +kernel
theorem dX3_countWays_19 : decode cX3_countWays 19 = .ok (.iload_n 1, 1) := by decide +kernel
theorem dX3_countWays_20 : decode cX3_countWays 20 = .ok (.aaload, 1) := by decide +kernel
theorem dX3_countWays_21 : decode cX3_countWays 21 = .ok (.lconst 1, 1) := by decide +kernel
theorem dX3_countWays_22 : decode cX3_countWays 22 = .ok (.invokestatic 47, 3) := by decide +kernel
theorem dX3_countWays_25 : decode cX3_countWays 25 = .ok (.iinc 1 1, 3) := by decide +kernel
theorem dX3_countWays_28 : decode cX3_countWays 28 = .ok (.goto (-21), 3) := by decide +kernel
theorem dX3_countWays_31 : decode cX3_countWays 31 = .ok (.aload_n 0, 1) := by decide +kernel
theorem dX3_countWays_32 : decode cX3_countWays 32 = .ok (.getfield 9, 3) := by decide +kernel
theorem dX3_countWays_35 : decode cX3_countWays 35 = .ok (.iconst 1, 1) := by decide +kernel
theorem dX3_countWays_36 : decode cX3_countWays 36 = .ok (.isub, 1) := by decide +kernel
theorem dX3_countWays_37 : decode cX3_countWays 37 = .ok (.istore_n 1, 1) := by decide +kernel
theorem dX3_countWays_38 : decode cX3_countWays 38 = .ok (.iload_n 1, 1) := by decide +kernel
theorem dX3_countWays_39 : decode cX3_countWays 39 = .ok (.ifCond .lt 58, 3) := by decide +kernel
theorem dX3_countWays_42 : decode cX3_countWays 42 = .ok (.aload_n 0, 1) := by decide +kernel
theorem dX3_countWays_43 : decode cX3_countWays 43 = .ok (.getfield 35, 3) := by decide +kernel
theorem dX3_countWays_46 : decode cX3_countWays 46 = .ok (.iload_n 1, 1) := by decide +kernel
theorem dX3_countWays_47 : decode cX3_countWays 47 = .ok (.aload_n 0, 1) := by decide +kernel
theorem dX3_countWays_48 : decode cX3_countWays 48 = .ok (.iload_n 1, 1) := by decide +kernel
theorem dX3_countWays_49 : decode cX3_countWays 49 = .ok (.invokevirtual 53, 3) := by decide +kernel
theorem dX3_countWays_52 : decode cX3_countWays 52 = .ok (.lastore, 1) := by decide +kernel
theorem dX3_countWays_53 : decode cX3_countWays 53 = .ok (.aload_n 0, 1) := by decide +kernel
theorem dX3_countWays_54 : decode cX3_countWays 54 = .ok (.getfield 29, 3) := by decide +kernel
theorem dX3_countWays_57 : decode cX3_countWays 57 = .ok (.iload_n 1, 1) := by decide +kernel
theorem dX3_countWays_58 : decode cX3_countWays 58 = .ok (.iaload, 1) := by decide +kernel
theorem dX3_countWays_59 : decode cX3_countWays 59 = .ok (.ifCond .ge 21, 3) := by decide +kernel
theorem dX3_countWays_62 : decode cX3_countWays 62 = .ok (.aload_n 0, 1) := by decide +kernel
theorem dX3_countWays_63 : decode cX3_countWays 63 = .ok (.dup, 1) := by decide +kernel
theorem dX3_countWays_64 : decode cX3_countWays 64 = .ok (.getfield 15, 3) := by decide +kernel
theorem dX3_countWays_67 : decode cX3_countWays 67 = .ok (.aload_n 0, 1) := by decide +kernel
theorem dX3_countWays_68 : decode cX3_countWays 68 = .ok (.getfield 35, 3) := by decide +kernel
theorem dX3_countWays_71 : decode cX3_countWays 71 = .ok (.iload_n 1, 1) := by decide +kernel
theorem dX3_countWays_72 : decode cX3_countWays 72 = .ok (.laload, 1) := by decide +kernel
theorem dX3_countWays_73 : decode cX3_countWays 73 = .ok (.lmul, 1) := by decide +kernel
theorem dX3_countWays_74 : decode cX3_countWays 74 = .ok (.putfield 15, 3) := by decide +kernel
theorem dX3_countWays_77 : decode cX3_countWays 77 = .ok (.goto 14, 3) := by decide +kernel
theorem dX3_countWays_80 : decode cX3_countWays 80 = .ok (.aload_n 0, 1) := by decide +kernel
theorem dX3_countWays_81 : decode cX3_countWays 81 = .ok (.iload_n 1, 1) := by decide +kernel
theorem dX3_countWays_82 : decode cX3_countWays 82 = .ok (.aload_n 0, 1) := by decide +kernel
theorem dX3_countWays_83 : decode cX3_countWays 83 = .ok (.getfield 29, 3) := by decide +kernel
theorem dX3_countWays_86 : decode cX3_countWays 86 = .ok (.iload_n 1, 1) := by decide +kernel
theorem dX3_countWays_87 : decode cX3_countWays 87 = .ok (.iaload, 1) := by decide +kernel
theorem dX3_countWays_88 : decode cX3_countWays 88 = .ok (.invokevirtual 57, 3) := by decide +kernel
theorem dX3_countWays_91 : decode cX3_countWays 91 = .ok (.iinc 1 (-1), 3) := by decide +kernel
theorem dX3_countWays_94 : decode cX3_countWays 94 = .ok (.goto (-56), 3) := by decide +kernel
theorem dX3_countWays_97 : decode cX3_countWays 97 = .ok (.return_, 1) := by decide +kernel
theorem dX3_sumOfWays_0 : decode cX3_sumOfWays 0 = .ok (.lconst 0, 1) := by decide +kernel
theorem dX3_sumOfWays_1 : decode cX3_sumOfWays 1 = .ok (.lstore_n 2, 1) := by decide +kernel
theorem dX3_sumOfWays_2 : decode cX3_sumOfWays 2 = .ok (.iconst 0, 1) := by decide +kernel
theorem dX3_sumOfWays_3 : decode cX3_sumOfWays 3 = .ok (.istore 4, 2) := by decide +kernel
theorem dX3_sumOfWays_5 : decode cX3_sumOfWays 5 = .ok (.iload 4, 2) := by decide +kernel
theorem dX3_sumOfWays_7 : decode cX3_sumOfWays 7 = .ok (.aload_n 0, 1) := by decide +kernel
theorem dX3_sumOfWays_8 : decode cX3_sumOfWays 8 = .ok (.getfield 26, 3) := by decide +kernel
theorem dX3_sumOfWays_11 : decode cX3_sumOfWays 11 = .ok (.iload_n 1, 1) := by decide +kernel
theorem dX3_sumOfWays_12 : decode cX3_sumOfWays 12 = .ok (.iaload, 1) := by decide +kernel
theorem dX3_sumOfWays_13 : decode cX3_sumOfWays 13 = .ok (.if_icmp .ge 21, 3) := by decide +kernel
theorem dX3_sumOfWays_16 : decode cX3_sumOfWays 16 = .ok (.lload_n 2, 1) := by decide +kernel
theorem dX3_sumOfWays_17 : decode cX3_sumOfWays 17 = .ok (.aload_n 0, 1) := by decide +kernel
theorem dX3_sumOfWays_18 : decode cX3_sumOfWays 18 = .ok (.getfield 41, 3) := by decide +kernel
theorem dX3_sumOfWays_21 : decode cX3_sumOfWays 21 = .ok (.iload_n 1, 1) := by decide +kernel
theorem dX3_sumOfWays_22 : decode cX3_sumOfWays 22 = .ok (.aaload, 1) := by decide +kernel
theorem dX3_sumOfWays_23 : decode cX3_sumOfWays 23 = .ok (.iload 4, 2) := by decide +kernel
theorem dX3_sumOfWays_25 : decode cX3_sumOfWays 25 = .ok (.laload, 1) := by decide +kernel
theorem dX3_sumOfWays_26 : decode cX3_sumOfWays 26 = .ok (.ladd, 1) := by decide +kernel
theorem dX3_sumOfWays_27 : decode cX3_sumOfWays 27 = .ok (.lstore_n 2, 1) := by decide +kernel
theorem dX3_sumOfWays_28 : decode cX3_sumOfWays 28 = .ok (.iinc 4 1, 3) := by decide +kernel
theorem dX3_sumOfWays_31 : decode cX3_sumOfWays 31 = .ok (.goto (-26), 3) := by decide +kernel
theorem dX3_sumOfWays_34 : decode cX3_sumOfWays 34 = .ok (.lload_n 2, 1) := by decide +kernel
theorem dX3_sumOfWays_35 : decode cX3_sumOfWays 35 = .ok (.lreturn, 1) := by decide +kernel
set_option maxRecDepth 20000 in
theorem ggX3_hang_X3_hasBit : GoodIn wsX3_hang wsX3_hasBit := goodIn_r _ [8] (by decide +kernel) (by decide +kernel)
set_option maxRecDepth 20000 in
theorem gX3_hang_X3_hasBit : GoodIn wsX3_hang (va_wsS RX3 61 yX3_hasBit wsX3_hasBit) := goodIn_app (goodIn_of _ (by decide +kernel)) ggX3_hang_X3_hasBit
theorem dX3_hang_0 : decode cX3_hang 0 = .ok (.iconst 0, 1) := by decide +kernel
theorem dX3_hang_1 : decode cX3_hang 1 = .ok (.istore_n 3, 1) := by decide +kernel
theorem dX3_hang_2 : decode cX3_hang 2 = .ok (.iload_n 3, 1) := by decide +kernel
theorem dX3_hang_3 : decode cX3_hang 3 = .ok (.aload_n 0, 1) := by decide +kernel
theorem dX3_hang_4 : decode cX3_hang 4 = .ok (.getfield 26, 3) := by decide +kernel
theorem dX3_hang_7 : decode cX3_hang 7 = .ok (.iload_n 2, 1) := by decide +kernel
theorem dX3_hang_8 : decode cX3_hang 8 = .ok (.iaload, 1) := by decide +kernel
theorem dX3_hang_9 : decode cX3_hang 9 = .ok (.if_icmp .ge 39, 3) := by decide +kernel
theorem dX3_hang_12 : decode cX3_hang 12 = .ok (.aload_n 0, 1) := by decide +kernel
theorem dX3_hang_13 : decode cX3_hang 13 = .ok (.getfield 32, 3) := by decide +kernel
theorem dX3_hang_16 : decode cX3_hang 16 = .ok (.iload_n 1, 1) := by decide +kernel
theorem dX3_hang_17 : decode cX3_hang 17 = .ok (.iaload, 1) := by decide +kernel
theorem dX3_hang_18 : decode cX3_hang 18 = .ok (.iload_n 3, 1) := by decide +kernel
theorem dX3_hang_19 : decode cX3_hang 19 = .ok (.invokestatic 61, 3) := by decide +kernel
theorem dX3_hang_22 : decode cX3_hang 22 = .ok (.ifCond .eq 20, 3) := by decide +kernel
theorem dX3_hang_25 : decode cX3_hang 25 = .ok (.aload_n 0, 1) := by decide +kernel
theorem dX3_hang_26 : decode cX3_hang 26 = .ok (.getfield 41, 3) := by decide +kernel
theorem dX3_hang_29 : decode cX3_hang 29 = .ok (.iload_n 2, 1) := by decide +kernel
theorem dX3_hang_30 : decode cX3_hang 30 = .ok (.aaload, 1) := by decide +kernel
theorem dX3_hang_31 : decode cX3_hang 31 = .ok (.iload_n 3, 1) := by decide +kernel
theorem dX3_hang_32 : decode cX3_hang 32 = .ok (.dup2, 1) := by decide +kernel
theorem dX3_hang_33 : decode cX3_hang 33 = .ok (.laload, 1) := by decide +kernel
theorem dX3_hang_34 : decode cX3_hang 34 = .ok (.aload_n 0, 1) := by decide +kernel
theorem dX3_hang_35 : decode cX3_hang 35 = .ok (.getfield 35, 3) := by decide +kernel
theorem dX3_hang_38 : decode cX3_hang 38 = .ok (.iload_n 1, 1) := by decide +kernel
theorem dX3_hang_39 : decode cX3_hang 39 = .ok (.laload, 1) := by decide +kernel
theorem dX3_hang_40 : decode cX3_hang 40 = .ok (.lmul, 1) := by decide +kernel
theorem dX3_hang_41 : decode cX3_hang 41 = .ok (.lastore, 1) := by decide +kernel
theorem dX3_hang_42 : decode cX3_hang 42 = .ok (.iinc 3 1, 3) := by decide +kernel
theorem dX3_hang_45 : decode cX3_hang 45 = .ok (.goto (-43), 3) := by decide +kernel
theorem dX3_hang_48 : decode cX3_hang 48 = .ok (.return_, 1) := by decide +kernel
theorem dX3_hasBit_0 : decode cX3_hasBit 0 = .ok (.iload_n 0, 1) := by decide +kernel
theorem dX3_hasBit_1 : decode cX3_hasBit 1 = .ok (.iload_n 1, 1) := by decide +kernel
theorem dX3_hasBit_2 : decode cX3_hasBit 2 = .ok (.iushr, 1) := by decide +kernel
theorem dX3_hasBit_3 : decode cX3_hasBit 3 = .ok (.iconst 1, 1) := by decide +kernel
theorem dX3_hasBit_4 : decode cX3_hasBit 4 = .ok (.iand, 1) := by decide +kernel
theorem dX3_hasBit_5 : decode cX3_hasBit 5 = .ok (.iconst 1, 1) := by decide +kernel
theorem dX3_hasBit_6 : decode cX3_hasBit 6 = .ok (.if_icmp .ne 7, 3) := by decide +kernel
theorem dX3_hasBit_9 : decode cX3_hasBit 9 = .ok (.iconst 1, 1) := by decide +kernel
theorem dX3_hasBit_10 : decode cX3_hasBit 10 = .ok (.goto 4, 3) := by decide +kernel
theorem dX3_hasBit_13 : decode cX3_hasBit 13 = .ok (.iconst 0, 1) := by decide +kernel
theorem dX3_hasBit_14 : decode cX3_hasBit 14 = .ok (.ireturn, 1) := by decide +kernel
set_option maxRecDepth 20000 in
theorem ggX3_isThere_X3_hasBit : GoodIn wsX3_isThere wsX3_hasBit := goodIn_r _ [6] (by decide +kernel) (by decide +kernel)
set_option maxRecDepth 20000 in
theorem gX3_isThere_X3_hasBit : GoodIn wsX3_isThere (va_wsS RX3 61 yX3_hasBit wsX3_hasBit) := goodIn_app (goodIn_of _ (by decide +kernel)) ggX3_isThere_X3_hasBit
theorem dX3_isThere_0 : decode cX3_isThere 0 = .ok (.aload_n 0, 1) := by decide +kernel
theorem dX3_isThere_1 : decode cX3_isThere 1 = .ok (.getfield 29, 3) := by decide +kernel
theorem dX3_isThere_4 : decode cX3_isThere 4 = .ok (.iload_n 1, 1) := by decide +kernel
theorem dX3_isThere_5 : decode cX3_isThere 5 = .ok (.iaload, 1) := by decide +kernel
theorem dX3_isThere_6 : decode cX3_isThere 6 = .ok (.istore_n 3, 1) := by decide +kernel
theorem dX3_isThere_7 : decode cX3_isThere 7 = .ok (.iload_n 3, 1) := by decide +kernel
theorem dX3_isThere_8 : decode cX3_isThere 8 = .ok (.ifCond .lt 24, 3) := by decide +kernel
theorem dX3_isThere_11 : decode cX3_isThere 11 = .ok (.aload_n 2, 1) := by decide +kernel
theorem dX3_isThere_12 : decode cX3_isThere 12 = .ok (.iload_n 3, 1) := by decide +kernel
theorem dX3_isThere_13 : decode cX3_isThere 13 = .ok (.iaload, 1) := by decide +kernel
theorem dX3_isThere_14 : decode cX3_isThere 14 = .ok (.ifCond .lt 22, 3) := by decide +kernel
theorem dX3_isThere_17 : decode cX3_isThere 17 = .ok (.aload_n 0, 1) := by decide +kernel
theorem dX3_isThere_18 : decode cX3_isThere 18 = .ok (.getfield 32, 3) := by decide +kernel
theorem dX3_isThere_21 : decode cX3_isThere 21 = .ok (.iload_n 1, 1) := by decide +kernel
theorem dX3_isThere_22 : decode cX3_isThere 22 = .ok (.iaload, 1) := by decide +kernel
theorem dX3_isThere_23 : decode cX3_isThere 23 = .ok (.aload_n 2, 1) := by decide +kernel
theorem dX3_isThere_24 : decode cX3_isThere 24 = .ok (.iload_n 3, 1) := by decide +kernel
theorem dX3_isThere_25 : decode cX3_isThere 25 = .ok (.iaload, 1) := by decide +kernel
theorem dX3_isThere_26 : decode cX3_isThere 26 = .ok (.invokestatic 61, 3) := by decide +kernel
theorem dX3_isThere_29 : decode cX3_isThere 29 = .ok (.ifCond .eq 7, 3) := by decide +kernel
theorem dX3_isThere_32 : decode cX3_isThere 32 = .ok (.iconst 1, 1) := by decide +kernel
theorem dX3_isThere_33 : decode cX3_isThere 33 = .ok (.goto 4, 3) := by decide +kernel
theorem dX3_isThere_36 : decode cX3_isThere 36 = .ok (.iconst 0, 1) := by decide +kernel
theorem dX3_isThere_37 : decode cX3_isThere 37 = .ok (.ireturn, 1) := by decide +kernel
set_option maxRecDepth 20000 in
theorem ggX3_read_X3_isThere : GoodIn wsX3_read wsX3_isThere := goodIn_r _ [10, 11, 12, 13, 14, 9, 15, 19, 20, 21, 22, 23, 24, 25, 26, 27] (by decide +kernel) (by decide +kernel)
set_option maxRecDepth 20000 in
theorem gX3_read_X3_isThere : GoodIn wsX3_read (wsV RX3 65 RX3 yX3_isThere wsX3_isThere) := goodIn_app (goodIn_of _ (by decide +kernel)) ggX3_read_X3_isThere
set_option maxRecDepth 20000 in
theorem ggX3_read_X5_cut : GoodIn wsX3_read wsX5_cut := goodIn_r _ [18] (by decide +kernel) (by decide +kernel)
set_option maxRecDepth 20000 in
theorem gX3_read_X5_cut_n69 : GoodIn wsX3_read (wsX5_cut) := ggX3_read_X5_cut
theorem dX3_read_0 : decode cX3_read 0 = .ok (.lload_n 1, 1) := by decide +kernel
theorem dX3_read_1 : decode cX3_read 1 = .ok (.lstore 4, 2) := by decide +kernel
theorem dX3_read_3 : decode cX3_read 3 = .ok (.aload_n 0, 1) := by decide +kernel
theorem dX3_read_4 : decode cX3_read 4 = .ok (.getfield 15, 3) := by decide +kernel
theorem dX3_read_7 : decode cX3_read 7 = .ok (.lstore 6, 2) := by decide +kernel
theorem dX3_read_9 : decode cX3_read 9 = .ok (.iconst 0, 1) := by decide +kernel
theorem dX3_read_10 : decode cX3_read 10 = .ok (.istore 8, 2) := by decide +kernel
theorem dX3_read_12 : decode cX3_read 12 = .ok (.iload 8, 2) := by decide +kernel
theorem dX3_read_14 : decode cX3_read 14 = .ok (.aload_n 0, 1) := by decide +kernel
theorem dX3_read_15 : decode cX3_read 15 = .ok (.getfield 9, 3) := by decide +kernel
theorem dX3_read_18 : decode cX3_read 18 = .ok (.if_icmp .ge 120, 3) := by decide +kernel
theorem dX3_read_21 : decode cX3_read 21 = .ok (.aload_n 3, 1) := by decide +kernel
theorem dX3_read_22 : decode cX3_read 22 = .ok (.iload 8, 2) := by decide +kernel
theorem dX3_read_24 : decode cX3_read 24 = .ok (.bipush (-2), 2) := by decide +kernel
theorem dX3_read_26 : decode cX3_read 26 = .ok (.iastore, 1) := by decide +kernel
theorem dX3_read_27 : decode cX3_read 27 = .ok (.aload_n 0, 1) := by decide +kernel
theorem dX3_read_28 : decode cX3_read 28 = .ok (.iload 8, 2) := by decide +kernel
theorem dX3_read_30 : decode cX3_read 30 = .ok (.aload_n 3, 1) := by decide +kernel
theorem dX3_read_31 : decode cX3_read 31 = .ok (.invokevirtual 65, 3) := by decide +kernel
theorem dX3_read_34 : decode cX3_read 34 = .ok (.ifCond .eq 98, 3) := by decide +kernel
theorem dX3_read_37 : decode cX3_read 37 = .ok (.lload 6, 2) := by decide +kernel
theorem dX3_read_39 : decode cX3_read 39 = .ok (.aload_n 0, 1) := by decide +kernel
theorem dX3_read_40 : decode cX3_read 40 = .ok (.getfield 35, 3) := by decide +kernel
theorem dX3_read_43 : decode cX3_read 43 = .ok (.iload 8, 2) := by decide +kernel
theorem dX3_read_45 : decode cX3_read 45 = .ok (.laload, 1) := by decide +kernel
theorem dX3_read_46 : decode cX3_read 46 = .ok (.invokestatic 69, 3) := by decide +kernel
theorem dX3_read_49 : decode cX3_read 49 = .ok (.lstore 6, 2) := by decide +kernel
theorem dX3_read_51 : decode cX3_read 51 = .ok (.iconst 0, 1) := by decide +kernel
theorem dX3_read_52 : decode cX3_read 52 = .ok (.istore 9, 2) := by decide +kernel
theorem dX3_read_54 : decode cX3_read 54 = .ok (.iload 9, 2) := by decide +kernel
theorem dX3_read_56 : decode cX3_read 56 = .ok (.aload_n 0, 1) := by decide +kernel
theorem dX3_read_57 : decode cX3_read 57 = .ok (.getfield 26, 3) := by decide +kernel
theorem dX3_read_60 : decode cX3_read 60 = .ok (.iload 8, 2) := by decide +kernel
theorem dX3_read_62 : decode cX3_read 62 = .ok (.iaload, 1) := by decide +kernel
theorem dX3_read_63 : decode cX3_read 63 = .ok (.iconst 1, 1) := by decide +kernel
theorem dX3_read_64 : decode cX3_read 64 = .ok (.isub, 1) := by decide +kernel
theorem dX3_read_65 : decode cX3_read 65 = .ok (.if_icmp .ge 46, 3) := by decide +kernel
theorem dX3_read_68 : decode cX3_read 68 = .ok (.lload 4, 2) := by decide +kernel
theorem dX3_read_70 : decode cX3_read 70 = .ok (.lload 6, 2) := by decide +kernel
theorem dX3_read_72 : decode cX3_read 72 = .ok (.aload_n 0, 1) := by decide +kernel
theorem dX3_read_73 : decode cX3_read 73 = .ok (.getfield 41, 3) := by decide +kernel
theorem dX3_read_76 : decode cX3_read 76 = .ok (.iload 8, 2) := by decide +kernel
theorem dX3_read_78 : decode cX3_read 78 = .ok (.aaload, 1) := by decide +kernel
theorem dX3_read_79 : decode cX3_read 79 = .ok (.iload 9, 2) := by decide +kernel
theorem dX3_read_81 : decode cX3_read 81 = .ok (.laload, 1) := by decide +kernel
theorem dX3_read_82 : decode cX3_read 82 = .ok (.lmul, 1) := by decide +kernel
theorem dX3_read_83 : decode cX3_read 83 = .ok (.lcmp, 1) := by decide +kernel
theorem dX3_read_84 : decode cX3_read 84 = .ok (.ifCond .lt 27, 3) := by decide +kernel
theorem dX3_read_87 : decode cX3_read 87 = .ok (.lload 4, 2) := by decide +kernel
theorem dX3_read_89 : decode cX3_read 89 = .ok (.lload 6, 2) := by decide +kernel
theorem dX3_read_91 : decode cX3_read 91 = .ok (.aload_n 0, 1) := by decide +kernel
theorem dX3_read_92 : decode cX3_read 92 = .ok (.getfield 41, 3) := by decide +kernel
theorem dX3_read_95 : decode cX3_read 95 = .ok (.iload 8, 2) := by decide +kernel
theorem dX3_read_97 : decode cX3_read 97 = .ok (.aaload, 1) := by decide +kernel
theorem dX3_read_98 : decode cX3_read 98 = .ok (.iload 9, 2) := by decide +kernel
theorem dX3_read_100 : decode cX3_read 100 = .ok (.laload, 1) := by decide +kernel
theorem dX3_read_101 : decode cX3_read 101 = .ok (.lmul, 1) := by decide +kernel
theorem dX3_read_102 : decode cX3_read 102 = .ok (.lsub, 1) := by decide +kernel
theorem dX3_read_103 : decode cX3_read 103 = .ok (.lstore 4, 2) := by decide +kernel
theorem dX3_read_105 : decode cX3_read 105 = .ok (.iinc 9 1, 3) := by decide +kernel
theorem dX3_read_108 : decode cX3_read 108 = .ok (.goto (-54), 3) := by decide +kernel
theorem dX3_read_111 : decode cX3_read 111 = .ok (.aload_n 3, 1) := by decide +kernel
theorem dX3_read_112 : decode cX3_read 112 = .ok (.iload 8, 2) := by decide +kernel
theorem dX3_read_114 : decode cX3_read 114 = .ok (.iload 9, 2) := by decide +kernel
theorem dX3_read_116 : decode cX3_read 116 = .ok (.iastore, 1) := by decide +kernel
theorem dX3_read_117 : decode cX3_read 117 = .ok (.lload 6, 2) := by decide +kernel
theorem dX3_read_119 : decode cX3_read 119 = .ok (.aload_n 0, 1) := by decide +kernel
theorem dX3_read_120 : decode cX3_read 120 = .ok (.getfield 41, 3) := by decide +kernel
theorem dX3_read_123 : decode cX3_read 123 = .ok (.iload 8, 2) := by decide +kernel
theorem dX3_read_125 : decode cX3_read 125 = .ok (.aaload, 1) := by decide +kernel
theorem dX3_read_126 : decode cX3_read 126 = .ok (.iload 9, 2) := by decide +kernel
theorem dX3_read_128 : decode cX3_read 128 = .ok (.laload, 1) := by decide +kernel
theorem dX3_read_129 : decode cX3_read 129 = .ok (.lmul, 1) := by decide +kernel
theorem dX3_read_130 : decode cX3_read 130 = .ok (.lstore 6, 2) := by decide +kernel
theorem dX3_read_132 : decode cX3_read 132 = .ok (.iinc 8 1, 3) := by decide +kernel
theorem dX3_read_135 : decode cX3_read 135 = .ok (.goto (-123), 3) := by decide +kernel
theorem dX3_read_138 : decode cX3_read 138 = .ok (.return_, 1) := by decide +kernel
set_option maxRecDepth 20000 in
theorem ggX3_place_X5_cut : GoodIn wsX3_place wsX5_cut := goodIn_r _ [7] (by decide +kernel) (by decide +kernel)
set_option maxRecDepth 20000 in
theorem gX3_place_X5_cut_n69 : GoodIn wsX3_place (wsX5_cut) := ggX3_place_X5_cut
theorem dX3_place_0 : decode cX3_place 0 = .ok (.lconst 0, 1) := by decide +kernel
theorem dX3_place_1 : decode cX3_place 1 = .ok (.lstore_n 2, 1) := by decide +kernel
theorem dX3_place_2 : decode cX3_place 2 = .ok (.aload_n 0, 1) := by decide +kernel
theorem dX3_place_3 : decode cX3_place 3 = .ok (.getfield 15, 3) := by decide +kernel
theorem dX3_place_6 : decode cX3_place 6 = .ok (.lstore 4, 2) := by decide +kernel
theorem dX3_place_8 : decode cX3_place 8 = .ok (.iconst 0, 1) := by decide +kernel
theorem dX3_place_9 : decode cX3_place 9 = .ok (.istore 6, 2) := by decide +kernel
theorem dX3_place_11 : decode cX3_place 11 = .ok (.iload 6, 2) := by decide +kernel
theorem dX3_place_13 : decode cX3_place 13 = .ok (.aload_n 0, 1) := by decide +kernel
theorem dX3_place_14 : decode cX3_place 14 = .ok (.getfield 9, 3) := by decide +kernel
theorem dX3_place_17 : decode cX3_place 17 = .ok (.if_icmp .ge 81, 3) := by decide +kernel
theorem dX3_place_20 : decode cX3_place 20 = .ok (.aload_n 1, 1) := by decide +kernel
theorem dX3_place_21 : decode cX3_place 21 = .ok (.iload 6, 2) := by decide +kernel
theorem dX3_place_23 : decode cX3_place 23 = .ok (.iaload, 1) := by decide +kernel
theorem dX3_place_24 : decode cX3_place 24 = .ok (.ifCond .lt 68, 3) := by decide +kernel
theorem dX3_place_27 : decode cX3_place 27 = .ok (.lload 4, 2) := by decide +kernel
theorem dX3_place_29 : decode cX3_place 29 = .ok (.aload_n 0, 1) := by decide +kernel
theorem dX3_place_30 : decode cX3_place 30 = .ok (.getfield 35, 3) := by decide +kernel
theorem dX3_place_33 : decode cX3_place 33 = .ok (.iload 6, 2) := by decide +kernel
theorem dX3_place_35 : decode cX3_place 35 = .ok (.laload, 1) := by decide +kernel
theorem dX3_place_36 : decode cX3_place 36 = .ok (.invokestatic 69, 3) := by decide +kernel
theorem dX3_place_39 : decode cX3_place 39 = .ok (.lstore 4, 2) := by decide +kernel
theorem dX3_place_41 : decode cX3_place 41 = .ok (.iconst 0, 1) := by decide +kernel
theorem dX3_place_42 : decode cX3_place 42 = .ok (.istore 7, 2) := by decide +kernel
theorem dX3_place_44 : decode cX3_place 44 = .ok (.iload 7, 2) := by decide +kernel
theorem dX3_place_46 : decode cX3_place 46 = .ok (.aload_n 1, 1) := by decide +kernel
theorem dX3_place_47 : decode cX3_place 47 = .ok (.iload 6, 2) := by decide +kernel
theorem dX3_place_49 : decode cX3_place 49 = .ok (.iaload, 1) := by decide +kernel
theorem dX3_place_50 : decode cX3_place 50 = .ok (.if_icmp .ge 25, 3) := by decide +kernel
theorem dX3_place_53 : decode cX3_place 53 = .ok (.lload_n 2, 1) := by decide +kernel
theorem dX3_place_54 : decode cX3_place 54 = .ok (.lload 4, 2) := by decide +kernel
theorem dX3_place_56 : decode cX3_place 56 = .ok (.aload_n 0, 1) := by decide +kernel
theorem dX3_place_57 : decode cX3_place 57 = .ok (.getfield 41, 3) := by decide +kernel
theorem dX3_place_60 : decode cX3_place 60 = .ok (.iload 6, 2) := by decide +kernel
theorem dX3_place_62 : decode cX3_place 62 = .ok (.aaload, 1) := by decide +kernel
theorem dX3_place_63 : decode cX3_place 63 = .ok (.iload 7, 2) := by decide +kernel
theorem dX3_place_65 : decode cX3_place 65 = .ok (.laload, 1) := by decide +kernel
theorem dX3_place_66 : decode cX3_place 66 = .ok (.lmul, 1) := by decide +kernel
theorem dX3_place_67 : decode cX3_place 67 = .ok (.ladd, 1) := by decide +kernel
theorem dX3_place_68 : decode cX3_place 68 = .ok (.lstore_n 2, 1) := by decide +kernel
theorem dX3_place_69 : decode cX3_place 69 = .ok (.iinc 7 1, 3) := by decide +kernel
theorem dX3_place_72 : decode cX3_place 72 = .ok (.goto (-28), 3) := by decide +kernel
theorem dX3_place_75 : decode cX3_place 75 = .ok (.lload 4, 2) := by decide +kernel
theorem dX3_place_77 : decode cX3_place 77 = .ok (.aload_n 0, 1) := by decide +kernel
theorem dX3_place_78 : decode cX3_place 78 = .ok (.getfield 41, 3) := by decide +kernel
theorem dX3_place_81 : decode cX3_place 81 = .ok (.iload 6, 2) := by decide +kernel
theorem dX3_place_83 : decode cX3_place 83 = .ok (.aaload, 1) := by decide +kernel
theorem dX3_place_84 : decode cX3_place 84 = .ok (.aload_n 1, 1) := by decide +kernel
theorem dX3_place_85 : decode cX3_place 85 = .ok (.iload 6, 2) := by decide +kernel
theorem dX3_place_87 : decode cX3_place 87 = .ok (.iaload, 1) := by decide +kernel
theorem dX3_place_88 : decode cX3_place 88 = .ok (.laload, 1) := by decide +kernel
theorem dX3_place_89 : decode cX3_place 89 = .ok (.lmul, 1) := by decide +kernel
theorem dX3_place_90 : decode cX3_place 90 = .ok (.lstore 4, 2) := by decide +kernel
theorem dX3_place_92 : decode cX3_place 92 = .ok (.iinc 6 1, 3) := by decide +kernel
theorem dX3_place_95 : decode cX3_place 95 = .ok (.goto (-84), 3) := by decide +kernel
theorem dX3_place_98 : decode cX3_place 98 = .ok (.lload_n 2, 1) := by decide +kernel
theorem dX3_place_99 : decode cX3_place 99 = .ok (.lreturn, 1) := by decide +kernel
set_option maxRecDepth 20000 in
theorem ggX3_takeBits_X3_isThere : GoodIn wsX3_takeBits wsX3_isThere := goodIn_r _ [7, 8, 9, 10, 11, 6, 12, 13, 14, 15, 16, 17, 18, 19, 20, 21] (by decide +kernel) (by decide +kernel)
set_option maxRecDepth 20000 in
theorem gX3_takeBits_X3_isThere : GoodIn wsX3_takeBits (wsV RX3 65 RX3 yX3_isThere wsX3_isThere) := goodIn_app (goodIn_of _ (by decide +kernel)) ggX3_takeBits_X3_isThere
theorem dX3_takeBits_0 : decode cX3_takeBits 0 = .ok (.iconst 0, 1) := by decide +kernel
theorem dX3_takeBits_1 : decode cX3_takeBits 1 = .ok (.istore 4, 2) := by decide +kernel
theorem dX3_takeBits_3 : decode cX3_takeBits 3 = .ok (.iload 4, 2) := by decide +kernel
theorem dX3_takeBits_5 : decode cX3_takeBits 5 = .ok (.aload_n 0, 1) := by decide +kernel
theorem dX3_takeBits_6 : decode cX3_takeBits 6 = .ok (.getfield 9, 3) := by decide +kernel
theorem dX3_takeBits_9 : decode cX3_takeBits 9 = .ok (.if_icmp .ge 57, 3) := by decide +kernel
theorem dX3_takeBits_12 : decode cX3_takeBits 12 = .ok (.aload_n 3, 1) := by decide +kernel
theorem dX3_takeBits_13 : decode cX3_takeBits 13 = .ok (.iload 4, 2) := by decide +kernel
theorem dX3_takeBits_15 : decode cX3_takeBits 15 = .ok (.bipush (-2), 2) := by decide +kernel
theorem dX3_takeBits_17 : decode cX3_takeBits 17 = .ok (.iastore, 1) := by decide +kernel
theorem dX3_takeBits_18 : decode cX3_takeBits 18 = .ok (.aload_n 0, 1) := by decide +kernel
theorem dX3_takeBits_19 : decode cX3_takeBits 19 = .ok (.iload 4, 2) := by decide +kernel
theorem dX3_takeBits_21 : decode cX3_takeBits 21 = .ok (.aload_n 3, 1) := by decide +kernel
theorem dX3_takeBits_22 : decode cX3_takeBits 22 = .ok (.invokevirtual 65, 3) := by decide +kernel
theorem dX3_takeBits_25 : decode cX3_takeBits 25 = .ok (.ifCond .eq 35, 3) := by decide +kernel
theorem dX3_takeBits_28 : decode cX3_takeBits 28 = .ok (.lload_n 1, 1) := by decide +kernel
theorem dX3_takeBits_29 : decode cX3_takeBits 29 = .ok (.iconst 5, 1) := by decide +kernel
theorem dX3_takeBits_30 : decode cX3_takeBits 30 = .ok (.iload 4, 2) := by decide +kernel
theorem dX3_takeBits_32 : decode cX3_takeBits 32 = .ok (.imul, 1) := by decide +kernel
theorem dX3_takeBits_33 : decode cX3_takeBits 33 = .ok (.lushr, 1) := by decide +kernel
theorem dX3_takeBits_34 : decode cX3_takeBits 34 = .ok (.l2i, 1) := by decide +kernel
theorem dX3_takeBits_35 : decode cX3_takeBits 35 = .ok (.bipush 31, 2) := by decide +kernel
theorem dX3_takeBits_37 : decode cX3_takeBits 37 = .ok (.iand, 1) := by decide +kernel
theorem dX3_takeBits_38 : decode cX3_takeBits 38 = .ok (.istore 5, 2) := by decide +kernel
theorem dX3_takeBits_40 : decode cX3_takeBits 40 = .ok (.iload 5, 2) := by decide +kernel
theorem dX3_takeBits_42 : decode cX3_takeBits 42 = .ok (.aload_n 0, 1) := by decide +kernel
theorem dX3_takeBits_43 : decode cX3_takeBits 43 = .ok (.getfield 26, 3) := by decide +kernel
theorem dX3_takeBits_46 : decode cX3_takeBits 46 = .ok (.iload 4, 2) := by decide +kernel
theorem dX3_takeBits_48 : decode cX3_takeBits 48 = .ok (.iaload, 1) := by decide +kernel
theorem dX3_takeBits_49 : decode cX3_takeBits 49 = .ok (.if_icmp .lt 5, 3) := by decide +kernel
theorem dX3_takeBits_52 : decode cX3_takeBits 52 = .ok (.iconst 0, 1) := by decide +kernel
theorem dX3_takeBits_53 : decode cX3_takeBits 53 = .ok (.ireturn, 1) := by decide +kernel
theorem dX3_takeBits_54 : decode cX3_takeBits 54 = .ok (.aload_n 3, 1) := by decide +kernel
theorem dX3_takeBits_55 : decode cX3_takeBits 55 = .ok (.iload 4, 2) := by decide +kernel
theorem dX3_takeBits_57 : decode cX3_takeBits 57 = .ok (.iload 5, 2) := by decide +kernel
theorem dX3_takeBits_59 : decode cX3_takeBits 59 = .ok (.iastore, 1) := by decide +kernel
theorem dX3_takeBits_60 : decode cX3_takeBits 60 = .ok (.iinc 4 1, 3) := by decide +kernel
theorem dX3_takeBits_63 : decode cX3_takeBits 63 = .ok (.goto (-60), 3) := by decide +kernel
theorem dX3_takeBits_66 : decode cX3_takeBits 66 = .ok (.iconst 1, 1) := by decide +kernel
theorem dX3_takeBits_67 : decode cX3_takeBits 67 = .ok (.ireturn, 1) := by decide +kernel
set_option maxRecDepth 20000 in
theorem ggX3_pickEach_X3_isThere : GoodIn wsX3_pickEach wsX3_isThere := goodIn_r _ [7, 8, 9, 10, 11, 6, 12, 32, 33, 34, 35, 36, 37, 38, 39, 40] (by decide +kernel) (by decide +kernel)
set_option maxRecDepth 20000 in
theorem gX3_pickEach_X3_isThere : GoodIn wsX3_pickEach (wsV RX3 65 RX3 yX3_isThere wsX3_isThere) := goodIn_app (goodIn_of _ (by decide +kernel)) ggX3_pickEach_X3_isThere
set_option maxRecDepth 20000 in
theorem ggX3_pickEach_X2_hash : GoodIn wsX3_pickEach wsX2_hash := goodIn_r _ [16, 17, 18, 19] (by decide +kernel) (by decide +kernel)
set_option maxRecDepth 20000 in
theorem gX3_pickEach_X2_hash : GoodIn wsX3_pickEach (va_wsS RX3 73 yX2_hash wsX2_hash) := goodIn_app (goodIn_of _ (by decide +kernel)) ggX3_pickEach_X2_hash
set_option maxRecDepth 20000 in
theorem ggX3_pickEach_X2_pick : GoodIn wsX3_pickEach wsX2_pick := goodIn_r _ [22, 23, 24, 25, 15, 26, 27, 28, 29, 30, 31, 14, 16, 17, 18, 19] (by decide +kernel) (by decide +kernel)
set_option maxRecDepth 20000 in
theorem gX3_pickEach_X2_pick : GoodIn wsX3_pickEach (va_wsS RX3 79 yX2_pick wsX2_pick) := goodIn_app (goodIn_of _ (by decide +kernel)) ggX3_pickEach_X2_pick
theorem dX3_pickEach_0 : decode cX3_pickEach 0 = .ok (.iconst 0, 1) := by decide +kernel
theorem dX3_pickEach_1 : decode cX3_pickEach 1 = .ok (.istore_n 3, 1) := by decide +kernel
theorem dX3_pickEach_2 : decode cX3_pickEach 2 = .ok (.iload_n 3, 1) := by decide +kernel
theorem dX3_pickEach_3 : decode cX3_pickEach 3 = .ok (.aload_n 0, 1) := by decide +kernel
theorem dX3_pickEach_4 : decode cX3_pickEach 4 = .ok (.getfield 9, 3) := by decide +kernel
theorem dX3_pickEach_7 : decode cX3_pickEach 7 = .ok (.if_icmp .ge 42, 3) := by decide +kernel
theorem dX3_pickEach_10 : decode cX3_pickEach 10 = .ok (.aload_n 2, 1) := by decide +kernel
theorem dX3_pickEach_11 : decode cX3_pickEach 11 = .ok (.iload_n 3, 1) := by decide +kernel
theorem dX3_pickEach_12 : decode cX3_pickEach 12 = .ok (.bipush (-2), 2) := by decide +kernel
theorem dX3_pickEach_14 : decode cX3_pickEach 14 = .ok (.iastore, 1) := by decide +kernel
theorem dX3_pickEach_15 : decode cX3_pickEach 15 = .ok (.aload_n 0, 1) := by decide +kernel
theorem dX3_pickEach_16 : decode cX3_pickEach 16 = .ok (.iload_n 3, 1) := by decide +kernel
theorem dX3_pickEach_17 : decode cX3_pickEach 17 = .ok (.aload_n 2, 1) := by decide +kernel
theorem dX3_pickEach_18 : decode cX3_pickEach 18 = .ok (.invokevirtual 65, 3) := by decide +kernel
theorem dX3_pickEach_21 : decode cX3_pickEach 21 = .ok (.ifCond .eq 22, 3) := by decide +kernel
theorem dX3_pickEach_24 : decode cX3_pickEach 24 = .ok (.aload_n 2, 1) := by decide +kernel
theorem dX3_pickEach_25 : decode cX3_pickEach 25 = .ok (.iload_n 3, 1) := by decide +kernel
theorem dX3_pickEach_26 : decode cX3_pickEach 26 = .ok (.aload_n 0, 1) := by decide +kernel
theorem dX3_pickEach_27 : decode cX3_pickEach 27 = .ok (.getfield 26, 3) := by decide +kernel
theorem dX3_pickEach_30 : decode cX3_pickEach 30 = .ok (.iload_n 3, 1) := by decide +kernel
theorem dX3_pickEach_31 : decode cX3_pickEach 31 = .ok (.iaload, 1) := by decide +kernel
theorem dX3_pickEach_32 : decode cX3_pickEach 32 = .ok (.i2l, 1) := by decide +kernel
theorem dX3_pickEach_33 : decode cX3_pickEach 33 = .ok (.iload_n 1, 1) := by decide +kernel
theorem dX3_pickEach_34 : decode cX3_pickEach 34 = .ok (.iload_n 3, 1) := by decide +kernel
theorem dX3_pickEach_35 : decode cX3_pickEach 35 = .ok (.invokestatic 73, 3) := by decide +kernel
theorem dX3_pickEach_38 : decode cX3_pickEach 38 = .ok (.invokestatic 79, 3) := by decide +kernel
theorem dX3_pickEach_41 : decode cX3_pickEach 41 = .ok (.l2i, 1) := by decide +kernel
theorem dX3_pickEach_42 : decode cX3_pickEach 42 = .ok (.iastore, 1) := by decide +kernel
theorem dX3_pickEach_43 : decode cX3_pickEach 43 = .ok (.iinc 3 1, 3) := by decide +kernel
theorem dX3_pickEach_46 : decode cX3_pickEach 46 = .ok (.goto (-44), 3) := by decide +kernel
theorem dX3_pickEach_49 : decode cX3_pickEach 49 = .ok (.return_, 1) := by decide +kernel
set_option maxRecDepth 20000 in
theorem ggX3_apart_X3_apartAt : GoodIn wsX3_apart wsX3_apartAt := goodIn_r _ [6, 7, 8, 9, 10, 11, 12, 13, 14, 15, 16, 17, 18, 19, 20, 21, 22, 23] (by decide +kernel) (by decide +kernel)
set_option maxRecDepth 20000 in
theorem gX3_apart_X3_apartAt : GoodIn wsX3_apart (wsV RX3 83 RX3 yX3_apartAt wsX3_apartAt) := goodIn_app (goodIn_of _ (by decide +kernel)) ggX3_apart_X3_apartAt
theorem dX3_apart_0 : decode cX3_apart 0 = .ok (.iconst 0, 1) := by decide +kernel
theorem dX3_apart_1 : decode cX3_apart 1 = .ok (.istore_n 3, 1) := by decide +kernel
theorem dX3_apart_2 : decode cX3_apart 2 = .ok (.iconst 0, 1) := by decide +kernel
theorem dX3_apart_3 : decode cX3_apart 3 = .ok (.istore 4, 2) := by decide +kernel
theorem dX3_apart_5 : decode cX3_apart 5 = .ok (.iload 4, 2) := by decide +kernel
theorem dX3_apart_7 : decode cX3_apart 7 = .ok (.aload_n 0, 1) := by decide +kernel
theorem dX3_apart_8 : decode cX3_apart 8 = .ok (.getfield 9, 3) := by decide +kernel
theorem dX3_apart_11 : decode cX3_apart 11 = .ok (.if_icmp .ge 26, 3) := by decide +kernel
theorem dX3_apart_14 : decode cX3_apart 14 = .ok (.iload_n 3, 1) := by decide +kernel
theorem dX3_apart_15 : decode cX3_apart 15 = .ok (.aload_n 0, 1) := by decide +kernel
theorem dX3_apart_16 : decode cX3_apart 16 = .ok (.iload 4, 2) := by decide +kernel
theorem dX3_apart_18 : decode cX3_apart 18 = .ok (.aload_n 1, 1) := by decide +kernel
theorem dX3_apart_19 : decode cX3_apart 19 = .ok (.iload 4, 2) := by decide +kernel
theorem dX3_apart_21 : decode cX3_apart 21 = .ok (.iaload, 1) := by decide +kernel
theorem dX3_apart_22 : decode cX3_apart 22 = .ok (.aload_n 2, 1) := by decide +kernel
theorem dX3_apart_23 : decode cX3_apart 23 = .ok (.iload 4, 2) := by decide +kernel
theorem dX3_apart_25 : decode cX3_apart 25 = .ok (.iaload, 1) := by decide +kernel
theorem dX3_apart_26 : decode cX3_apart 26 = .ok (.invokevirtual 83, 3) := by decide +kernel
theorem dX3_apart_29 : decode cX3_apart 29 = .ok (.iadd, 1) := by decide +kernel
theorem dX3_apart_30 : decode cX3_apart 30 = .ok (.istore_n 3, 1) := by decide +kernel
theorem dX3_apart_31 : decode cX3_apart 31 = .ok (.iinc 4 1, 3) := by decide +kernel
theorem dX3_apart_34 : decode cX3_apart 34 = .ok (.goto (-29), 3) := by decide +kernel
theorem dX3_apart_37 : decode cX3_apart 37 = .ok (.iload_n 3, 1) := by decide +kernel
theorem dX3_apart_38 : decode cX3_apart 38 = .ok (.ireturn, 1) := by decide +kernel
set_option maxRecDepth 20000 in
theorem ggX3_apartAt_X5_cut : GoodIn wsX3_apartAt wsX5_cut := goodIn_r _ [8] (by decide +kernel) (by decide +kernel)
set_option maxRecDepth 20000 in
theorem gX3_apartAt_X5_cut_n69 : GoodIn wsX3_apartAt (wsX5_cut) := ggX3_apartAt_X5_cut
theorem dX3_apartAt_0 : decode cX3_apartAt 0 = .ok (.iload_n 2, 1) := by decide +kernel
theorem dX3_apartAt_1 : decode cX3_apartAt 1 = .ok (.iload_n 3, 1) := by decide +kernel
theorem dX3_apartAt_2 : decode cX3_apartAt 2 = .ok (.if_icmp .ne 5, 3) := by decide +kernel
theorem dX3_apartAt_5 : decode cX3_apartAt 5 = .ok (.iconst 0, 1) := by decide +kernel
theorem dX3_apartAt_6 : decode cX3_apartAt 6 = .ok (.ireturn, 1) := by decide +kernel
theorem dX3_apartAt_7 : decode cX3_apartAt 7 = .ok (.iload_n 2, 1) := by decide +kernel
theorem dX3_apartAt_8 : decode cX3_apartAt 8 = .ok (.ifCond .lt 7, 3) := by decide +kernel
theorem dX3_apartAt_11 : decode cX3_apartAt 11 = .ok (.iload_n 3, 1) := by decide +kernel
theorem dX3_apartAt_12 : decode cX3_apartAt 12 = .ok (.ifCond .ge 6, 3) := by decide +kernel
theorem dX3_apartAt_15 : decode cX3_apartAt 15 = .ok (.bipush 30, 2) := by decide +kernel
theorem dX3_apartAt_17 : decode cX3_apartAt 17 = .ok (.ireturn, 1) := by decide +kernel
theorem dX3_apartAt_18 : decode cX3_apartAt 18 = .ok (.iload_n 2, 1) := by decide +kernel
theorem dX3_apartAt_19 : decode cX3_apartAt 19 = .ok (.iload_n 3, 1) := by decide +kernel
theorem dX3_apartAt_20 : decode cX3_apartAt 20 = .ok (.isub, 1) := by decide +kernel
theorem dX3_apartAt_21 : decode cX3_apartAt 21 = .ok (.invokestatic 87, 3) := by decide +kernel
theorem dX3_apartAt_24 : decode cX3_apartAt 24 = .ok (.bipush 30, 2) := by decide +kernel
theorem dX3_apartAt_26 : decode cX3_apartAt 26 = .ok (.imul, 1) := by decide +kernel
theorem dX3_apartAt_27 : decode cX3_apartAt 27 = .ok (.i2l, 1) := by decide +kernel
theorem dX3_apartAt_28 : decode cX3_apartAt 28 = .ok (.aload_n 0, 1) := by decide +kernel
theorem dX3_apartAt_29 : decode cX3_apartAt 29 = .ok (.getfield 26, 3) := by decide +kernel
theorem dX3_apartAt_32 : decode cX3_apartAt 32 = .ok (.iload_n 1, 1) := by decide +kernel
theorem dX3_apartAt_33 : decode cX3_apartAt 33 = .ok (.iaload, 1) := by decide +kernel
theorem dX3_apartAt_34 : decode cX3_apartAt 34 = .ok (.i2l, 1) := by decide +kernel
theorem dX3_apartAt_35 : decode cX3_apartAt 35 = .ok (.invokestatic 69, 3) := by decide +kernel
theorem dX3_apartAt_38 : decode cX3_apartAt 38 = .ok (.l2i, 1) := by decide +kernel
theorem dX3_apartAt_39 : decode cX3_apartAt 39 = .ok (.ireturn, 1) := by decide +kernel
end
section
theorem dX4_init_0 : decode cX4_init 0 = .ok (.aload_n 0, 1) := by decide +kernel
theorem dX4_init_1 : decode cX4_init 1 = .ok (.invokespecial 3, 3) := by decide +kernel
theorem dX4_init_4 : decode cX4_init 4 = .ok (.aload_n 0, 1) := by decide +kernel
theorem dX4_init_5 : decode cX4_init 5 = .ok (.iconst 0, 1) := by decide +kernel
theorem dX4_init_6 : decode cX4_init 6 = .ok (.putfield 9, 3) := by decide +kernel
theorem dX4_init_9 : decode cX4_init 9 = .ok (.aload_n 0, 1) := by decide +kernel
theorem dX4_init_10 : decode cX4_init 10 = .ok (.iconst 0, 1) := by decide +kernel
theorem dX4_init_11 : decode cX4_init 11 = .ok (.putfield 15, 3) := by decide +kernel
theorem dX4_init_14 : decode cX4_init 14 = .ok (.aload_n 0, 1) := by decide +kernel
theorem dX4_init_15 : decode cX4_init 15 = .ok (.bipush 60, 2) := by decide +kernel
theorem dX4_init_17 : decode cX4_init 17 = .ok (.newarray .long, 2) := by decide +kernel
theorem dX4_init_19 : decode cX4_init 19 = .ok (.putfield 18, 3) := by decide +kernel
theorem dX4_init_22 : decode cX4_init 22 = .ok (.aload_n 0, 1) := by decide +kernel
theorem dX4_init_23 : decode cX4_init 23 = .ok (.bipush 60, 2) := by decide +kernel
theorem dX4_init_25 : decode cX4_init 25 = .ok (.newarray .int, 2) := by decide +kernel
theorem dX4_init_27 : decode cX4_init 27 = .ok (.putfield 22, 3) := by decide +kernel
theorem dX4_init_30 : decode cX4_init 30 = .ok (.aload_n 0, 1) := by decide +kernel
theorem dX4_init_31 : decode cX4_init 31 = .ok (.bipush 60, 2) := by decide +kernel
theorem dX4_init_33 : decode cX4_init 33 = .ok (.newarray .int, 2) := by decide +kernel
theorem dX4_init_35 : decode cX4_init 35 = .ok (.putfield 26, 3) := by decide +kernel
theorem dX4_init_38 : decode cX4_init 38 = .ok (.aload_n 0, 1) := by decide +kernel
theorem dX4_init_39 : decode cX4_init 39 = .ok (.bipush 60, 2) := by decide +kernel
theorem dX4_init_41 : decode cX4_init 41 = .ok (.newarray .int, 2) := by decide +kernel
theorem dX4_init_43 : decode cX4_init 43 = .ok (.putfield 29, 3) := by decide +kernel
theorem dX4_init_46 : decode cX4_init 46 = .ok (.aload_n 0, 1) := by decide +kernel
theorem dX4_init_47 : decode cX4_init 47 = .ok (.bipush 60, 2) := by decide +kernel
theorem dX4_init_49 : decode cX4_init 49 = .ok (.bipush 20, 2) := by decide +kernel
theorem dX4_init_51 : decode cX4_init 51 = .ok (.multianewarray 32 2, 4) := by decide +kernel
theorem dX4_init_55 : decode cX4_init 55 = .ok (.putfield 34, 3) := by decide +kernel
theorem dX4_init_58 : decode cX4_init 58 = .ok (.aload_n 0, 1) := by decide +kernel
theorem dX4_init_59 : decode cX4_init 59 = .ok (.aload_n 1, 1) := by decide +kernel
theorem dX4_init_60 : decode cX4_init 60 = .ok (.putfield 37, 3) := by decide +kernel
theorem dX4_init_63 : decode cX4_init 63 = .ok (.aload_n 0, 1) := by decide +kernel
theorem dX4_init_64 : decode cX4_init 64 = .ok (.bipush 60, 2) := by decide +kernel
theorem dX4_init_66 : decode cX4_init 66 = .ok (.bipush 8, 2) := by decide +kernel
theorem dX4_init_68 : decode cX4_init 68 = .ok (.multianewarray 32 2, 4) := by decide +kernel
theorem dX4_init_72 : decode cX4_init 72 = .ok (.putfield 41, 3) := by decide +kernel
theorem dX4_init_75 : decode cX4_init 75 = .ok (.aload_n 0, 1) := by decide +kernel
theorem dX4_init_76 : decode cX4_init 76 = .ok (.iconst 5, 1) := by decide +kernel
theorem dX4_init_77 : decode cX4_init 77 = .ok (.newarray .int, 2) := by decide +kernel
theorem dX4_init_79 : decode cX4_init 79 = .ok (.putfield 44, 3) := by decide +kernel
theorem dX4_init_82 : decode cX4_init 82 = .ok (.aload_n 0, 1) := by decide +kernel
theorem dX4_init_83 : decode cX4_init 83 = .ok (.iconst 5, 1) := by decide +kernel
theorem dX4_init_84 : decode cX4_init 84 = .ok (.newarray .int, 2) := by decide +kernel
theorem dX4_init_86 : decode cX4_init 86 = .ok (.putfield 47, 3) := by decide +kernel
theorem dX4_init_89 : decode cX4_init 89 = .ok (.aload_n 0, 1) := by decide +kernel
theorem dX4_init_90 : decode cX4_init 90 = .ok (.bipush 60, 2) := by decide +kernel
theorem dX4_init_92 : decode cX4_init 92 = .ok (.newarray .int, 2) := by decide +kernel
theorem dX4_init_94 : decode cX4_init 94 = .ok (.putfield 50, 3) := by decide +kernel
theorem dX4_init_97 : decode cX4_init 97 = .ok (.return_, 1) := by decide +kernel
set_option maxRecDepth 20000 in
theorem ggX4_add_X3_read : GoodIn wsX4_add wsX3_read := goodIn_r _ [10, 11, 12, 13, 14, 15, 16, 17, 18, 9, 19, 20, 21, 22, 23, 24, 25, 26, 27, 40, 41, 42, 43, 44, 45, 46, 47, 48] (by decide +kernel) (by decide +kernel)
set_option maxRecDepth 20000 in
theorem gX4_add_X3_read : GoodIn wsX4_add (wsV RX4 53 RX3 yX3_read wsX3_read) := goodIn_app (goodIn_of _ (by decide +kernel)) ggX4_add_X3_read
theorem dX4_add_0 : decode cX4_add 0 = .ok (.aload_n 0, 1) := by decide +kernel
theorem dX4_add_1 : decode cX4_add 1 = .ok (.getfield 9, 3) := by decide +kernel
theorem dX4_add_4 : decode cX4_add 4 = .ok (.istore_n 3, 1) := by decide +kernel
theorem dX4_add_5 : decode cX4_add 5 = .ok (.aload_n 0, 1) := by decide +kernel
theorem dX4_add_6 : decode cX4_add 6 = .ok (.getfield 18, 3) := by decide +kernel
theorem dX4_add_9 : decode cX4_add 9 = .ok (.iload_n 3, 1) := by decide +kernel
theorem dX4_add_10 : decode cX4_add 10 = .ok (.lload_n 1, 1) := by decide +kernel
theorem dX4_add_11 : decode cX4_add 11 = .ok (.lastore, 1) := by decide +kernel
theorem dX4_add_12 : decode cX4_add 12 = .ok (.aload_n 0, 1) := by decide +kernel
theorem dX4_add_13 : decode cX4_add 13 = .ok (.getfield 22, 3) := by decide +kernel
theorem dX4_add_16 : decode cX4_add 16 = .ok (.iload_n 3, 1) := by decide +kernel
theorem dX4_add_17 : decode cX4_add 17 = .ok (.iconst 0, 1) := by decide +kernel
theorem dX4_add_18 : decode cX4_add 18 = .ok (.iastore, 1) := by decide +kernel
theorem dX4_add_19 : decode cX4_add 19 = .ok (.aload_n 0, 1) := by decide +kernel
theorem dX4_add_20 : decode cX4_add 20 = .ok (.getfield 37, 3) := by decide +kernel
theorem dX4_add_23 : decode cX4_add 23 = .ok (.lload_n 1, 1) := by decide +kernel
theorem dX4_add_24 : decode cX4_add 24 = .ok (.aload_n 0, 1) := by decide +kernel
theorem dX4_add_25 : decode cX4_add 25 = .ok (.getfield 41, 3) := by decide +kernel
theorem dX4_add_28 : decode cX4_add 28 = .ok (.iload_n 3, 1) := by decide +kernel
theorem dX4_add_29 : decode cX4_add 29 = .ok (.aaload, 1) := by decide +kernel
theorem dX4_add_30 : decode cX4_add 30 = .ok (.invokevirtual 53, 3) := by decide +kernel
theorem dX4_add_33 : decode cX4_add 33 = .ok (.aload_n 0, 1) := by decide +kernel
theorem dX4_add_34 : decode cX4_add 34 = .ok (.dup, 1) := by decide +kernel
theorem dX4_add_35 : decode cX4_add 35 = .ok (.getfield 9, 3) := by decide +kernel
theorem dX4_add_38 : decode cX4_add 38 = .ok (.iconst 1, 1) := by decide +kernel
theorem dX4_add_39 : decode cX4_add 39 = .ok (.iadd, 1) := by decide +kernel
theorem dX4_add_40 : decode cX4_add 40 = .ok (.putfield 9, 3) := by decide +kernel
theorem dX4_add_43 : decode cX4_add 43 = .ok (.iload_n 3, 1) := by decide +kernel
theorem dX4_add_44 : decode cX4_add 44 = .ok (.ireturn, 1) := by decide +kernel
set_option maxRecDepth 20000 in
theorem ggX4_bestCandidate_X2_hash : GoodIn wsX4_bestCandidate wsX2_hash := goodIn_r _ [7, 8, 9, 10] (by decide +kernel) (by decide +kernel)
set_option maxRecDepth 20000 in
theorem gX4_bestCandidate_X2_hash : GoodIn wsX4_bestCandidate (va_wsS RX4 63 yX2_hash wsX2_hash) := goodIn_app (goodIn_of _ (by decide +kernel)) ggX4_bestCandidate_X2_hash
set_option maxRecDepth 20000 in
theorem ggX4_bestCandidate_X2_pick : GoodIn wsX4_bestCandidate wsX2_pick := goodIn_r _ [13, 14, 15, 16, 6, 17, 18, 19, 20, 21, 22, 5, 7, 8, 9, 10] (by decide +kernel) (by decide +kernel)
set_option maxRecDepth 20000 in
theorem gX4_bestCandidate_X2_pick : GoodIn wsX4_bestCandidate (va_wsS RX4 69 yX2_pick wsX2_pick) := goodIn_app (goodIn_of _ (by decide +kernel)) ggX4_bestCandidate_X2_pick
set_option maxRecDepth 20000 in
theorem ggX4_bestCandidate_X4_nearSum : GoodIn wsX4_bestCandidate wsX4_nearSum := goodIn_r _ [27, 1, 28, 29, 30, 31, 32, 33, 34, 35, 36, 37, 38, 39, 40, 41, 42, 43, 44, 45, 46, 47, 48, 49, 50, 51, 52, 53, 54, 55, 56, 57, 58, 59, 60, 61, 62, 63, 64, 65, 66, 67, 68, 69, 70, 26, 71, 72, 73, 74, 75, 76, 77, 78, 79, 80, 81, 82, 83, 84, 85, 86, 87, 88, 89, 90, 91, 92, 93, 94, 95, 96] (by decide +kernel) (by decide +kernel)
set_option maxRecDepth 20000 in
theorem gX4_bestCandidate_X4_nearSum : GoodIn wsX4_bestCandidate (wsV RX4 73 RX4 yX4_nearSum wsX4_nearSum) := goodIn_app (goodIn_of _ (by decide +kernel)) ggX4_bestCandidate_X4_nearSum
theorem dX4_bestCandidate_0 : decode cX4_bestCandidate 0 = .ok (.aload_n 0, 1) := by decide +kernel
theorem dX4_bestCandidate_1 : decode cX4_bestCandidate 1 = .ok (.getfield 37, 3) := by decide +kernel
theorem dX4_bestCandidate_4 : decode cX4_bestCandidate 4 = .ok (.getfield 59, 3) := by decide +kernel
theorem dX4_bestCandidate_7 : decode cX4_bestCandidate 7 = .ok (.iload_n 1, 1) := by decide +kernel
theorem dX4_bestCandidate_8 : decode cX4_bestCandidate 8 = .ok (.iconst 0, 1) := by decide +kernel
theorem dX4_bestCandidate_9 : decode cX4_bestCandidate 9 = .ok (.invokestatic 63, 3) := by decide +kernel
theorem dX4_bestCandidate_12 : decode cX4_bestCandidate 12 = .ok (.invokestatic 69, 3) := by decide +kernel
theorem dX4_bestCandidate_15 : decode cX4_bestCandidate 15 = .ok (.lstore 4, 2) := by decide +kernel
theorem dX4_bestCandidate_17 : decode cX4_bestCandidate 17 = .ok (.aload_n 0, 1) := by decide +kernel
theorem dX4_bestCandidate_18 : decode cX4_bestCandidate 18 = .ok (.getfield 15, 3) := by decide +kernel
theorem dX4_bestCandidate_21 : decode cX4_bestCandidate 21 = .ok (.ifCond .ne 6, 3) := by decide +kernel
theorem dX4_bestCandidate_24 : decode cX4_bestCandidate 24 = .ok (.lload 4, 2) := by decide +kernel
theorem dX4_bestCandidate_26 : decode cX4_bestCandidate 26 = .ok (.lreturn, 1) := by decide +kernel
theorem dX4_bestCandidate_27 : decode cX4_bestCandidate 27 = .ok (.aload_n 0, 1) := by decide +kernel
theorem dX4_bestCandidate_28 : decode cX4_bestCandidate 28 = .ok (.lload 4, 2) := by decide +kernel
theorem dX4_bestCandidate_30 : decode cX4_bestCandidate 30 = .ok (.iload_n 3, 1) := by decide +kernel
theorem dX4_bestCandidate_31 : decode cX4_bestCandidate 31 = .ok (.invokevirtual 73, 3) := by decide +kernel
theorem dX4_bestCandidate_34 : decode cX4_bestCandidate 34 = .ok (.lstore 6, 2) := by decide +kernel
theorem dX4_bestCandidate_36 : decode cX4_bestCandidate 36 = .ok (.iconst 1, 1) := by decide +kernel
theorem dX4_bestCandidate_37 : decode cX4_bestCandidate 37 = .ok (.istore 8, 2) := by decide +kernel
theorem dX4_bestCandidate_39 : decode cX4_bestCandidate 39 = .ok (.iload 8, 2) := by decide +kernel
theorem dX4_bestCandidate_41 : decode cX4_bestCandidate 41 = .ok (.iload_n 2, 1) := by decide +kernel
theorem dX4_bestCandidate_42 : decode cX4_bestCandidate 42 = .ok (.if_icmp .ge 52, 3) := by decide +kernel
theorem dX4_bestCandidate_45 : decode cX4_bestCandidate 45 = .ok (.aload_n 0, 1) := by decide +kernel
theorem dX4_bestCandidate_46 : decode cX4_bestCandidate 46 = .ok (.getfield 37, 3) := by decide +kernel
theorem dX4_bestCandidate_49 : decode cX4_bestCandidate 49 = .ok (.getfield 59, 3) := by decide +kernel
theorem dX4_bestCandidate_52 : decode cX4_bestCandidate 52 = .ok (.iload_n 1, 1) := by decide +kernel
theorem dX4_bestCandidate_53 : decode cX4_bestCandidate 53 = .ok (.iload 8, 2) := by decide +kernel
theorem dX4_bestCandidate_55 : decode cX4_bestCandidate 55 = .ok (.invokestatic 63, 3) := by decide +kernel
theorem dX4_bestCandidate_58 : decode cX4_bestCandidate 58 = .ok (.invokestatic 69, 3) := by decide +kernel
theorem dX4_bestCandidate_61 : decode cX4_bestCandidate 61 = .ok (.lstore 9, 2) := by decide +kernel
theorem dX4_bestCandidate_63 : decode cX4_bestCandidate 63 = .ok (.aload_n 0, 1) := by decide +kernel
theorem dX4_bestCandidate_64 : decode cX4_bestCandidate 64 = .ok (.lload 9, 2) := by decide +kernel
theorem dX4_bestCandidate_66 : decode cX4_bestCandidate 66 = .ok (.iload_n 3, 1) := by decide +kernel
theorem dX4_bestCandidate_67 : decode cX4_bestCandidate 67 = .ok (.invokevirtual 73, 3) := by decide +kernel
theorem dX4_bestCandidate_70 : decode cX4_bestCandidate 70 = .ok (.lstore 11, 2) := by decide +kernel
theorem dX4_bestCandidate_72 : decode cX4_bestCandidate 72 = .ok (.lload 11, 2) := by decide +kernel
theorem dX4_bestCandidate_74 : decode cX4_bestCandidate 74 = .ok (.lload 6, 2) := by decide +kernel
theorem dX4_bestCandidate_76 : decode cX4_bestCandidate 76 = .ok (.lcmp, 1) := by decide +kernel
theorem dX4_bestCandidate_77 : decode cX4_bestCandidate 77 = .ok (.ifCond .le 11, 3) := by decide +kernel
theorem dX4_bestCandidate_80 : decode cX4_bestCandidate 80 = .ok (.lload 9, 2) := by decide +kernel
theorem dX4_bestCandidate_82 : decode cX4_bestCandidate 82 = .ok (.lstore 4, 2) := by decide +kernel
theorem dX4_bestCandidate_84 : decode cX4_bestCandidate 84 = .ok (.lload 11, 2) := by decide +kernel
theorem dX4_bestCandidate_86 : decode cX4_bestCandidate 86 = .ok (.lstore 6, 2) := by decide +kernel
theorem dX4_bestCandidate_88 : decode cX4_bestCandidate 88 = .ok (.iinc 8 1, 3) := by decide +kernel
theorem dX4_bestCandidate_91 : decode cX4_bestCandidate 91 = .ok (.goto (-52), 3) := by decide +kernel
theorem dX4_bestCandidate_94 : decode cX4_bestCandidate 94 = .ok (.lload 4, 2) := by decide +kernel
theorem dX4_bestCandidate_96 : decode cX4_bestCandidate 96 = .ok (.lreturn, 1) := by decide +kernel
set_option maxRecDepth 20000 in
theorem ggX4_nearSum_X3_read : GoodIn wsX4_nearSum wsX3_read := goodIn_r _ [12, 13, 14, 15, 16, 17, 18, 19, 20, 11, 21, 22, 23, 24, 25, 26, 27, 28, 29, 63, 64, 65, 66, 67, 68, 69, 70, 71] (by decide +kernel) (by decide +kernel)
set_option maxRecDepth 20000 in
theorem gX4_nearSum_X3_read : GoodIn wsX4_nearSum (wsV RX4 53 RX3 yX3_read wsX3_read) := goodIn_app (goodIn_of _ (by decide +kernel)) ggX4_nearSum_X3_read
set_option maxRecDepth 20000 in
theorem ggX4_nearSum_X3_apart : GoodIn wsX4_nearSum wsX3_apart := goodIn_r _ [33, 14, 34, 35, 36, 11, 37, 38, 39, 40, 41, 16, 27, 28, 29, 63, 64, 65, 66, 67, 68, 69, 70, 71] (by decide +kernel) (by decide +kernel)
set_option maxRecDepth 20000 in
theorem gX4_nearSum_X3_apart : GoodIn wsX4_nearSum (wsV RX4 79 RX3 yX3_apart wsX3_apart) := goodIn_app (goodIn_of _ (by decide +kernel)) ggX4_nearSum_X3_apart
set_option maxRecDepth 20000 in
theorem ggX4_nearSum_X4_holdNear : GoodIn wsX4_nearSum wsX4_holdNear := goodIn_r _ [46, 47, 48, 49, 40, 50, 7, 51, 52, 53, 54, 55, 56, 57, 58, 59, 60, 61, 62] (by decide +kernel) (by decide +kernel)
set_option maxRecDepth 20000 in
theorem gX4_nearSum_X4_holdNear : GoodIn wsX4_nearSum (wsV RX4 83 RX4 yX4_holdNear wsX4_holdNear) := goodIn_app (goodIn_of _ (by decide +kernel)) ggX4_nearSum_X4_holdNear
theorem dX4_nearSum_0 : decode cX4_nearSum 0 = .ok (.aload_n 0, 1) := by decide +kernel
theorem dX4_nearSum_1 : decode cX4_nearSum 1 = .ok (.getfield 37, 3) := by decide +kernel
theorem dX4_nearSum_4 : decode cX4_nearSum 4 = .ok (.lload_n 1, 1) := by decide +kernel
theorem dX4_nearSum_5 : decode cX4_nearSum 5 = .ok (.aload_n 0, 1) := by decide +kernel
theorem dX4_nearSum_6 : decode cX4_nearSum 6 = .ok (.getfield 37, 3) := by decide +kernel
theorem dX4_nearSum_9 : decode cX4_nearSum 9 = .ok (.getfield 76, 3) := by decide +kernel
theorem dX4_nearSum_12 : decode cX4_nearSum 12 = .ok (.invokevirtual 53, 3) := by decide +kernel
theorem dX4_nearSum_15 : decode cX4_nearSum 15 = .ok (.iconst 0, 1) := by decide +kernel
theorem dX4_nearSum_16 : decode cX4_nearSum 16 = .ok (.istore 4, 2) := by decide +kernel
theorem dX4_nearSum_18 : decode cX4_nearSum 18 = .ok (.iconst 0, 1) := by decide +kernel
theorem dX4_nearSum_19 : decode cX4_nearSum 19 = .ok (.istore 5, 2) := by decide +kernel
theorem dX4_nearSum_21 : decode cX4_nearSum 21 = .ok (.iload 5, 2) := by decide +kernel
theorem dX4_nearSum_23 : decode cX4_nearSum 23 = .ok (.aload_n 0, 1) := by decide +kernel
theorem dX4_nearSum_24 : decode cX4_nearSum 24 = .ok (.getfield 9, 3) := by decide +kernel
theorem dX4_nearSum_27 : decode cX4_nearSum 27 = .ok (.if_icmp .ge 57, 3) := by decide +kernel
theorem dX4_nearSum_30 : decode cX4_nearSum 30 = .ok (.aload_n 0, 1) := by decide +kernel
theorem dX4_nearSum_31 : decode cX4_nearSum 31 = .ok (.getfield 22, 3) := by decide +kernel
theorem dX4_nearSum_34 : decode cX4_nearSum 34 = .ok (.iload 5, 2) := by decide +kernel
theorem dX4_nearSum_36 : decode cX4_nearSum 36 = .ok (.iaload, 1) := by decide +kernel
theorem dX4_nearSum_37 : decode cX4_nearSum 37 = .ok (.iconst 1, 1) := by decide +kernel
theorem dX4_nearSum_38 : decode cX4_nearSum 38 = .ok (.if_icmp .ne 40, 3) := by decide +kernel
theorem dX4_nearSum_41 : decode cX4_nearSum 41 = .ok (.aload_n 0, 1) := by decide +kernel
theorem dX4_nearSum_42 : decode cX4_nearSum 42 = .ok (.aload_n 0, 1) := by decide +kernel
theorem dX4_nearSum_43 : decode cX4_nearSum 43 = .ok (.getfield 37, 3) := by decide +kernel
theorem dX4_nearSum_46 : decode cX4_nearSum 46 = .ok (.aload_n 0, 1) := by decide +kernel
theorem dX4_nearSum_47 : decode cX4_nearSum 47 = .ok (.getfield 37, 3) := by decide +kernel
theorem dX4_nearSum_50 : decode cX4_nearSum 50 = .ok (.getfield 76, 3) := by decide +kernel
theorem dX4_nearSum_53 : decode cX4_nearSum 53 = .ok (.aload_n 0, 1) := by decide +kernel
theorem dX4_nearSum_54 : decode cX4_nearSum 54 = .ok (.getfield 41, 3) := by decide +kernel
theorem dX4_nearSum_57 : decode cX4_nearSum 57 = .ok (.iload 5, 2) := by decide +kernel
theorem dX4_nearSum_59 : decode cX4_nearSum 59 = .ok (.aaload, 1) := by decide +kernel
theorem dX4_nearSum_60 : decode cX4_nearSum 60 = .ok (.invokevirtual 79, 3) := by decide +kernel
theorem dX4_nearSum_63 : decode cX4_nearSum 63 = .ok (.aload_n 0, 1) := by decide +kernel
theorem dX4_nearSum_64 : decode cX4_nearSum 64 = .ok (.getfield 26, 3) := by decide +kernel
theorem dX4_nearSum_67 : decode cX4_nearSum 67 = .ok (.iload 5, 2) := by decide +kernel
theorem dX4_nearSum_69 : decode cX4_nearSum 69 = .ok (.iaload, 1) := by decide +kernel
theorem dX4_nearSum_70 : decode cX4_nearSum 70 = .ok (.iload 4, 2) := by decide +kernel
theorem dX4_nearSum_72 : decode cX4_nearSum 72 = .ok (.iload_n 3, 1) := by decide +kernel
theorem dX4_nearSum_73 : decode cX4_nearSum 73 = .ok (.invokevirtual 83, 3) := by decide +kernel
theorem dX4_nearSum_76 : decode cX4_nearSum 76 = .ok (.istore 4, 2) := by decide +kernel
theorem dX4_nearSum_78 : decode cX4_nearSum 78 = .ok (.iinc 5 1, 3) := by decide +kernel
theorem dX4_nearSum_81 : decode cX4_nearSum 81 = .ok (.goto (-60), 3) := by decide +kernel
theorem dX4_nearSum_84 : decode cX4_nearSum 84 = .ok (.lconst 0, 1) := by decide +kernel
theorem dX4_nearSum_85 : decode cX4_nearSum 85 = .ok (.lstore 5, 2) := by decide +kernel
theorem dX4_nearSum_87 : decode cX4_nearSum 87 = .ok (.iconst 0, 1) := by decide +kernel
theorem dX4_nearSum_88 : decode cX4_nearSum 88 = .ok (.istore 7, 2) := by decide +kernel
theorem dX4_nearSum_90 : decode cX4_nearSum 90 = .ok (.iload 7, 2) := by decide +kernel
theorem dX4_nearSum_92 : decode cX4_nearSum 92 = .ok (.iload 4, 2) := by decide +kernel
theorem dX4_nearSum_94 : decode cX4_nearSum 94 = .ok (.if_icmp .ge 22, 3) := by decide +kernel
theorem dX4_nearSum_97 : decode cX4_nearSum 97 = .ok (.lload 5, 2) := by decide +kernel
theorem dX4_nearSum_99 : decode cX4_nearSum 99 = .ok (.aload_n 0, 1) := by decide +kernel
theorem dX4_nearSum_100 : decode cX4_nearSum 100 = .ok (.getfield 47, 3) := by decide +kernel
theorem dX4_nearSum_103 : decode cX4_nearSum 103 = .ok (.iload 7, 2) := by decide +kernel
theorem dX4_nearSum_105 : decode cX4_nearSum 105 = .ok (.iaload, 1) := by decide +kernel
theorem dX4_nearSum_106 : decode cX4_nearSum 106 = .ok (.i2l, 1) := by decide +kernel
theorem dX4_nearSum_107 : decode cX4_nearSum 107 = .ok (.ladd, 1) := by decide +kernel
theorem dX4_nearSum_108 : decode cX4_nearSum 108 = .ok (.lstore 5, 2) := by decide +kernel
theorem dX4_nearSum_110 : decode cX4_nearSum 110 = .ok (.iinc 7 1, 3) := by decide +kernel
theorem dX4_nearSum_113 : decode cX4_nearSum 113 = .ok (.goto (-23), 3) := by decide +kernel
theorem dX4_nearSum_116 : decode cX4_nearSum 116 = .ok (.lload 5, 2) := by decide +kernel
theorem dX4_nearSum_118 : decode cX4_nearSum 118 = .ok (.lreturn, 1) := by decide +kernel
theorem dX4_holdNear_0 : decode cX4_holdNear 0 = .ok (.iload_n 3, 1) := by decide +kernel
theorem dX4_holdNear_1 : decode cX4_holdNear 1 = .ok (.istore 5, 2) := by decide +kernel
theorem dX4_holdNear_3 : decode cX4_holdNear 3 = .ok (.iload 5, 2) := by decide +kernel
theorem dX4_holdNear_5 : decode cX4_holdNear 5 = .ok (.ifCond .le 22, 3) := by decide +kernel
theorem dX4_holdNear_8 : decode cX4_holdNear 8 = .ok (.aload_n 0, 1) := by decide +kernel
theorem dX4_holdNear_9 : decode cX4_holdNear 9 = .ok (.getfield 44, 3) := by decide +kernel
theorem dX4_holdNear_12 : decode cX4_holdNear 12 = .ok (.iload 5, 2) := by decide +kernel
theorem dX4_holdNear_14 : decode cX4_holdNear 14 = .ok (.iconst 1, 1) := by decide +kernel
theorem dX4_holdNear_15 : decode cX4_holdNear 15 = .ok (.isub, 1) := by decide +kernel
theorem dX4_holdNear_16 : decode cX4_holdNear 16 = .ok (.iaload, 1) := by decide +kernel
theorem dX4_holdNear_17 : decode cX4_holdNear 17 = .ok (.iload_n 1, 1) := by decide +kernel
theorem dX4_holdNear_18 : decode cX4_holdNear 18 = .ok (.if_icmp .le 9, 3) := by decide +kernel
theorem dX4_holdNear_21 : decode cX4_holdNear 21 = .ok (.iinc 5 (-1), 3) := by decide +kernel
theorem dX4_holdNear_24 : decode cX4_holdNear 24 = .ok (.goto (-21), 3) := by decide +kernel
theorem dX4_holdNear_27 : decode cX4_holdNear 27 = .ok (.iload 5, 2) := by decide +kernel
theorem dX4_holdNear_29 : decode cX4_holdNear 29 = .ok (.iload 4, 2) := by decide +kernel
theorem dX4_holdNear_31 : decode cX4_holdNear 31 = .ok (.if_icmp .lt 5, 3) := by decide +kernel
theorem dX4_holdNear_34 : decode cX4_holdNear 34 = .ok (.iload_n 3, 1) := by decide +kernel
theorem dX4_holdNear_35 : decode cX4_holdNear 35 = .ok (.ireturn, 1) := by decide +kernel
theorem dX4_holdNear_36 : decode cX4_holdNear 36 = .ok (.iload_n 3, 1) := by decide +kernel
theorem dX4_holdNear_37 : decode cX4_holdNear 37 = .ok (.iload 4, 2) := by decide +kernel
theorem dX4_holdNear_39 : decode cX4_holdNear 39 = .ok (.iconst 1, 1) := by decide +kernel
theorem dX4_holdNear_40 : decode cX4_holdNear 40 = .ok (.isub, 1) := by decide +kernel
theorem dX4_holdNear_41 : decode cX4_holdNear 41 = .ok (.invokestatic 87, 3) := by decide +kernel
theorem dX4_holdNear_44 : decode cX4_holdNear 44 = .ok (.istore 6, 2) := by decide +kernel
theorem dX4_holdNear_46 : decode cX4_holdNear 46 = .ok (.iload 6, 2) := by decide +kernel
theorem dX4_holdNear_48 : decode cX4_holdNear 48 = .ok (.istore 7, 2) := by decide +kernel
theorem dX4_holdNear_50 : decode cX4_holdNear 50 = .ok (.iload 7, 2) := by decide +kernel
theorem dX4_holdNear_52 : decode cX4_holdNear 52 = .ok (.iload 5, 2) := by decide +kernel
theorem dX4_holdNear_54 : decode cX4_holdNear 54 = .ok (.if_icmp .le 41, 3) := by decide +kernel
theorem dX4_holdNear_57 : decode cX4_holdNear 57 = .ok (.aload_n 0, 1) := by decide +kernel
theorem dX4_holdNear_58 : decode cX4_holdNear 58 = .ok (.getfield 44, 3) := by decide +kernel
theorem dX4_holdNear_61 : decode cX4_holdNear 61 = .ok (.iload 7, 2) := by decide +kernel
theorem dX4_holdNear_63 : decode cX4_holdNear 63 = .ok (.aload_n 0, 1) := by decide +kernel
theorem dX4_holdNear_64 : decode cX4_holdNear 64 = .ok (.getfield 44, 3) := by decide +kernel
theorem dX4_holdNear_67 : decode cX4_holdNear 67 = .ok (.iload 7, 2) := by decide +kernel
theorem dX4_holdNear_69 : decode cX4_holdNear 69 = .ok (.iconst 1, 1) := by decide +kernel
theorem dX4_holdNear_70 : decode cX4_holdNear 70 = .ok (.isub, 1) := by decide +kernel
theorem dX4_holdNear_71 : decode cX4_holdNear 71 = .ok (.iaload, 1) := by decide +kernel
theorem dX4_holdNear_72 : decode cX4_holdNear 72 = .ok (.iastore, 1) := by decide +kernel
theorem dX4_holdNear_73 : decode cX4_holdNear 73 = .ok (.aload_n 0, 1) := by decide +kernel
theorem dX4_holdNear_74 : decode cX4_holdNear 74 = .ok (.getfield 47, 3) := by decide +kernel
theorem dX4_holdNear_77 : decode cX4_holdNear 77 = .ok (.iload 7, 2) := by decide +kernel
theorem dX4_holdNear_79 : decode cX4_holdNear 79 = .ok (.aload_n 0, 1) := by decide +kernel
theorem dX4_holdNear_80 : decode cX4_holdNear 80 = .ok (.getfield 47, 3) := by decide +kernel
theorem dX4_holdNear_83 : decode cX4_holdNear 83 = .ok (.iload 7, 2) := by decide +kernel
theorem dX4_holdNear_85 : decode cX4_holdNear 85 = .ok (.iconst 1, 1) := by decide +kernel
theorem dX4_holdNear_86 : decode cX4_holdNear 86 = .ok (.isub, 1) := by decide +kernel
theorem dX4_holdNear_87 : decode cX4_holdNear 87 = .ok (.iaload, 1) := by decide +kernel
theorem dX4_holdNear_88 : decode cX4_holdNear 88 = .ok (.iastore, 1) := by decide +kernel
theorem dX4_holdNear_89 : decode cX4_holdNear 89 = .ok (.iinc 7 (-1), 3) := by decide +kernel
theorem dX4_holdNear_92 : decode cX4_holdNear 92 = .ok (.goto (-42), 3) := by decide +kernel
theorem dX4_holdNear_95 : decode cX4_holdNear 95 = .ok (.aload_n 0, 1) := by decide +kernel
theorem dX4_holdNear_96 : decode cX4_holdNear 96 = .ok (.getfield 44, 3) := by decide +kernel
theorem dX4_holdNear_99 : decode cX4_holdNear 99 = .ok (.iload 5, 2) := by decide +kernel
theorem dX4_holdNear_101 : decode cX4_holdNear 101 = .ok (.iload_n 1, 1) := by decide +kernel
theorem dX4_holdNear_102 : decode cX4_holdNear 102 = .ok (.iastore, 1) := by decide +kernel
theorem dX4_holdNear_103 : decode cX4_holdNear 103 = .ok (.aload_n 0, 1) := by decide +kernel
theorem dX4_holdNear_104 : decode cX4_holdNear 104 = .ok (.getfield 47, 3) := by decide +kernel
theorem dX4_holdNear_107 : decode cX4_holdNear 107 = .ok (.iload 5, 2) := by decide +kernel
theorem dX4_holdNear_109 : decode cX4_holdNear 109 = .ok (.iload_n 2, 1) := by decide +kernel
theorem dX4_holdNear_110 : decode cX4_holdNear 110 = .ok (.iastore, 1) := by decide +kernel
theorem dX4_holdNear_111 : decode cX4_holdNear 111 = .ok (.iload 6, 2) := by decide +kernel
theorem dX4_holdNear_113 : decode cX4_holdNear 113 = .ok (.iconst 1, 1) := by decide +kernel
theorem dX4_holdNear_114 : decode cX4_holdNear 114 = .ok (.iadd, 1) := by decide +kernel
theorem dX4_holdNear_115 : decode cX4_holdNear 115 = .ok (.ireturn, 1) := by decide +kernel
theorem dX4_close_0 : decode cX4_close 0 = .ok (.aload_n 0, 1) := by decide +kernel
theorem dX4_close_1 : decode cX4_close 1 = .ok (.getfield 22, 3) := by decide +kernel
theorem dX4_close_4 : decode cX4_close 4 = .ok (.iload_n 1, 1) := by decide +kernel
theorem dX4_close_5 : decode cX4_close 5 = .ok (.iload_n 3, 1) := by decide +kernel
theorem dX4_close_6 : decode cX4_close 6 = .ok (.ifCond .eq 7, 3) := by decide +kernel
theorem dX4_close_9 : decode cX4_close 9 = .ok (.iconst 1, 1) := by decide +kernel
theorem dX4_close_10 : decode cX4_close 10 = .ok (.goto 4, 3) := by decide +kernel
theorem dX4_close_13 : decode cX4_close 13 = .ok (.iconst 2, 1) := by decide +kernel
theorem dX4_close_14 : decode cX4_close 14 = .ok (.iastore, 1) := by decide +kernel
theorem dX4_close_15 : decode cX4_close 15 = .ok (.iload_n 3, 1) := by decide +kernel
theorem dX4_close_16 : decode cX4_close 16 = .ok (.ifCond .eq 20, 3) := by decide +kernel
theorem dX4_close_19 : decode cX4_close 19 = .ok (.aload_n 0, 1) := by decide +kernel
theorem dX4_close_20 : decode cX4_close 20 = .ok (.getfield 26, 3) := by decide +kernel
theorem dX4_close_23 : decode cX4_close 23 = .ok (.iload_n 1, 1) := by decide +kernel
theorem dX4_close_24 : decode cX4_close 24 = .ok (.iload_n 2, 1) := by decide +kernel
theorem dX4_close_25 : decode cX4_close 25 = .ok (.iastore, 1) := by decide +kernel
theorem dX4_close_26 : decode cX4_close 26 = .ok (.aload_n 0, 1) := by decide +kernel
theorem dX4_close_27 : decode cX4_close 27 = .ok (.dup, 1) := by decide +kernel
theorem dX4_close_28 : decode cX4_close 28 = .ok (.getfield 15, 3) := by decide +kernel
theorem dX4_close_31 : decode cX4_close 31 = .ok (.iconst 1, 1) := by decide +kernel
theorem dX4_close_32 : decode cX4_close 32 = .ok (.iadd, 1) := by decide +kernel
theorem dX4_close_33 : decode cX4_close 33 = .ok (.putfield 15, 3) := by decide +kernel
theorem dX4_close_36 : decode cX4_close 36 = .ok (.aload_n 0, 1) := by decide +kernel
theorem dX4_close_37 : decode cX4_close 37 = .ok (.getfield 15, 3) := by decide +kernel
theorem dX4_close_40 : decode cX4_close 40 = .ok (.ireturn, 1) := by decide +kernel
set_option maxRecDepth 20000 in
theorem ggX4_addReport_X4_isBelowMiddle : GoodIn wsX4_addReport wsX4_isBelowMiddle := goodIn_r _ [8, 9, 1, 2, 10, 11, 12, 13, 7, 14, 15, 16, 17, 18, 19, 20, 21, 22, 23, 24, 25, 26] (by decide +kernel) (by decide +kernel)
set_option maxRecDepth 20000 in
theorem gX4_addReport_X4_isBelowMiddle : GoodIn wsX4_addReport (wsV RX4 92 RX4 yX4_isBelowMiddle wsX4_isBelowMiddle) := goodIn_app (goodIn_of _ (by decide +kernel)) ggX4_addReport_X4_isBelowMiddle
theorem dX4_addReport_0 : decode cX4_addReport 0 = .ok (.aload_n 0, 1) := by decide +kernel
theorem dX4_addReport_1 : decode cX4_addReport 1 = .ok (.getfield 29, 3) := by decide +kernel
theorem dX4_addReport_4 : decode cX4_addReport 4 = .ok (.iload_n 1, 1) := by decide +kernel
theorem dX4_addReport_5 : decode cX4_addReport 5 = .ok (.iaload, 1) := by decide +kernel
theorem dX4_addReport_6 : decode cX4_addReport 6 = .ok (.istore 4, 2) := by decide +kernel
theorem dX4_addReport_8 : decode cX4_addReport 8 = .ok (.iload_n 3, 1) := by decide +kernel
theorem dX4_addReport_9 : decode cX4_addReport 9 = .ok (.ifCond .le 19, 3) := by decide +kernel
theorem dX4_addReport_12 : decode cX4_addReport 12 = .ok (.aload_n 0, 1) := by decide +kernel
theorem dX4_addReport_13 : decode cX4_addReport 13 = .ok (.iload_n 1, 1) := by decide +kernel
theorem dX4_addReport_14 : decode cX4_addReport 14 = .ok (.iload 4, 2) := by decide +kernel
theorem dX4_addReport_16 : decode cX4_addReport 16 = .ok (.iload_n 2, 1) := by decide +kernel
theorem dX4_addReport_17 : decode cX4_addReport 17 = .ok (.iload_n 3, 1) := by decide +kernel
theorem dX4_addReport_18 : decode cX4_addReport 18 = .ok (.invokevirtual 92, 3) := by decide +kernel
theorem dX4_addReport_21 : decode cX4_addReport 21 = .ok (.ifCond .eq 7, 3) := by decide +kernel
theorem dX4_addReport_24 : decode cX4_addReport 24 = .ok (.iconst 1, 1) := by decide +kernel
theorem dX4_addReport_25 : decode cX4_addReport 25 = .ok (.goto 4, 3) := by decide +kernel
theorem dX4_addReport_28 : decode cX4_addReport 28 = .ok (.iconst 0, 1) := by decide +kernel
theorem dX4_addReport_29 : decode cX4_addReport 29 = .ok (.istore 5, 2) := by decide +kernel
theorem dX4_addReport_31 : decode cX4_addReport 31 = .ok (.aload_n 0, 1) := by decide +kernel
theorem dX4_addReport_32 : decode cX4_addReport 32 = .ok (.getfield 34, 3) := by decide +kernel
theorem dX4_addReport_35 : decode cX4_addReport 35 = .ok (.iload_n 1, 1) := by decide +kernel
theorem dX4_addReport_36 : decode cX4_addReport 36 = .ok (.aaload, 1) := by decide +kernel
theorem dX4_addReport_37 : decode cX4_addReport 37 = .ok (.iload 4, 2) := by decide +kernel
theorem dX4_addReport_39 : decode cX4_addReport 39 = .ok (.iload_n 2, 1) := by decide +kernel
theorem dX4_addReport_40 : decode cX4_addReport 40 = .ok (.iastore, 1) := by decide +kernel
theorem dX4_addReport_41 : decode cX4_addReport 41 = .ok (.aload_n 0, 1) := by decide +kernel
theorem dX4_addReport_42 : decode cX4_addReport 42 = .ok (.getfield 29, 3) := by decide +kernel
theorem dX4_addReport_45 : decode cX4_addReport 45 = .ok (.iload_n 1, 1) := by decide +kernel
theorem dX4_addReport_46 : decode cX4_addReport 46 = .ok (.dup2, 1) := by decide +kernel
theorem dX4_addReport_47 : decode cX4_addReport 47 = .ok (.iaload, 1) := by decide +kernel
theorem dX4_addReport_48 : decode cX4_addReport 48 = .ok (.iconst 1, 1) := by decide +kernel
theorem dX4_addReport_49 : decode cX4_addReport 49 = .ok (.iadd, 1) := by decide +kernel
theorem dX4_addReport_50 : decode cX4_addReport 50 = .ok (.iastore, 1) := by decide +kernel
theorem dX4_addReport_51 : decode cX4_addReport 51 = .ok (.iload 5, 2) := by decide +kernel
theorem dX4_addReport_53 : decode cX4_addReport 53 = .ok (.ifCond .eq 16, 3) := by decide +kernel
theorem dX4_addReport_56 : decode cX4_addReport 56 = .ok (.aload_n 0, 1) := by decide +kernel
theorem dX4_addReport_57 : decode cX4_addReport 57 = .ok (.getfield 22, 3) := by decide +kernel
theorem dX4_addReport_60 : decode cX4_addReport 60 = .ok (.iload_n 1, 1) := by decide +kernel
theorem dX4_addReport_61 : decode cX4_addReport 61 = .ok (.iconst 3, 1) := by decide +kernel
theorem dX4_addReport_62 : decode cX4_addReport 62 = .ok (.iastore, 1) := by decide +kernel
theorem dX4_addReport_63 : decode cX4_addReport 63 = .ok (.bipush (-10), 2) := by decide +kernel
theorem dX4_addReport_65 : decode cX4_addReport 65 = .ok (.iload 4, 2) := by decide +kernel
theorem dX4_addReport_67 : decode cX4_addReport 67 = .ok (.isub, 1) := by decide +kernel
theorem dX4_addReport_68 : decode cX4_addReport 68 = .ok (.ireturn, 1) := by decide +kernel
theorem dX4_addReport_69 : decode cX4_addReport 69 = .ok (.iload 4, 2) := by decide +kernel
theorem dX4_addReport_71 : decode cX4_addReport 71 = .ok (.ireturn, 1) := by decide +kernel
set_option maxRecDepth 20000 in
theorem ggX4_isBelowMiddle_X4_sortIn : GoodIn wsX4_isBelowMiddle wsX4_sortIn := goodIn_r _ [9, 4, 10, 11, 12, 13, 14, 15, 16, 17, 18, 19, 20, 21] (by decide +kernel) (by decide +kernel)
set_option maxRecDepth 20000 in
theorem gX4_isBelowMiddle_X4_sortIn : GoodIn wsX4_isBelowMiddle (wsV RX4 96 RX4 yX4_sortIn wsX4_sortIn) := goodIn_app (goodIn_of _ (by decide +kernel)) ggX4_isBelowMiddle_X4_sortIn
theorem dX4_isBelowMiddle_0 : decode cX4_isBelowMiddle 0 = .ok (.iconst 0, 1) := by decide +kernel
theorem dX4_isBelowMiddle_1 : decode cX4_isBelowMiddle 1 = .ok (.istore 5, 2) := by decide +kernel
theorem dX4_isBelowMiddle_3 : decode cX4_isBelowMiddle 3 = .ok (.iconst 0, 1) := by decide +kernel
theorem dX4_isBelowMiddle_4 : decode cX4_isBelowMiddle 4 = .ok (.istore 6, 2) := by decide +kernel
theorem dX4_isBelowMiddle_6 : decode cX4_isBelowMiddle 6 = .ok (.iload 6, 2) := by decide +kernel
theorem dX4_isBelowMiddle_8 : decode cX4_isBelowMiddle 8 = .ok (.aload_n 0, 1) := by decide +kernel
theorem dX4_isBelowMiddle_9 : decode cX4_isBelowMiddle 9 = .ok (.getfield 9, 3) := by decide +kernel
theorem dX4_isBelowMiddle_12 : decode cX4_isBelowMiddle 12 = .ok (.if_icmp .ge 44, 3) := by decide +kernel
theorem dX4_isBelowMiddle_15 : decode cX4_isBelowMiddle 15 = .ok (.iload 6, 2) := by decide +kernel
theorem dX4_isBelowMiddle_17 : decode cX4_isBelowMiddle 17 = .ok (.iload_n 1, 1) := by decide +kernel
theorem dX4_isBelowMiddle_18 : decode cX4_isBelowMiddle 18 = .ok (.if_icmp .eq 32, 3) := by decide +kernel
theorem dX4_isBelowMiddle_21 : decode cX4_isBelowMiddle 21 = .ok (.aload_n 0, 1) := by decide +kernel
theorem dX4_isBelowMiddle_22 : decode cX4_isBelowMiddle 22 = .ok (.getfield 29, 3) := by decide +kernel
theorem dX4_isBelowMiddle_25 : decode cX4_isBelowMiddle 25 = .ok (.iload 6, 2) := by decide +kernel
theorem dX4_isBelowMiddle_27 : decode cX4_isBelowMiddle 27 = .ok (.iaload, 1) := by decide +kernel
theorem dX4_isBelowMiddle_28 : decode cX4_isBelowMiddle 28 = .ok (.iload_n 2, 1) := by decide +kernel
theorem dX4_isBelowMiddle_29 : decode cX4_isBelowMiddle 29 = .ok (.if_icmp .le 21, 3) := by decide +kernel
theorem dX4_isBelowMiddle_32 : decode cX4_isBelowMiddle 32 = .ok (.aload_n 0, 1) := by decide +kernel
theorem dX4_isBelowMiddle_33 : decode cX4_isBelowMiddle 33 = .ok (.aload_n 0, 1) := by decide +kernel
theorem dX4_isBelowMiddle_34 : decode cX4_isBelowMiddle 34 = .ok (.getfield 34, 3) := by decide +kernel
theorem dX4_isBelowMiddle_37 : decode cX4_isBelowMiddle 37 = .ok (.iload 6, 2) := by decide +kernel
theorem dX4_isBelowMiddle_39 : decode cX4_isBelowMiddle 39 = .ok (.aaload, 1) := by decide +kernel
theorem dX4_isBelowMiddle_40 : decode cX4_isBelowMiddle 40 = .ok (.iload_n 2, 1) := by decide +kernel
theorem dX4_isBelowMiddle_41 : decode cX4_isBelowMiddle 41 = .ok (.iaload, 1) := by decide +kernel
theorem dX4_isBelowMiddle_42 : decode cX4_isBelowMiddle 42 = .ok (.iload 5, 2) := by decide +kernel
theorem dX4_isBelowMiddle_44 : decode cX4_isBelowMiddle 44 = .ok (.invokevirtual 96, 3) := by decide +kernel
theorem dX4_isBelowMiddle_47 : decode cX4_isBelowMiddle 47 = .ok (.iinc 5 1, 3) := by decide +kernel
theorem dX4_isBelowMiddle_50 : decode cX4_isBelowMiddle 50 = .ok (.iinc 6 1, 3) := by decide +kernel
theorem dX4_isBelowMiddle_53 : decode cX4_isBelowMiddle 53 = .ok (.goto (-47), 3) := by decide +kernel
theorem dX4_isBelowMiddle_56 : decode cX4_isBelowMiddle 56 = .ok (.iload 5, 2) := by decide +kernel
theorem dX4_isBelowMiddle_58 : decode cX4_isBelowMiddle 58 = .ok (.iload 4, 2) := by decide +kernel
theorem dX4_isBelowMiddle_60 : decode cX4_isBelowMiddle 60 = .ok (.if_icmp .lt 22, 3) := by decide +kernel
theorem dX4_isBelowMiddle_63 : decode cX4_isBelowMiddle 63 = .ok (.iload_n 3, 1) := by decide +kernel
theorem dX4_isBelowMiddle_64 : decode cX4_isBelowMiddle 64 = .ok (.aload_n 0, 1) := by decide +kernel
theorem dX4_isBelowMiddle_65 : decode cX4_isBelowMiddle 65 = .ok (.getfield 50, 3) := by decide +kernel
theorem dX4_isBelowMiddle_68 : decode cX4_isBelowMiddle 68 = .ok (.iload 5, 2) := by decide +kernel
theorem dX4_isBelowMiddle_70 : decode cX4_isBelowMiddle 70 = .ok (.iconst 1, 1) := by decide +kernel
theorem dX4_isBelowMiddle_71 : decode cX4_isBelowMiddle 71 = .ok (.isub, 1) := by decide +kernel
theorem dX4_isBelowMiddle_72 : decode cX4_isBelowMiddle 72 = .ok (.iconst 2, 1) := by decide +kernel
theorem dX4_isBelowMiddle_73 : decode cX4_isBelowMiddle 73 = .ok (.idiv, 1) := by decide +kernel
theorem dX4_isBelowMiddle_74 : decode cX4_isBelowMiddle 74 = .ok (.iaload, 1) := by decide +kernel
theorem dX4_isBelowMiddle_75 : decode cX4_isBelowMiddle 75 = .ok (.if_icmp .ge 7, 3) := by decide +kernel
theorem dX4_isBelowMiddle_78 : decode cX4_isBelowMiddle 78 = .ok (.iconst 1, 1) := by decide +kernel
theorem dX4_isBelowMiddle_79 : decode cX4_isBelowMiddle 79 = .ok (.goto 4, 3) := by decide +kernel
theorem dX4_isBelowMiddle_82 : decode cX4_isBelowMiddle 82 = .ok (.iconst 0, 1) := by decide +kernel
theorem dX4_isBelowMiddle_83 : decode cX4_isBelowMiddle 83 = .ok (.ireturn, 1) := by decide +kernel
theorem dX4_sortIn_0 : decode cX4_sortIn 0 = .ok (.iload_n 2, 1) := by decide +kernel
theorem dX4_sortIn_1 : decode cX4_sortIn 1 = .ok (.istore_n 3, 1) := by decide +kernel
theorem dX4_sortIn_2 : decode cX4_sortIn 2 = .ok (.iload_n 3, 1) := by decide +kernel
theorem dX4_sortIn_3 : decode cX4_sortIn 3 = .ok (.ifCond .le 35, 3) := by decide +kernel
theorem dX4_sortIn_6 : decode cX4_sortIn 6 = .ok (.aload_n 0, 1) := by decide +kernel
theorem dX4_sortIn_7 : decode cX4_sortIn 7 = .ok (.getfield 50, 3) := by decide +kernel
theorem dX4_sortIn_10 : decode cX4_sortIn 10 = .ok (.iload_n 3, 1) := by decide +kernel
theorem dX4_sortIn_11 : decode cX4_sortIn 11 = .ok (.iconst 1, 1) := by decide +kernel
theorem dX4_sortIn_12 : decode cX4_sortIn 12 = .ok (.isub, 1) := by decide +kernel
theorem dX4_sortIn_13 : decode cX4_sortIn 13 = .ok (.iaload, 1) := by decide +kernel
theorem dX4_sortIn_14 : decode cX4_sortIn 14 = .ok (.iload_n 1, 1) := by decide +kernel
theorem dX4_sortIn_15 : decode cX4_sortIn 15 = .ok (.if_icmp .le 23, 3) := by decide +kernel
theorem dX4_sortIn_18 : decode cX4_sortIn 18 = .ok (.aload_n 0, 1) := by decide +kernel
theorem dX4_sortIn_19 : decode cX4_sortIn 19 = .ok (.getfield 50, 3) := by decide +kernel
theorem dX4_sortIn_22 : decode cX4_sortIn 22 = .ok (.iload_n 3, 1) := by decide +kernel
theorem dX4_sortIn_23 : decode cX4_sortIn 23 = .ok (.aload_n 0, 1) := by decide +kernel
theorem dX4_sortIn_24 : decode cX4_sortIn 24 = .ok (.getfield 50, 3) := by decide +kernel
theorem dX4_sortIn_27 : decode cX4_sortIn 27 = .ok (.iload_n 3, 1) := by decide +kernel
theorem dX4_sortIn_28 : decode cX4_sortIn 28 = .ok (.iconst 1, 1) := by decide +kernel
theorem dX4_sortIn_29 : decode cX4_sortIn 29 = .ok (.isub, 1) := by decide +kernel
theorem dX4_sortIn_30 : decode cX4_sortIn 30 = .ok (.iaload, 1) := by decide +kernel
theorem dX4_sortIn_31 : decode cX4_sortIn 31 = .ok (.iastore, 1) := by decide +kernel
theorem dX4_sortIn_32 : decode cX4_sortIn 32 = .ok (.iinc 3 (-1), 3) := by decide +kernel
theorem dX4_sortIn_35 : decode cX4_sortIn 35 = .ok (.goto (-33), 3) := by decide +kernel
theorem dX4_sortIn_38 : decode cX4_sortIn 38 = .ok (.aload_n 0, 1) := by decide +kernel
theorem dX4_sortIn_39 : decode cX4_sortIn 39 = .ok (.getfield 50, 3) := by decide +kernel
theorem dX4_sortIn_42 : decode cX4_sortIn 42 = .ok (.iload_n 3, 1) := by decide +kernel
theorem dX4_sortIn_43 : decode cX4_sortIn 43 = .ok (.iload_n 1, 1) := by decide +kernel
theorem dX4_sortIn_44 : decode cX4_sortIn 44 = .ok (.iastore, 1) := by decide +kernel
theorem dX4_sortIn_45 : decode cX4_sortIn 45 = .ok (.return_, 1) := by decide +kernel
theorem dX4_firstGreatest_0 : decode cX4_firstGreatest 0 = .ok (.bipush (-2), 2) := by decide +kernel
theorem dX4_firstGreatest_2 : decode cX4_firstGreatest 2 = .ok (.istore_n 1, 1) := by decide +kernel
theorem dX4_firstGreatest_3 : decode cX4_firstGreatest 3 = .ok (.iconst 0, 1) := by decide +kernel
theorem dX4_firstGreatest_4 : decode cX4_firstGreatest 4 = .ok (.istore_n 2, 1) := by decide +kernel
theorem dX4_firstGreatest_5 : decode cX4_firstGreatest 5 = .ok (.iload_n 2, 1) := by decide +kernel
theorem dX4_firstGreatest_6 : decode cX4_firstGreatest 6 = .ok (.aload_n 0, 1) := by decide +kernel
theorem dX4_firstGreatest_7 : decode cX4_firstGreatest 7 = .ok (.getfield 9, 3) := by decide +kernel
theorem dX4_firstGreatest_10 : decode cX4_firstGreatest 10 = .ok (.if_icmp .ge 40, 3) := by decide +kernel
theorem dX4_firstGreatest_13 : decode cX4_firstGreatest 13 = .ok (.aload_n 0, 1) := by decide +kernel
theorem dX4_firstGreatest_14 : decode cX4_firstGreatest 14 = .ok (.getfield 22, 3) := by decide +kernel
theorem dX4_firstGreatest_17 : decode cX4_firstGreatest 17 = .ok (.iload_n 2, 1) := by decide +kernel
theorem dX4_firstGreatest_18 : decode cX4_firstGreatest 18 = .ok (.iaload, 1) := by decide +kernel
theorem dX4_firstGreatest_19 : decode cX4_firstGreatest 19 = .ok (.iconst 1, 1) := by decide +kernel
theorem dX4_firstGreatest_20 : decode cX4_firstGreatest 20 = .ok (.if_icmp .ne 24, 3) := by decide +kernel
theorem dX4_firstGreatest_23 : decode cX4_firstGreatest 23 = .ok (.iload_n 1, 1) := by decide +kernel
theorem dX4_firstGreatest_24 : decode cX4_firstGreatest 24 = .ok (.ifCond .lt 18, 3) := by decide +kernel
theorem dX4_firstGreatest_27 : decode cX4_firstGreatest 27 = .ok (.aload_n 0, 1) := by decide +kernel
theorem dX4_firstGreatest_28 : decode cX4_firstGreatest 28 = .ok (.getfield 26, 3) := by decide +kernel
theorem dX4_firstGreatest_31 : decode cX4_firstGreatest 31 = .ok (.iload_n 2, 1) := by decide +kernel
theorem dX4_firstGreatest_32 : decode cX4_firstGreatest 32 = .ok (.iaload, 1) := by decide +kernel
theorem dX4_firstGreatest_33 : decode cX4_firstGreatest 33 = .ok (.aload_n 0, 1) := by decide +kernel
theorem dX4_firstGreatest_34 : decode cX4_firstGreatest 34 = .ok (.getfield 26, 3) := by decide +kernel
theorem dX4_firstGreatest_37 : decode cX4_firstGreatest 37 = .ok (.iload_n 1, 1) := by decide +kernel
theorem dX4_firstGreatest_38 : decode cX4_firstGreatest 38 = .ok (.iaload, 1) := by decide +kernel
theorem dX4_firstGreatest_39 : decode cX4_firstGreatest 39 = .ok (.if_icmp .le 5, 3) := by decide +kernel
theorem dX4_firstGreatest_42 : decode cX4_firstGreatest 42 = .ok (.iload_n 2, 1) := by decide +kernel
theorem dX4_firstGreatest_43 : decode cX4_firstGreatest 43 = .ok (.istore_n 1, 1) := by decide +kernel
theorem dX4_firstGreatest_44 : decode cX4_firstGreatest 44 = .ok (.iinc 2 1, 3) := by decide +kernel
theorem dX4_firstGreatest_47 : decode cX4_firstGreatest 47 = .ok (.goto (-42), 3) := by decide +kernel
theorem dX4_firstGreatest_50 : decode cX4_firstGreatest 50 = .ok (.iload_n 1, 1) := by decide +kernel
theorem dX4_firstGreatest_51 : decode cX4_firstGreatest 51 = .ok (.ireturn, 1) := by decide +kernel
set_option maxRecDepth 20000 in
theorem ggX5_init_X3_init : GoodIn wsX5_init wsX3_init := goodIn_r _ [22, 23, 2, 3, 24, 25, 26, 27, 28, 29, 30, 31, 32, 33, 34, 35, 74, 75, 76, 77, 78, 79, 80, 81, 82] (by decide +kernel) (by decide +kernel)
set_option maxRecDepth 20000 in
theorem gX5_init_X3_init : GoodIn wsX5_init (wsX3_init) := ggX5_init_X3_init
set_option maxRecDepth 20000 in
theorem ggX5_init_X4_init : GoodIn wsX5_init wsX4_init := goodIn_r _ [38, 39, 2, 3, 40, 41, 32, 42, 26, 43, 44, 45, 46, 47, 48, 49, 50, 51, 52, 87, 88, 89, 90, 91, 92, 93, 94, 95, 96, 97, 98] (by decide +kernel) (by decide +kernel)
set_option maxRecDepth 20000 in
theorem gX5_init_X4_init : GoodIn wsX5_init (wsX4_init) := ggX5_init_X4_init
set_option maxRecDepth 20000 in
theorem ggX5_init_X1_init : GoodIn wsX5_init wsX1_init := goodIn_r _ [55, 56, 2, 3, 57, 58, 26, 59, 60, 99, 100, 101, 102, 103, 104, 105, 106, 107, 108] (by decide +kernel) (by decide +kernel)
set_option maxRecDepth 20000 in
theorem gX5_init_X1_init : GoodIn wsX5_init (wsX1_init) := ggX5_init_X1_init
set_option maxRecDepth 20000 in
theorem ggX5_init_X0_init : GoodIn wsX5_init wsX0_init := goodIn_r _ [63, 64, 2, 3, 65, 66, 67, 26, 68, 69, 70, 71, 72, 32, 73, 109, 110, 111, 112, 113, 114, 115, 116] (by decide +kernel) (by decide +kernel)
set_option maxRecDepth 20000 in
theorem gX5_init_X0_init : GoodIn wsX5_init (wsX0_init) := ggX5_init_X0_init
theorem dX5_init_0 : decode cX5_init 0 = .ok (.aload_n 0, 1) := by decide +kernel
theorem dX5_init_1 : decode cX5_init 1 = .ok (.invokespecial 3, 3) := by decide +kernel
theorem dX5_init_4 : decode cX5_init 4 = .ok (.aload_n 0, 1) := by decide +kernel
theorem dX5_init_5 : decode cX5_init 5 = .ok (.new 9, 3) := by decide +kernel
theorem dX5_init_8 : decode cX5_init 8 = .ok (.dup, 1) := by decide +kernel
theorem dX5_init_9 : decode cX5_init 9 = .ok (.invokespecial 11, 3) := by decide +kernel
theorem dX5_init_12 : decode cX5_init 12 = .ok (.putfield 12, 3) := by decide +kernel
theorem dX5_init_15 : decode cX5_init 15 = .ok (.aload_n 0, 1) := by decide +kernel
theorem dX5_init_16 : decode cX5_init 16 = .ok (.new 16, 3) := by decide +kernel
theorem dX5_init_19 : decode cX5_init 19 = .ok (.dup, 1) := by decide +kernel
theorem dX5_init_20 : decode cX5_init 20 = .ok (.aload_n 0, 1) := by decide +kernel
theorem dX5_init_21 : decode cX5_init 21 = .ok (.getfield 12, 3) := by decide +kernel
theorem dX5_init_24 : decode cX5_init 24 = .ok (.invokespecial 18, 3) := by decide +kernel
theorem dX5_init_27 : decode cX5_init 27 = .ok (.putfield 21, 3) := by decide +kernel
theorem dX5_init_30 : decode cX5_init 30 = .ok (.aload_n 0, 1) := by decide +kernel
theorem dX5_init_31 : decode cX5_init 31 = .ok (.new 25, 3) := by decide +kernel
theorem dX5_init_34 : decode cX5_init 34 = .ok (.dup, 1) := by decide +kernel
theorem dX5_init_35 : decode cX5_init 35 = .ok (.invokespecial 27, 3) := by decide +kernel
theorem dX5_init_38 : decode cX5_init 38 = .ok (.putfield 28, 3) := by decide +kernel
theorem dX5_init_41 : decode cX5_init 41 = .ok (.aload_n 0, 1) := by decide +kernel
theorem dX5_init_42 : decode cX5_init 42 = .ok (.new 32, 3) := by decide +kernel
theorem dX5_init_45 : decode cX5_init 45 = .ok (.dup, 1) := by decide +kernel
theorem dX5_init_46 : decode cX5_init 46 = .ok (.invokespecial 34, 3) := by decide +kernel
theorem dX5_init_49 : decode cX5_init 49 = .ok (.putfield 35, 3) := by decide +kernel
theorem dX5_init_52 : decode cX5_init 52 = .ok (.return_, 1) := by decide +kernel
set_option maxRecDepth 20000 in
theorem ggX5_name_X5_within : GoodIn wsX5_name wsX5_within := goodIn_r _ [11] (by decide +kernel) (by decide +kernel)
set_option maxRecDepth 20000 in
theorem gX5_name_X5_within : GoodIn wsX5_name (va_wsS RX5 41 yX5_within wsX5_within) := goodIn_app (goodIn_of _ (by decide +kernel)) ggX5_name_X5_within
set_option maxRecDepth 20000 in
theorem ggX5_name_X3_add : GoodIn wsX5_name wsX3_add := goodIn_r _ [16, 17, 18, 19, 20, 21, 22, 23, 15, 24, 25, 26, 27, 28, 29, 30, 31, 32, 33, 34, 35, 36, 37, 38, 39, 40, 41, 42, 47, 48, 49, 50, 51, 52, 53, 54, 55] (by decide +kernel) (by decide +kernel)
set_option maxRecDepth 20000 in
theorem gX5_name_X3_add : GoodIn wsX5_name (wsV RX5 56 RX3 yX3_add wsX3_add) := goodIn_app (goodIn_of _ (by decide +kernel)) ggX5_name_X3_add
theorem dX5_name_0 : decode cX5_name 0 = .ok (.iload_n 1, 1) := by decide +kernel
theorem dX5_name_1 : decode cX5_name 1 = .ok (.i2l, 1) := by decide +kernel
theorem dX5_name_2 : decode cX5_name 2 = .ok (.lconst 1, 1) := by decide +kernel
theorem dX5_name_3 : decode cX5_name 3 = .ok (.ldc2_w 39, 3) := by decide +kernel
theorem dX5_name_6 : decode cX5_name 6 = .ok (.invokestatic 41, 3) := by decide +kernel
theorem dX5_name_9 : decode cX5_name 9 = .ok (.ifCond .eq 24, 3) := by decide +kernel
theorem dX5_name_12 : decode cX5_name 12 = .ok (.iload_n 2, 1) := by decide +kernel
theorem dX5_name_13 : decode cX5_name 13 = .ok (.i2l, 1) := by decide +kernel
theorem dX5_name_14 : decode cX5_name 14 = .ok (.ldc2_w 45, 3) := by decide +kernel
theorem dX5_name_17 : decode cX5_name 17 = .ok (.aload_n 0, 1) := by decide +kernel
theorem dX5_name_18 : decode cX5_name 18 = .ok (.getfield 12, 3) := by decide +kernel
theorem dX5_name_21 : decode cX5_name 21 = .ok (.getfield 47, 3) := by decide +kernel
theorem dX5_name_24 : decode cX5_name 24 = .ok (.iconst 1, 1) := by decide +kernel
theorem dX5_name_25 : decode cX5_name 25 = .ok (.isub, 1) := by decide +kernel
theorem dX5_name_26 : decode cX5_name 26 = .ok (.i2l, 1) := by decide +kernel
theorem dX5_name_27 : decode cX5_name 27 = .ok (.invokestatic 41, 3) := by decide +kernel
theorem dX5_name_30 : decode cX5_name 30 = .ok (.ifCond .ne 5, 3) := by decide +kernel
theorem dX5_name_33 : decode cX5_name 33 = .ok (.iconst (-1), 1) := by decide +kernel
theorem dX5_name_34 : decode cX5_name 34 = .ok (.ireturn, 1) := by decide +kernel
theorem dX5_name_35 : decode cX5_name 35 = .ok (.iload_n 2, 1) := by decide +kernel
theorem dX5_name_36 : decode cX5_name 36 = .ok (.ifCond .lt 17, 3) := by decide +kernel
theorem dX5_name_39 : decode cX5_name 39 = .ok (.iload_n 3, 1) := by decide +kernel
theorem dX5_name_40 : decode cX5_name 40 = .ok (.i2l, 1) := by decide +kernel
theorem dX5_name_41 : decode cX5_name 41 = .ok (.lconst 1, 1) := by decide +kernel
theorem dX5_name_42 : decode cX5_name 42 = .ok (.ldc2_w 51, 3) := by decide +kernel
theorem dX5_name_45 : decode cX5_name 45 = .ok (.invokestatic 41, 3) := by decide +kernel
theorem dX5_name_48 : decode cX5_name 48 = .ok (.ifCond .ne 5, 3) := by decide +kernel
theorem dX5_name_51 : decode cX5_name 51 = .ok (.iconst (-1), 1) := by decide +kernel
theorem dX5_name_52 : decode cX5_name 52 = .ok (.ireturn, 1) := by decide +kernel
theorem dX5_name_53 : decode cX5_name 53 = .ok (.aload_n 0, 1) := by decide +kernel
theorem dX5_name_54 : decode cX5_name 54 = .ok (.getfield 21, 3) := by decide +kernel
theorem dX5_name_57 : decode cX5_name 57 = .ok (.getfield 53, 3) := by decide +kernel
theorem dX5_name_60 : decode cX5_name 60 = .ok (.ifCond .le 6, 3) := by decide +kernel
theorem dX5_name_63 : decode cX5_name 63 = .ok (.bipush (-3), 2) := by decide +kernel
theorem dX5_name_65 : decode cX5_name 65 = .ok (.ireturn, 1) := by decide +kernel
theorem dX5_name_66 : decode cX5_name 66 = .ok (.aload_n 0, 1) := by decide +kernel
theorem dX5_name_67 : decode cX5_name 67 = .ok (.getfield 12, 3) := by decide +kernel
theorem dX5_name_70 : decode cX5_name 70 = .ok (.getfield 47, 3) := by decide +kernel
theorem dX5_name_73 : decode cX5_name 73 = .ok (.bipush 8, 2) := by decide +kernel
theorem dX5_name_75 : decode cX5_name 75 = .ok (.if_icmp .ge 16, 3) := by decide +kernel
theorem dX5_name_78 : decode cX5_name 78 = .ok (.aload_n 0, 1) := by decide +kernel
theorem dX5_name_79 : decode cX5_name 79 = .ok (.getfield 12, 3) := by decide +kernel
theorem dX5_name_82 : decode cX5_name 82 = .ok (.iload_n 1, 1) := by decide +kernel
theorem dX5_name_83 : decode cX5_name 83 = .ok (.iload_n 2, 1) := by decide +kernel
theorem dX5_name_84 : decode cX5_name 84 = .ok (.iload_n 3, 1) := by decide +kernel
theorem dX5_name_85 : decode cX5_name 85 = .ok (.invokevirtual 56, 3) := by decide +kernel
theorem dX5_name_88 : decode cX5_name 88 = .ok (.goto 5, 3) := by decide +kernel
theorem dX5_name_91 : decode cX5_name 91 = .ok (.bipush (-4), 2) := by decide +kernel
theorem dX5_name_93 : decode cX5_name 93 = .ok (.ireturn, 1) := by decide +kernel
theorem dX5_points_0 : decode cX5_points 0 = .ok (.aload_n 0, 1) := by decide +kernel
theorem dX5_points_1 : decode cX5_points 1 = .ok (.getfield 12, 3) := by decide +kernel
theorem dX5_points_4 : decode cX5_points 4 = .ok (.getfield 60, 3) := by decide +kernel
theorem dX5_points_7 : decode cX5_points 7 = .ok (.lreturn, 1) := by decide +kernel
set_option maxRecDepth 20000 in
theorem ggX5_value_X5_isPoint : GoodIn wsX5_value wsX5_isPoint := goodIn_r _ [8, 1, 9, 10, 11, 7, 12, 34, 35, 36, 37, 38, 39, 40, 41, 42, 43, 44, 45, 46] (by decide +kernel) (by decide +kernel)
set_option maxRecDepth 20000 in
theorem gX5_value_X5_isPoint : GoodIn wsX5_value (wsV RX5 64 RX5 yX5_isPoint wsX5_isPoint) := goodIn_app (goodIn_of _ (by decide +kernel)) ggX5_value_X5_isPoint
set_option maxRecDepth 20000 in
theorem ggX5_value_X5_within : GoodIn wsX5_value wsX5_within := goodIn_r _ [12] (by decide +kernel) (by decide +kernel)
set_option maxRecDepth 20000 in
theorem gX5_value_X5_within : GoodIn wsX5_value (va_wsS RX5 41 yX5_within wsX5_within) := goodIn_app (goodIn_of _ (by decide +kernel)) ggX5_value_X5_within
set_option maxRecDepth 20000 in
theorem ggX5_value_X3_read : GoodIn wsX5_value wsX3_read := goodIn_r _ [17, 18, 19, 20, 21, 22, 23, 24, 25, 16, 26, 27, 28, 29, 30, 31, 32, 7, 33, 38, 39, 40, 41, 42, 43, 44, 45, 46] (by decide +kernel) (by decide +kernel)
set_option maxRecDepth 20000 in
theorem gX5_value_X3_read : GoodIn wsX5_value (wsV RX5 72 RX3 yX3_read wsX3_read) := goodIn_app (goodIn_of _ (by decide +kernel)) ggX5_value_X3_read
theorem dX5_value_0 : decode cX5_value 0 = .ok (.aload_n 0, 1) := by decide +kernel
theorem dX5_value_1 : decode cX5_value 1 = .ok (.lload_n 1, 1) := by decide +kernel
theorem dX5_value_2 : decode cX5_value 2 = .ok (.invokevirtual 64, 3) := by decide +kernel
theorem dX5_value_5 : decode cX5_value 5 = .ok (.ifCond .eq 22, 3) := by decide +kernel
theorem dX5_value_8 : decode cX5_value 8 = .ok (.iload_n 3, 1) := by decide +kernel
theorem dX5_value_9 : decode cX5_value 9 = .ok (.i2l, 1) := by decide +kernel
theorem dX5_value_10 : decode cX5_value 10 = .ok (.lconst 0, 1) := by decide +kernel
theorem dX5_value_11 : decode cX5_value 11 = .ok (.aload_n 0, 1) := by decide +kernel
theorem dX5_value_12 : decode cX5_value 12 = .ok (.getfield 12, 3) := by decide +kernel
theorem dX5_value_15 : decode cX5_value 15 = .ok (.getfield 47, 3) := by decide +kernel
theorem dX5_value_18 : decode cX5_value 18 = .ok (.iconst 1, 1) := by decide +kernel
theorem dX5_value_19 : decode cX5_value 19 = .ok (.isub, 1) := by decide +kernel
theorem dX5_value_20 : decode cX5_value 20 = .ok (.i2l, 1) := by decide +kernel
theorem dX5_value_21 : decode cX5_value 21 = .ok (.invokestatic 41, 3) := by decide +kernel
theorem dX5_value_24 : decode cX5_value 24 = .ok (.ifCond .ne 5, 3) := by decide +kernel
theorem dX5_value_27 : decode cX5_value 27 = .ok (.iconst (-1), 1) := by decide +kernel
theorem dX5_value_28 : decode cX5_value 28 = .ok (.ireturn, 1) := by decide +kernel
theorem dX5_value_29 : decode cX5_value 29 = .ok (.aload_n 0, 1) := by decide +kernel
theorem dX5_value_30 : decode cX5_value 30 = .ok (.getfield 12, 3) := by decide +kernel
theorem dX5_value_33 : decode cX5_value 33 = .ok (.lload_n 1, 1) := by decide +kernel
theorem dX5_value_34 : decode cX5_value 34 = .ok (.aload_n 0, 1) := by decide +kernel
theorem dX5_value_35 : decode cX5_value 35 = .ok (.getfield 12, 3) := by decide +kernel
theorem dX5_value_38 : decode cX5_value 38 = .ok (.getfield 68, 3) := by decide +kernel
theorem dX5_value_41 : decode cX5_value 41 = .ok (.invokevirtual 72, 3) := by decide +kernel
theorem dX5_value_44 : decode cX5_value 44 = .ok (.aload_n 0, 1) := by decide +kernel
theorem dX5_value_45 : decode cX5_value 45 = .ok (.getfield 12, 3) := by decide +kernel
theorem dX5_value_48 : decode cX5_value 48 = .ok (.getfield 68, 3) := by decide +kernel
theorem dX5_value_51 : decode cX5_value 51 = .ok (.iload_n 3, 1) := by decide +kernel
theorem dX5_value_52 : decode cX5_value 52 = .ok (.iaload, 1) := by decide +kernel
theorem dX5_value_53 : decode cX5_value 53 = .ok (.ireturn, 1) := by decide +kernel
set_option maxRecDepth 20000 in
theorem ggX5_number_X3_takeBits : GoodIn wsX5_number wsX3_takeBits := goodIn_r _ [8, 9, 10, 11, 12, 13, 7, 14, 15, 16, 17, 18, 19, 34, 35, 36, 37, 38, 39, 40, 41, 42] (by decide +kernel) (by decide +kernel)
set_option maxRecDepth 20000 in
theorem gX5_number_X3_takeBits : GoodIn wsX5_number (wsV RX5 76 RX3 yX3_takeBits wsX3_takeBits) := goodIn_app (goodIn_of _ (by decide +kernel)) ggX5_number_X3_takeBits
set_option maxRecDepth 20000 in
theorem ggX5_number_X3_place : GoodIn wsX5_number wsX3_place := goodIn_r _ [23, 24, 9, 25, 26, 27, 28, 29, 34, 35, 36, 37, 38, 39, 40, 41, 42] (by decide +kernel) (by decide +kernel)
set_option maxRecDepth 20000 in
theorem gX5_number_X3_place : GoodIn wsX5_number (wsV RX5 80 RX3 yX3_place wsX3_place) := goodIn_app (goodIn_of _ (by decide +kernel)) ggX5_number_X3_place
theorem dX5_number_0 : decode cX5_number 0 = .ok (.aload_n 0, 1) := by decide +kernel
theorem dX5_number_1 : decode cX5_number 1 = .ok (.getfield 12, 3) := by decide +kernel
theorem dX5_number_4 : decode cX5_number 4 = .ok (.lload_n 1, 1) := by decide +kernel
theorem dX5_number_5 : decode cX5_number 5 = .ok (.aload_n 0, 1) := by decide +kernel
theorem dX5_number_6 : decode cX5_number 6 = .ok (.getfield 12, 3) := by decide +kernel
theorem dX5_number_9 : decode cX5_number 9 = .ok (.getfield 68, 3) := by decide +kernel
theorem dX5_number_12 : decode cX5_number 12 = .ok (.invokevirtual 76, 3) := by decide +kernel
theorem dX5_number_15 : decode cX5_number 15 = .ok (.ifCond .eq 20, 3) := by decide +kernel
theorem dX5_number_18 : decode cX5_number 18 = .ok (.aload_n 0, 1) := by decide +kernel
theorem dX5_number_19 : decode cX5_number 19 = .ok (.getfield 12, 3) := by decide +kernel
theorem dX5_number_22 : decode cX5_number 22 = .ok (.aload_n 0, 1) := by decide +kernel
theorem dX5_number_23 : decode cX5_number 23 = .ok (.getfield 12, 3) := by decide +kernel
theorem dX5_number_26 : decode cX5_number 26 = .ok (.getfield 68, 3) := by decide +kernel
theorem dX5_number_29 : decode cX5_number 29 = .ok (.invokevirtual 80, 3) := by decide +kernel
theorem dX5_number_32 : decode cX5_number 32 = .ok (.goto 6, 3) := by decide +kernel
theorem dX5_number_35 : decode cX5_number 35 = .ok (.ldc2_w 84, 3) := by decide +kernel
theorem dX5_number_38 : decode cX5_number 38 = .ok (.lreturn, 1) := by decide +kernel
set_option maxRecDepth 20000 in
theorem ggX5_distance_X5_isPoint : GoodIn wsX5_distance wsX5_isPoint := goodIn_r _ [8, 1, 9, 10, 11, 7, 12, 46, 47, 48, 49, 50, 51, 52, 53, 54, 55, 56, 57, 58] (by decide +kernel) (by decide +kernel)
set_option maxRecDepth 20000 in
theorem gX5_distance_X5_isPoint : GoodIn wsX5_distance (wsV RX5 64 RX5 yX5_isPoint wsX5_isPoint) := goodIn_app (goodIn_of _ (by decide +kernel)) ggX5_distance_X5_isPoint
set_option maxRecDepth 20000 in
theorem ggX5_distance_X3_read : GoodIn wsX5_distance wsX3_read := goodIn_r _ [17, 18, 19, 20, 21, 22, 23, 24, 25, 16, 26, 27, 28, 29, 30, 31, 32, 7, 33, 50, 51, 52, 53, 54, 55, 56, 57, 58] (by decide +kernel) (by decide +kernel)
set_option maxRecDepth 20000 in
theorem gX5_distance_X3_read : GoodIn wsX5_distance (wsV RX5 72 RX3 yX3_read wsX3_read) := goodIn_app (goodIn_of _ (by decide +kernel)) ggX5_distance_X3_read
set_option maxRecDepth 20000 in
theorem ggX5_distance_X3_apart : GoodIn wsX5_distance wsX3_apart := goodIn_r _ [37, 19, 38, 39, 40, 16, 41, 42, 43, 44, 45, 21, 32, 7, 33, 50, 51, 52, 53, 54, 55, 56, 57, 58] (by decide +kernel) (by decide +kernel)
set_option maxRecDepth 20000 in
theorem gX5_distance_X3_apart : GoodIn wsX5_distance (wsV RX5 89 RX3 yX3_apart wsX3_apart) := goodIn_app (goodIn_of _ (by decide +kernel)) ggX5_distance_X3_apart
theorem dX5_distance_0 : decode cX5_distance 0 = .ok (.aload_n 0, 1) := by decide +kernel
theorem dX5_distance_1 : decode cX5_distance 1 = .ok (.lload_n 1, 1) := by decide +kernel
theorem dX5_distance_2 : decode cX5_distance 2 = .ok (.invokevirtual 64, 3) := by decide +kernel
theorem dX5_distance_5 : decode cX5_distance 5 = .ok (.ifCond .eq 11, 3) := by decide +kernel
theorem dX5_distance_8 : decode cX5_distance 8 = .ok (.aload_n 0, 1) := by decide +kernel
theorem dX5_distance_9 : decode cX5_distance 9 = .ok (.lload_n 3, 1) := by decide +kernel
theorem dX5_distance_10 : decode cX5_distance 10 = .ok (.invokevirtual 64, 3) := by decide +kernel
theorem dX5_distance_13 : decode cX5_distance 13 = .ok (.ifCond .ne 5, 3) := by decide +kernel
theorem dX5_distance_16 : decode cX5_distance 16 = .ok (.iconst (-1), 1) := by decide +kernel
theorem dX5_distance_17 : decode cX5_distance 17 = .ok (.ireturn, 1) := by decide +kernel
theorem dX5_distance_18 : decode cX5_distance 18 = .ok (.aload_n 0, 1) := by decide +kernel
theorem dX5_distance_19 : decode cX5_distance 19 = .ok (.getfield 12, 3) := by decide +kernel
theorem dX5_distance_22 : decode cX5_distance 22 = .ok (.lload_n 1, 1) := by decide +kernel
theorem dX5_distance_23 : decode cX5_distance 23 = .ok (.aload_n 0, 1) := by decide +kernel
theorem dX5_distance_24 : decode cX5_distance 24 = .ok (.getfield 12, 3) := by decide +kernel
theorem dX5_distance_27 : decode cX5_distance 27 = .ok (.getfield 68, 3) := by decide +kernel
theorem dX5_distance_30 : decode cX5_distance 30 = .ok (.invokevirtual 72, 3) := by decide +kernel
theorem dX5_distance_33 : decode cX5_distance 33 = .ok (.aload_n 0, 1) := by decide +kernel
theorem dX5_distance_34 : decode cX5_distance 34 = .ok (.getfield 12, 3) := by decide +kernel
theorem dX5_distance_37 : decode cX5_distance 37 = .ok (.lload_n 3, 1) := by decide +kernel
theorem dX5_distance_38 : decode cX5_distance 38 = .ok (.aload_n 0, 1) := by decide +kernel
theorem dX5_distance_39 : decode cX5_distance 39 = .ok (.getfield 12, 3) := by decide +kernel
theorem dX5_distance_42 : decode cX5_distance 42 = .ok (.getfield 86, 3) := by decide +kernel
theorem dX5_distance_45 : decode cX5_distance 45 = .ok (.invokevirtual 72, 3) := by decide +kernel
theorem dX5_distance_48 : decode cX5_distance 48 = .ok (.aload_n 0, 1) := by decide +kernel
theorem dX5_distance_49 : decode cX5_distance 49 = .ok (.getfield 12, 3) := by decide +kernel
theorem dX5_distance_52 : decode cX5_distance 52 = .ok (.aload_n 0, 1) := by decide +kernel
theorem dX5_distance_53 : decode cX5_distance 53 = .ok (.getfield 12, 3) := by decide +kernel
theorem dX5_distance_56 : decode cX5_distance 56 = .ok (.getfield 68, 3) := by decide +kernel
theorem dX5_distance_59 : decode cX5_distance 59 = .ok (.aload_n 0, 1) := by decide +kernel
theorem dX5_distance_60 : decode cX5_distance 60 = .ok (.getfield 12, 3) := by decide +kernel
theorem dX5_distance_63 : decode cX5_distance 63 = .ok (.getfield 86, 3) := by decide +kernel
theorem dX5_distance_66 : decode cX5_distance 66 = .ok (.invokevirtual 89, 3) := by decide +kernel
theorem dX5_distance_69 : decode cX5_distance 69 = .ok (.ireturn, 1) := by decide +kernel
set_option maxRecDepth 20000 in
theorem ggX5_trial_X5_within : GoodIn wsX5_trial wsX5_within := goodIn_r _ [7] (by decide +kernel) (by decide +kernel)
set_option maxRecDepth 20000 in
theorem gX5_trial_X5_within : GoodIn wsX5_trial (va_wsS RX5 41 yX5_within wsX5_within) := goodIn_app (goodIn_of _ (by decide +kernel)) ggX5_trial_X5_within
set_option maxRecDepth 20000 in
theorem ggX5_trial_X5_placeBy : GoodIn wsX5_trial wsX5_placeBy := goodIn_r _ [11, 12, 13, 14, 15, 16, 6, 17, 18, 19, 20, 21, 22, 23, 24, 25, 26, 27, 28, 29, 30, 31, 32, 33, 34, 35, 36, 37, 38, 39, 40, 41, 42, 43, 44, 45, 46, 47, 48, 49, 50, 51, 52, 53, 54, 55, 56, 57, 58, 59, 60, 61, 62, 77, 78, 79, 80, 93, 94, 95, 96, 97, 98, 99, 100, 101] (by decide +kernel) (by decide +kernel)
set_option maxRecDepth 20000 in
theorem gX5_trial_X5_placeBy : GoodIn wsX5_trial (wsV RX5 95 RX5 yX5_placeBy wsX5_placeBy) := goodIn_app (goodIn_of _ (by decide +kernel)) ggX5_trial_X5_placeBy
set_option maxRecDepth 20000 in
theorem ggX5_trial_X4_add : GoodIn wsX5_trial wsX4_add := goodIn_r _ [67, 68, 69, 70, 71, 72, 73, 74, 75, 39, 76, 58, 41, 59, 42, 60, 43, 44, 45, 46, 47, 48, 49, 50, 51, 61, 6, 62, 81, 82, 83, 84, 85, 86, 87, 88, 89, 90, 91, 92, 93, 94, 95, 96, 97, 98, 99, 100, 101] (by decide +kernel) (by decide +kernel)
set_option maxRecDepth 20000 in
theorem gX5_trial_X4_add : GoodIn wsX5_trial (wsV RX5 99 RX4 yX4_add wsX4_add) := goodIn_app (goodIn_of _ (by decide +kernel)) ggX5_trial_X4_add
theorem dX5_trial_0 : decode cX5_trial 0 = .ok (.iload_n 1, 1) := by decide +kernel
theorem dX5_trial_1 : decode cX5_trial 1 = .ok (.i2l, 1) := by decide +kernel
theorem dX5_trial_2 : decode cX5_trial 2 = .ok (.lconst 0, 1) := by decide +kernel
theorem dX5_trial_3 : decode cX5_trial 3 = .ok (.ldc2_w 93, 3) := by decide +kernel
theorem dX5_trial_6 : decode cX5_trial 6 = .ok (.invokestatic 41, 3) := by decide +kernel
theorem dX5_trial_9 : decode cX5_trial 9 = .ok (.ifCond .eq 11, 3) := by decide +kernel
theorem dX5_trial_12 : decode cX5_trial 12 = .ok (.iload_n 1, 1) := by decide +kernel
theorem dX5_trial_13 : decode cX5_trial 13 = .ok (.ifCond .ne 9, 3) := by decide +kernel
theorem dX5_trial_16 : decode cX5_trial 16 = .ok (.iload_n 2, 1) := by decide +kernel
theorem dX5_trial_17 : decode cX5_trial 17 = .ok (.ifCond .ge 5, 3) := by decide +kernel
theorem dX5_trial_20 : decode cX5_trial 20 = .ok (.iconst (-1), 1) := by decide +kernel
theorem dX5_trial_21 : decode cX5_trial 21 = .ok (.ireturn, 1) := by decide +kernel
theorem dX5_trial_22 : decode cX5_trial 22 = .ok (.aload_n 0, 1) := by decide +kernel
theorem dX5_trial_23 : decode cX5_trial 23 = .ok (.getfield 21, 3) := by decide +kernel
theorem dX5_trial_26 : decode cX5_trial 26 = .ok (.getfield 53, 3) := by decide +kernel
theorem dX5_trial_29 : decode cX5_trial 29 = .ok (.bipush 60, 2) := by decide +kernel
theorem dX5_trial_31 : decode cX5_trial 31 = .ok (.if_icmp .ge 19, 3) := by decide +kernel
theorem dX5_trial_34 : decode cX5_trial 34 = .ok (.aload_n 0, 1) := by decide +kernel
theorem dX5_trial_35 : decode cX5_trial 35 = .ok (.getfield 21, 3) := by decide +kernel
theorem dX5_trial_38 : decode cX5_trial 38 = .ok (.aload_n 0, 1) := by decide +kernel
theorem dX5_trial_39 : decode cX5_trial 39 = .ok (.iload_n 1, 1) := by decide +kernel
theorem dX5_trial_40 : decode cX5_trial 40 = .ok (.iload_n 2, 1) := by decide +kernel
theorem dX5_trial_41 : decode cX5_trial 41 = .ok (.invokevirtual 95, 3) := by decide +kernel
theorem dX5_trial_44 : decode cX5_trial 44 = .ok (.invokevirtual 99, 3) := by decide +kernel
theorem dX5_trial_47 : decode cX5_trial 47 = .ok (.goto 5, 3) := by decide +kernel
theorem dX5_trial_50 : decode cX5_trial 50 = .ok (.bipush (-4), 2) := by decide +kernel
theorem dX5_trial_52 : decode cX5_trial 52 = .ok (.ireturn, 1) := by decide +kernel
set_option maxRecDepth 20000 in
theorem ggX5_guess_X5_within : GoodIn wsX5_guess wsX5_within := goodIn_r _ [8] (by decide +kernel) (by decide +kernel)
set_option maxRecDepth 20000 in
theorem gX5_guess_X5_within : GoodIn wsX5_guess (va_wsS RX5 41 yX5_within wsX5_within) := goodIn_app (goodIn_of _ (by decide +kernel)) ggX5_guess_X5_within
set_option maxRecDepth 20000 in
theorem ggX5_guess_X4_bestCandidate : GoodIn wsX5_guess wsX4_bestCandidate := goodIn_r _ [13, 14, 15, 16, 17, 18, 19, 20, 21, 22, 23, 24, 25, 26, 27, 28, 29, 30, 31, 32, 33, 34, 35, 36, 37, 38, 12, 39, 40, 41, 42, 43, 44, 45, 46, 47, 48, 49, 50, 51, 52, 53, 54, 55, 56, 57, 58, 59, 60, 61, 62, 63, 64, 65, 7, 66, 67, 68, 69, 70, 71, 72, 73, 74, 75, 76, 77, 78, 79, 80, 81, 82, 83, 84, 85, 86, 96, 97, 98, 99, 100, 101, 102, 103, 104, 105, 106, 107, 108, 109, 110, 111, 112, 113, 114, 115, 116] (by decide +kernel) (by decide +kernel)
set_option maxRecDepth 20000 in
theorem gX5_guess_X4_bestCandidate : GoodIn wsX5_guess (wsV RX5 106 RX4 yX4_bestCandidate wsX4_bestCandidate) := goodIn_app (goodIn_of _ (by decide +kernel)) ggX5_guess_X4_bestCandidate
set_option maxRecDepth 20000 in
theorem ggX5_guess_X4_add : GoodIn wsX5_guess wsX4_add := goodIn_r _ [90, 41, 91, 42, 14, 43, 46, 47, 48, 49, 50, 51, 52, 53, 54, 55, 56, 57, 58, 59, 60, 61, 62, 63, 64, 65, 7, 66, 96, 97, 98, 99, 100, 101, 102, 103, 104, 105, 106, 107, 108, 109, 110, 111, 112, 113, 114, 115, 116] (by decide +kernel) (by decide +kernel)
set_option maxRecDepth 20000 in
theorem gX5_guess_X4_add : GoodIn wsX5_guess (wsV RX5 99 RX4 yX4_add wsX4_add) := goodIn_app (goodIn_of _ (by decide +kernel)) ggX5_guess_X4_add
theorem dX5_guess_0 : decode cX5_guess 0 = .ok (.iload_n 2, 1) := by decide +kernel
theorem dX5_guess_1 : decode cX5_guess 1 = .ok (.i2l, 1) := by decide +kernel
theorem dX5_guess_2 : decode cX5_guess 2 = .ok (.lconst 1, 1) := by decide +kernel
theorem dX5_guess_3 : decode cX5_guess 3 = .ok (.ldc2_w 102, 3) := by decide +kernel
theorem dX5_guess_6 : decode cX5_guess 6 = .ok (.invokestatic 41, 3) := by decide +kernel
theorem dX5_guess_9 : decode cX5_guess 9 = .ok (.ifCond .eq 15, 3) := by decide +kernel
theorem dX5_guess_12 : decode cX5_guess 12 = .ok (.iload_n 3, 1) := by decide +kernel
theorem dX5_guess_13 : decode cX5_guess 13 = .ok (.i2l, 1) := by decide +kernel
theorem dX5_guess_14 : decode cX5_guess 14 = .ok (.lconst 1, 1) := by decide +kernel
theorem dX5_guess_15 : decode cX5_guess 15 = .ok (.ldc2_w 104, 3) := by decide +kernel
theorem dX5_guess_18 : decode cX5_guess 18 = .ok (.invokestatic 41, 3) := by decide +kernel
theorem dX5_guess_21 : decode cX5_guess 21 = .ok (.ifCond .ne 5, 3) := by decide +kernel
theorem dX5_guess_24 : decode cX5_guess 24 = .ok (.iconst (-1), 1) := by decide +kernel
theorem dX5_guess_25 : decode cX5_guess 25 = .ok (.ireturn, 1) := by decide +kernel
theorem dX5_guess_26 : decode cX5_guess 26 = .ok (.aload_n 0, 1) := by decide +kernel
theorem dX5_guess_27 : decode cX5_guess 27 = .ok (.getfield 21, 3) := by decide +kernel
theorem dX5_guess_30 : decode cX5_guess 30 = .ok (.getfield 53, 3) := by decide +kernel
theorem dX5_guess_33 : decode cX5_guess 33 = .ok (.bipush 60, 2) := by decide +kernel
theorem dX5_guess_35 : decode cX5_guess 35 = .ok (.if_icmp .ge 23, 3) := by decide +kernel
theorem dX5_guess_38 : decode cX5_guess 38 = .ok (.aload_n 0, 1) := by decide +kernel
theorem dX5_guess_39 : decode cX5_guess 39 = .ok (.getfield 21, 3) := by decide +kernel
theorem dX5_guess_42 : decode cX5_guess 42 = .ok (.aload_n 0, 1) := by decide +kernel
theorem dX5_guess_43 : decode cX5_guess 43 = .ok (.getfield 21, 3) := by decide +kernel
theorem dX5_guess_46 : decode cX5_guess 46 = .ok (.iload_n 1, 1) := by decide +kernel
theorem dX5_guess_47 : decode cX5_guess 47 = .ok (.iload_n 2, 1) := by decide +kernel
theorem dX5_guess_48 : decode cX5_guess 48 = .ok (.iload_n 3, 1) := by decide +kernel
theorem dX5_guess_49 : decode cX5_guess 49 = .ok (.invokevirtual 106, 3) := by decide +kernel
theorem dX5_guess_52 : decode cX5_guess 52 = .ok (.invokevirtual 99, 3) := by decide +kernel
theorem dX5_guess_55 : decode cX5_guess 55 = .ok (.goto 5, 3) := by decide +kernel
theorem dX5_guess_58 : decode cX5_guess 58 = .ok (.bipush (-4), 2) := by decide +kernel
theorem dX5_guess_60 : decode cX5_guess 60 = .ok (.ireturn, 1) := by decide +kernel
set_option maxRecDepth 20000 in
theorem ggX5_forecast_X5_isPoint : GoodIn wsX5_forecast wsX5_isPoint := goodIn_r _ [17, 18, 19, 20, 21, 16, 22, 80, 81, 82, 83, 96, 97, 98, 99, 100, 101, 102, 103, 104] (by decide +kernel) (by decide +kernel)
set_option maxRecDepth 20000 in
theorem gX5_forecast_X5_isPoint : GoodIn wsX5_forecast (wsV RX5 64 RX5 yX5_isPoint wsX5_isPoint) := goodIn_app (goodIn_of _ (by decide +kernel)) ggX5_forecast_X5_isPoint
set_option maxRecDepth 20000 in
theorem ggX5_forecast_X5_within : GoodIn wsX5_forecast wsX5_within := goodIn_r _ [22] (by decide +kernel) (by decide +kernel)
set_option maxRecDepth 20000 in
theorem gX5_forecast_X5_within : GoodIn wsX5_forecast (va_wsS RX5 41 yX5_within wsX5_within) := goodIn_app (goodIn_of _ (by decide +kernel)) ggX5_forecast_X5_within
set_option maxRecDepth 20000 in
theorem ggX5_forecast_X4_nearSum : GoodIn wsX5_forecast wsX4_nearSum := goodIn_r _ [27, 28, 29, 30, 31, 32, 33, 34, 35, 36, 37, 38, 39, 40, 41, 42, 43, 44, 45, 46, 47, 48, 49, 50, 51, 52, 53, 54, 16, 55, 56, 57, 58, 59, 60, 61, 62, 63, 64, 65, 8, 66, 67, 68, 69, 26, 70, 71, 72, 7, 9, 84, 85, 86, 87, 88, 89, 90, 91, 92, 93, 94, 95, 96, 97, 98, 99, 100, 101, 102, 103, 104] (by decide +kernel) (by decide +kernel)
set_option maxRecDepth 20000 in
theorem gX5_forecast_X4_nearSum : GoodIn wsX5_forecast (wsV RX5 117 RX4 yX4_nearSum wsX4_nearSum) := goodIn_app (goodIn_of _ (by decide +kernel)) ggX5_forecast_X4_nearSum
set_option maxRecDepth 20000 in
theorem ggX5_forecast_X5_commonDivisor : GoodIn wsX5_forecast wsX5_commonDivisor := goodIn_r _ [75, 76, 77, 16, 78] (by decide +kernel) (by decide +kernel)
set_option maxRecDepth 20000 in
theorem gX5_forecast_X5_commonDivisor : GoodIn wsX5_forecast (va_wsS RX5 131 yX5_commonDivisor wsX5_commonDivisor) := goodIn_app (goodIn_of _ (by decide +kernel)) ggX5_forecast_X5_commonDivisor
set_option maxRecDepth 20000 in
theorem ggX5_forecast_X5_cut : GoodIn wsX5_forecast wsX5_cut := goodIn_r _ [55] (by decide +kernel) (by decide +kernel)
set_option maxRecDepth 20000 in
theorem gX5_forecast_X5_cut : GoodIn wsX5_forecast (va_wsS RX5 135 yX5_cut wsX5_cut) := goodIn_app (goodIn_of _ (by decide +kernel)) ggX5_forecast_X5_cut
theorem dX5_forecast_0 : decode cX5_forecast 0 = .ok (.aload_n 0, 1) := by decide +kernel
theorem dX5_forecast_1 : decode cX5_forecast 1 = .ok (.lload_n 1, 1) := by decide +kernel
theorem dX5_forecast_2 : decode cX5_forecast 2 = .ok (.invokevirtual 64, 3) := by decide +kernel
theorem dX5_forecast_5 : decode cX5_forecast 5 = .ok (.ifCond .eq 26, 3) := by decide +kernel
theorem dX5_forecast_8 : decode cX5_forecast 8 = .ok (.iload_n 3, 1) := by decide +kernel
theorem dX5_forecast_9 : decode cX5_forecast 9 = .ok (.i2l, 1) := by decide +kernel
theorem dX5_forecast_10 : decode cX5_forecast 10 = .ok (.lconst 1, 1) := by decide +kernel
theorem dX5_forecast_11 : decode cX5_forecast 11 = .ok (.ldc2_w 104, 3) := by decide +kernel
theorem dX5_forecast_14 : decode cX5_forecast 14 = .ok (.invokestatic 41, 3) := by decide +kernel
theorem dX5_forecast_17 : decode cX5_forecast 17 = .ok (.ifCond .eq 14, 3) := by decide +kernel
theorem dX5_forecast_20 : decode cX5_forecast 20 = .ok (.iload 4, 2) := by decide +kernel
theorem dX5_forecast_22 : decode cX5_forecast 22 = .ok (.i2l, 1) := by decide +kernel
theorem dX5_forecast_23 : decode cX5_forecast 23 = .ok (.lconst 0, 1) := by decide +kernel
theorem dX5_forecast_24 : decode cX5_forecast 24 = .ok (.lconst 1, 1) := by decide +kernel
theorem dX5_forecast_25 : decode cX5_forecast 25 = .ok (.invokestatic 41, 3) := by decide +kernel
theorem dX5_forecast_28 : decode cX5_forecast 28 = .ok (.ifCond .ne 7, 3) := by decide +kernel
theorem dX5_forecast_31 : decode cX5_forecast 31 = .ok (.ldc2_w 110, 3) := by decide +kernel
theorem dX5_forecast_34 : decode cX5_forecast 34 = .ok (.lreturn, 1) := by decide +kernel
theorem dX5_forecast_35 : decode cX5_forecast 35 = .ok (.aload_n 0, 1) := by decide +kernel
theorem dX5_forecast_36 : decode cX5_forecast 36 = .ok (.getfield 21, 3) := by decide +kernel
theorem dX5_forecast_39 : decode cX5_forecast 39 = .ok (.getfield 112, 3) := by decide +kernel
theorem dX5_forecast_42 : decode cX5_forecast 42 = .ok (.ifCond .ne 7, 3) := by decide +kernel
theorem dX5_forecast_45 : decode cX5_forecast 45 = .ok (.ldc2_w 115, 3) := by decide +kernel
theorem dX5_forecast_48 : decode cX5_forecast 48 = .ok (.lreturn, 1) := by decide +kernel
theorem dX5_forecast_49 : decode cX5_forecast 49 = .ok (.aload_n 0, 1) := by decide +kernel
theorem dX5_forecast_50 : decode cX5_forecast 50 = .ok (.getfield 21, 3) := by decide +kernel
theorem dX5_forecast_53 : decode cX5_forecast 53 = .ok (.lload_n 1, 1) := by decide +kernel
theorem dX5_forecast_54 : decode cX5_forecast 54 = .ok (.iload_n 3, 1) := by decide +kernel
theorem dX5_forecast_55 : decode cX5_forecast 55 = .ok (.invokevirtual 117, 3) := by decide +kernel
theorem dX5_forecast_58 : decode cX5_forecast 58 = .ok (.lstore 5, 2) := by decide +kernel
theorem dX5_forecast_60 : decode cX5_forecast 60 = .ok (.iload_n 3, 1) := by decide +kernel
theorem dX5_forecast_61 : decode cX5_forecast 61 = .ok (.aload_n 0, 1) := by decide +kernel
theorem dX5_forecast_62 : decode cX5_forecast 62 = .ok (.getfield 21, 3) := by decide +kernel
theorem dX5_forecast_65 : decode cX5_forecast 65 = .ok (.getfield 112, 3) := by decide +kernel
theorem dX5_forecast_68 : decode cX5_forecast 68 = .ok (.invokestatic 121, 3) := by decide +kernel
theorem dX5_forecast_71 : decode cX5_forecast 71 = .ok (.i2l, 1) := by decide +kernel
theorem dX5_forecast_72 : decode cX5_forecast 72 = .ok (.lstore 7, 2) := by decide +kernel
theorem dX5_forecast_74 : decode cX5_forecast 74 = .ok (.lload 5, 2) := by decide +kernel
theorem dX5_forecast_76 : decode cX5_forecast 76 = .ok (.invokestatic 127, 3) := by decide +kernel
theorem dX5_forecast_79 : decode cX5_forecast 79 = .ok (.lload 7, 2) := by decide +kernel
theorem dX5_forecast_81 : decode cX5_forecast 81 = .ok (.invokestatic 131, 3) := by decide +kernel
theorem dX5_forecast_84 : decode cX5_forecast 84 = .ok (.lstore 9, 2) := by decide +kernel
theorem dX5_forecast_86 : decode cX5_forecast 86 = .ok (.iload 4, 2) := by decide +kernel
theorem dX5_forecast_88 : decode cX5_forecast 88 = .ok (.ifCond .ne 8, 3) := by decide +kernel
theorem dX5_forecast_91 : decode cX5_forecast 91 = .ok (.lload 5, 2) := by decide +kernel
theorem dX5_forecast_93 : decode cX5_forecast 93 = .ok (.goto 5, 3) := by decide +kernel
theorem dX5_forecast_96 : decode cX5_forecast 96 = .ok (.lload 7, 2) := by decide +kernel
theorem dX5_forecast_98 : decode cX5_forecast 98 = .ok (.lload 9, 2) := by decide +kernel
theorem dX5_forecast_100 : decode cX5_forecast 100 = .ok (.invokestatic 135, 3) := by decide +kernel
theorem dX5_forecast_103 : decode cX5_forecast 103 = .ok (.lreturn, 1) := by decide +kernel
set_option maxRecDepth 20000 in
theorem ggX5_score_X5_isTrial : GoodIn wsX5_score wsX5_isTrial := goodIn_r _ [7, 1, 8, 9, 10, 6, 11, 25, 26, 27, 28, 29, 30, 31, 32, 33, 34, 35, 36, 37, 38, 39, 40] (by decide +kernel) (by decide +kernel)
set_option maxRecDepth 20000 in
theorem gX5_score_X5_isTrial : GoodIn wsX5_score (wsV RX5 138 RX5 yX5_isTrial wsX5_isTrial) := goodIn_app (goodIn_of _ (by decide +kernel)) ggX5_score_X5_isTrial
set_option maxRecDepth 20000 in
theorem ggX5_score_X5_isMark : GoodIn wsX5_score wsX5_isMark := goodIn_r _ [14, 15, 16, 9, 10, 6, 11] (by decide +kernel) (by decide +kernel)
set_option maxRecDepth 20000 in
theorem gX5_score_X5_isMark : GoodIn wsX5_score (va_wsS RX5 142 yX5_isMark wsX5_isMark) := goodIn_app (goodIn_of _ (by decide +kernel)) ggX5_score_X5_isMark
set_option maxRecDepth 20000 in
theorem ggX5_score_X4_close : GoodIn wsX5_score wsX4_close := goodIn_r _ [21, 22, 23, 24, 29, 30, 31, 32, 33, 34, 35, 36, 37, 38, 39, 40] (by decide +kernel) (by decide +kernel)
set_option maxRecDepth 20000 in
theorem gX5_score_X4_close : GoodIn wsX5_score (wsV RX5 149 RX4 yX4_close wsX4_close) := goodIn_app (goodIn_of _ (by decide +kernel)) ggX5_score_X4_close
theorem dX5_score_0 : decode cX5_score 0 = .ok (.aload_n 0, 1) := by decide +kernel
theorem dX5_score_1 : decode cX5_score 1 = .ok (.iload_n 1, 1) := by decide +kernel
theorem dX5_score_2 : decode cX5_score 2 = .ok (.invokevirtual 138, 3) := by decide +kernel
theorem dX5_score_5 : decode cX5_score 5 = .ok (.ifCond .eq 11, 3) := by decide +kernel
theorem dX5_score_8 : decode cX5_score 8 = .ok (.iload_n 2, 1) := by decide +kernel
theorem dX5_score_9 : decode cX5_score 9 = .ok (.iload_n 3, 1) := by decide +kernel
theorem dX5_score_10 : decode cX5_score 10 = .ok (.invokestatic 142, 3) := by decide +kernel
theorem dX5_score_13 : decode cX5_score 13 = .ok (.ifCond .ne 5, 3) := by decide +kernel
theorem dX5_score_16 : decode cX5_score 16 = .ok (.iconst (-1), 1) := by decide +kernel
theorem dX5_score_17 : decode cX5_score 17 = .ok (.ireturn, 1) := by decide +kernel
theorem dX5_score_18 : decode cX5_score 18 = .ok (.aload_n 0, 1) := by decide +kernel
theorem dX5_score_19 : decode cX5_score 19 = .ok (.getfield 21, 3) := by decide +kernel
theorem dX5_score_22 : decode cX5_score 22 = .ok (.getfield 146, 3) := by decide +kernel
theorem dX5_score_25 : decode cX5_score 25 = .ok (.iload_n 1, 1) := by decide +kernel
theorem dX5_score_26 : decode cX5_score 26 = .ok (.iaload, 1) := by decide +kernel
theorem dX5_score_27 : decode cX5_score 27 = .ok (.ifCond .ne 16, 3) := by decide +kernel
theorem dX5_score_30 : decode cX5_score 30 = .ok (.aload_n 0, 1) := by decide +kernel
theorem dX5_score_31 : decode cX5_score 31 = .ok (.getfield 21, 3) := by decide +kernel
theorem dX5_score_34 : decode cX5_score 34 = .ok (.iload_n 1, 1) := by decide +kernel
theorem dX5_score_35 : decode cX5_score 35 = .ok (.iload_n 2, 1) := by decide +kernel
theorem dX5_score_36 : decode cX5_score 36 = .ok (.iload_n 3, 1) := by decide +kernel
theorem dX5_score_37 : decode cX5_score 37 = .ok (.invokevirtual 149, 3) := by decide +kernel
theorem dX5_score_40 : decode cX5_score 40 = .ok (.goto 5, 3) := by decide +kernel
theorem dX5_score_43 : decode cX5_score 43 = .ok (.bipush (-3), 2) := by decide +kernel
theorem dX5_score_45 : decode cX5_score 45 = .ok (.ireturn, 1) := by decide +kernel
set_option maxRecDepth 20000 in
theorem ggX5_report_X5_isTrial : GoodIn wsX5_report wsX5_isTrial := goodIn_r _ [9, 2, 10, 11, 12, 8, 13, 37, 38, 39, 40, 41, 42, 43, 44, 45, 46, 47, 48, 49, 50, 51, 52] (by decide +kernel) (by decide +kernel)
set_option maxRecDepth 20000 in
theorem gX5_report_X5_isTrial : GoodIn wsX5_report (wsV RX5 138 RX5 yX5_isTrial wsX5_isTrial) := goodIn_app (goodIn_of _ (by decide +kernel)) ggX5_report_X5_isTrial
set_option maxRecDepth 20000 in
theorem ggX5_report_X5_isMark : GoodIn wsX5_report wsX5_isMark := goodIn_r _ [16, 17, 18, 11, 12, 8, 13] (by decide +kernel) (by decide +kernel)
set_option maxRecDepth 20000 in
theorem gX5_report_X5_isMark : GoodIn wsX5_report (va_wsS RX5 142 yX5_isMark wsX5_isMark) := goodIn_app (goodIn_of _ (by decide +kernel)) ggX5_report_X5_isMark
set_option maxRecDepth 20000 in
theorem ggX5_report_X5_within : GoodIn wsX5_report wsX5_within := goodIn_r _ [13] (by decide +kernel) (by decide +kernel)
set_option maxRecDepth 20000 in
theorem gX5_report_X5_within : GoodIn wsX5_report (va_wsS RX5 41 yX5_within wsX5_within) := goodIn_app (goodIn_of _ (by decide +kernel)) ggX5_report_X5_within
set_option maxRecDepth 20000 in
theorem ggX5_report_X4_addReport : GoodIn wsX5_report wsX4_addReport := goodIn_r _ [23, 24, 25, 26, 27, 28, 29, 22, 30, 31, 32, 33, 34, 35, 36, 41, 42, 43, 44, 45, 46, 47, 48, 49, 50, 51, 52] (by decide +kernel) (by decide +kernel)
set_option maxRecDepth 20000 in
theorem gX5_report_X4_addReport : GoodIn wsX5_report (wsV RX5 158 RX4 yX4_addReport wsX4_addReport) := goodIn_app (goodIn_of _ (by decide +kernel)) ggX5_report_X4_addReport
theorem dX5_report_0 : decode cX5_report 0 = .ok (.aload_n 0, 1) := by decide +kernel
theorem dX5_report_1 : decode cX5_report 1 = .ok (.iload_n 1, 1) := by decide +kernel
theorem dX5_report_2 : decode cX5_report 2 = .ok (.invokevirtual 138, 3) := by decide +kernel
theorem dX5_report_5 : decode cX5_report 5 = .ok (.ifCond .eq 23, 3) := by decide +kernel
theorem dX5_report_8 : decode cX5_report 8 = .ok (.iload_n 2, 1) := by decide +kernel
theorem dX5_report_9 : decode cX5_report 9 = .ok (.iconst 1, 1) := by decide +kernel
theorem dX5_report_10 : decode cX5_report 10 = .ok (.invokestatic 142, 3) := by decide +kernel
theorem dX5_report_13 : decode cX5_report 13 = .ok (.ifCond .eq 15, 3) := by decide +kernel
theorem dX5_report_16 : decode cX5_report 16 = .ok (.iload_n 3, 1) := by decide +kernel
theorem dX5_report_17 : decode cX5_report 17 = .ok (.i2l, 1) := by decide +kernel
theorem dX5_report_18 : decode cX5_report 18 = .ok (.lconst 0, 1) := by decide +kernel
theorem dX5_report_19 : decode cX5_report 19 = .ok (.ldc2_w 153, 3) := by decide +kernel
theorem dX5_report_22 : decode cX5_report 22 = .ok (.invokestatic 41, 3) := by decide +kernel
theorem dX5_report_25 : decode cX5_report 25 = .ok (.ifCond .ne 5, 3) := by decide +kernel
theorem dX5_report_28 : decode cX5_report 28 = .ok (.iconst (-1), 1) := by decide +kernel
theorem dX5_report_29 : decode cX5_report 29 = .ok (.ireturn, 1) := by decide +kernel
theorem dX5_report_30 : decode cX5_report 30 = .ok (.aload_n 0, 1) := by decide +kernel
theorem dX5_report_31 : decode cX5_report 31 = .ok (.getfield 21, 3) := by decide +kernel
theorem dX5_report_34 : decode cX5_report 34 = .ok (.getfield 146, 3) := by decide +kernel
theorem dX5_report_37 : decode cX5_report 37 = .ok (.iload_n 1, 1) := by decide +kernel
theorem dX5_report_38 : decode cX5_report 38 = .ok (.iaload, 1) := by decide +kernel
theorem dX5_report_39 : decode cX5_report 39 = .ok (.ifCond .eq 6, 3) := by decide +kernel
theorem dX5_report_42 : decode cX5_report 42 = .ok (.bipush (-3), 2) := by decide +kernel
theorem dX5_report_44 : decode cX5_report 44 = .ok (.ireturn, 1) := by decide +kernel
theorem dX5_report_45 : decode cX5_report 45 = .ok (.aload_n 0, 1) := by decide +kernel
theorem dX5_report_46 : decode cX5_report 46 = .ok (.getfield 21, 3) := by decide +kernel
theorem dX5_report_49 : decode cX5_report 49 = .ok (.getfield 155, 3) := by decide +kernel
theorem dX5_report_52 : decode cX5_report 52 = .ok (.iload_n 1, 1) := by decide +kernel
theorem dX5_report_53 : decode cX5_report 53 = .ok (.iaload, 1) := by decide +kernel
theorem dX5_report_54 : decode cX5_report 54 = .ok (.bipush 20, 2) := by decide +kernel
theorem dX5_report_56 : decode cX5_report 56 = .ok (.if_icmp .ge 16, 3) := by decide +kernel
theorem dX5_report_59 : decode cX5_report 59 = .ok (.aload_n 0, 1) := by decide +kernel
theorem dX5_report_60 : decode cX5_report 60 = .ok (.getfield 21, 3) := by decide +kernel
theorem dX5_report_63 : decode cX5_report 63 = .ok (.iload_n 1, 1) := by decide +kernel
theorem dX5_report_64 : decode cX5_report 64 = .ok (.iload_n 2, 1) := by decide +kernel
theorem dX5_report_65 : decode cX5_report 65 = .ok (.iload_n 3, 1) := by decide +kernel
theorem dX5_report_66 : decode cX5_report 66 = .ok (.invokevirtual 158, 3) := by decide +kernel
theorem dX5_report_69 : decode cX5_report 69 = .ok (.goto 5, 3) := by decide +kernel
theorem dX5_report_72 : decode cX5_report 72 = .ok (.bipush (-4), 2) := by decide +kernel
theorem dX5_report_74 : decode cX5_report 74 = .ok (.ireturn, 1) := by decide +kernel
set_option maxRecDepth 20000 in
theorem ggX5_told_X5_isTrial : GoodIn wsX5_told wsX5_isTrial := goodIn_r _ [11, 1, 12, 13, 14, 10, 15, 22, 23, 24, 25, 26, 27, 28, 29, 30, 31, 32, 33, 34, 35, 36, 37] (by decide +kernel) (by decide +kernel)
set_option maxRecDepth 20000 in
theorem gX5_told_X5_isTrial : GoodIn wsX5_told (wsV RX5 138 RX5 yX5_isTrial wsX5_isTrial) := goodIn_app (goodIn_of _ (by decide +kernel)) ggX5_told_X5_isTrial
set_option maxRecDepth 20000 in
theorem ggX5_told_X1_isIn : GoodIn wsX5_told wsX1_isIn := goodIn_r _ [20, 21, 38, 39, 40, 41, 42, 43, 44, 45, 46, 47] (by decide +kernel) (by decide +kernel)
set_option maxRecDepth 20000 in
theorem gX5_told_X1_isIn : GoodIn wsX5_told (wsV RX5 167 RX1 yX1_isIn wsX1_isIn) := goodIn_app (goodIn_of _ (by decide +kernel)) ggX5_told_X1_isIn
theorem dX5_told_0 : decode cX5_told 0 = .ok (.aload_n 0, 1) := by decide +kernel
theorem dX5_told_1 : decode cX5_told 1 = .ok (.iload_n 1, 1) := by decide +kernel
theorem dX5_told_2 : decode cX5_told 2 = .ok (.invokevirtual 138, 3) := by decide +kernel
theorem dX5_told_5 : decode cX5_told 5 = .ok (.ifCond .ne 5, 3) := by decide +kernel
theorem dX5_told_8 : decode cX5_told 8 = .ok (.iconst (-1), 1) := by decide +kernel
theorem dX5_told_9 : decode cX5_told 9 = .ok (.ireturn, 1) := by decide +kernel
theorem dX5_told_10 : decode cX5_told 10 = .ok (.iload_n 2, 1) := by decide +kernel
theorem dX5_told_11 : decode cX5_told 11 = .ok (.tableswitch 90 0 4 #[33, 43, 53, 63, 73], 33) := by decide +kernel
theorem dX5_told_44 : decode cX5_told 44 = .ok (.aload_n 0, 1) := by decide +kernel
theorem dX5_told_45 : decode cX5_told 45 = .ok (.getfield 21, 3) := by decide +kernel
theorem dX5_told_48 : decode cX5_told 48 = .ok (.getfield 146, 3) := by decide +kernel
theorem dX5_told_51 : decode cX5_told 51 = .ok (.iload_n 1, 1) := by decide +kernel
theorem dX5_told_52 : decode cX5_told 52 = .ok (.iaload, 1) := by decide +kernel
theorem dX5_told_53 : decode cX5_told 53 = .ok (.ireturn, 1) := by decide +kernel
theorem dX5_told_54 : decode cX5_told 54 = .ok (.aload_n 0, 1) := by decide +kernel
theorem dX5_told_55 : decode cX5_told 55 = .ok (.getfield 21, 3) := by decide +kernel
theorem dX5_told_58 : decode cX5_told 58 = .ok (.getfield 161, 3) := by decide +kernel
theorem dX5_told_61 : decode cX5_told 61 = .ok (.iload_n 1, 1) := by decide +kernel
theorem dX5_told_62 : decode cX5_told 62 = .ok (.iaload, 1) := by decide +kernel
theorem dX5_told_63 : decode cX5_told 63 = .ok (.ireturn, 1) := by decide +kernel
theorem dX5_told_64 : decode cX5_told 64 = .ok (.aload_n 0, 1) := by decide +kernel
theorem dX5_told_65 : decode cX5_told 65 = .ok (.getfield 21, 3) := by decide +kernel
theorem dX5_told_68 : decode cX5_told 68 = .ok (.getfield 155, 3) := by decide +kernel
theorem dX5_told_71 : decode cX5_told 71 = .ok (.iload_n 1, 1) := by decide +kernel
theorem dX5_told_72 : decode cX5_told 72 = .ok (.iaload, 1) := by decide +kernel
theorem dX5_told_73 : decode cX5_told 73 = .ok (.ireturn, 1) := by decide +kernel
theorem dX5_told_74 : decode cX5_told 74 = .ok (.aload_n 0, 1) := by decide +kernel
theorem dX5_told_75 : decode cX5_told 75 = .ok (.getfield 28, 3) := by decide +kernel
theorem dX5_told_78 : decode cX5_told 78 = .ok (.getfield 164, 3) := by decide +kernel
theorem dX5_told_81 : decode cX5_told 81 = .ok (.iload_n 1, 1) := by decide +kernel
theorem dX5_told_82 : decode cX5_told 82 = .ok (.iaload, 1) := by decide +kernel
theorem dX5_told_83 : decode cX5_told 83 = .ok (.ireturn, 1) := by decide +kernel
theorem dX5_told_84 : decode cX5_told 84 = .ok (.aload_n 0, 1) := by decide +kernel
theorem dX5_told_85 : decode cX5_told 85 = .ok (.getfield 28, 3) := by decide +kernel
theorem dX5_told_88 : decode cX5_told 88 = .ok (.iload_n 1, 1) := by decide +kernel
theorem dX5_told_89 : decode cX5_told 89 = .ok (.invokevirtual 167, 3) := by decide +kernel
theorem dX5_told_92 : decode cX5_told 92 = .ok (.ifCond .eq 7, 3) := by decide +kernel
theorem dX5_told_95 : decode cX5_told 95 = .ok (.iconst 1, 1) := by decide +kernel
theorem dX5_told_96 : decode cX5_told 96 = .ok (.goto 4, 3) := by decide +kernel
theorem dX5_told_99 : decode cX5_told 99 = .ok (.iconst 0, 1) := by decide +kernel
theorem dX5_told_100 : decode cX5_told 100 = .ok (.ireturn, 1) := by decide +kernel
theorem dX5_told_101 : decode cX5_told 101 = .ok (.iconst (-1), 1) := by decide +kernel
theorem dX5_told_102 : decode cX5_told 102 = .ok (.ireturn, 1) := by decide +kernel
set_option maxRecDepth 20000 in
theorem ggX5_point_X5_isTrial : GoodIn wsX5_point wsX5_isTrial := goodIn_r _ [8, 1, 9, 10, 11, 7, 12, 13, 14, 15, 16, 17, 18, 19, 20, 21, 22, 23, 24, 25, 26, 27, 28] (by decide +kernel) (by decide +kernel)
set_option maxRecDepth 20000 in
theorem gX5_point_X5_isTrial : GoodIn wsX5_point (wsV RX5 138 RX5 yX5_isTrial wsX5_isTrial) := goodIn_app (goodIn_of _ (by decide +kernel)) ggX5_point_X5_isTrial
theorem dX5_point_0 : decode cX5_point 0 = .ok (.aload_n 0, 1) := by decide +kernel
theorem dX5_point_1 : decode cX5_point 1 = .ok (.iload_n 1, 1) := by decide +kernel
theorem dX5_point_2 : decode cX5_point 2 = .ok (.invokevirtual 138, 3) := by decide +kernel
theorem dX5_point_5 : decode cX5_point 5 = .ok (.ifCond .eq 15, 3) := by decide +kernel
theorem dX5_point_8 : decode cX5_point 8 = .ok (.aload_n 0, 1) := by decide +kernel
theorem dX5_point_9 : decode cX5_point 9 = .ok (.getfield 21, 3) := by decide +kernel
theorem dX5_point_12 : decode cX5_point 12 = .ok (.getfield 170, 3) := by decide +kernel
theorem dX5_point_15 : decode cX5_point 15 = .ok (.iload_n 1, 1) := by decide +kernel
theorem dX5_point_16 : decode cX5_point 16 = .ok (.laload, 1) := by decide +kernel
theorem dX5_point_17 : decode cX5_point 17 = .ok (.goto 6, 3) := by decide +kernel
theorem dX5_point_20 : decode cX5_point 20 = .ok (.ldc2_w 45, 3) := by decide +kernel
theorem dX5_point_23 : decode cX5_point 23 = .ok (.lreturn, 1) := by decide +kernel
set_option maxRecDepth 20000 in
theorem ggX5_reported_X5_isTrial : GoodIn wsX5_reported wsX5_isTrial := goodIn_r _ [9, 1, 10, 11, 12, 8, 13, 14, 15, 16, 17, 18, 19, 20, 21, 22, 23, 24, 25, 26, 27, 28, 29] (by decide +kernel) (by decide +kernel)
set_option maxRecDepth 20000 in
theorem gX5_reported_X5_isTrial : GoodIn wsX5_reported (wsV RX5 138 RX5 yX5_isTrial wsX5_isTrial) := goodIn_app (goodIn_of _ (by decide +kernel)) ggX5_reported_X5_isTrial
set_option maxRecDepth 20000 in
theorem ggX5_reported_X5_within : GoodIn wsX5_reported wsX5_within := goodIn_r _ [13] (by decide +kernel) (by decide +kernel)
set_option maxRecDepth 20000 in
theorem gX5_reported_X5_within : GoodIn wsX5_reported (va_wsS RX5 41 yX5_within wsX5_within) := goodIn_app (goodIn_of _ (by decide +kernel)) ggX5_reported_X5_within
theorem dX5_reported_0 : decode cX5_reported 0 = .ok (.aload_n 0, 1) := by decide +kernel
theorem dX5_reported_1 : decode cX5_reported 1 = .ok (.iload_n 1, 1) := by decide +kernel
theorem dX5_reported_2 : decode cX5_reported 2 = .ok (.invokevirtual 138, 3) := by decide +kernel
theorem dX5_reported_5 : decode cX5_reported 5 = .ok (.ifCond .eq 24, 3) := by decide +kernel
theorem dX5_reported_8 : decode cX5_reported 8 = .ok (.iload_n 2, 1) := by decide +kernel
theorem dX5_reported_9 : decode cX5_reported 9 = .ok (.i2l, 1) := by decide +kernel
theorem dX5_reported_10 : decode cX5_reported 10 = .ok (.lconst 0, 1) := by decide +kernel
theorem dX5_reported_11 : decode cX5_reported 11 = .ok (.aload_n 0, 1) := by decide +kernel
theorem dX5_reported_12 : decode cX5_reported 12 = .ok (.getfield 21, 3) := by decide +kernel
theorem dX5_reported_15 : decode cX5_reported 15 = .ok (.getfield 155, 3) := by decide +kernel
theorem dX5_reported_18 : decode cX5_reported 18 = .ok (.iload_n 1, 1) := by decide +kernel
theorem dX5_reported_19 : decode cX5_reported 19 = .ok (.iaload, 1) := by decide +kernel
theorem dX5_reported_20 : decode cX5_reported 20 = .ok (.iconst 1, 1) := by decide +kernel
theorem dX5_reported_21 : decode cX5_reported 21 = .ok (.isub, 1) := by decide +kernel
theorem dX5_reported_22 : decode cX5_reported 22 = .ok (.i2l, 1) := by decide +kernel
theorem dX5_reported_23 : decode cX5_reported 23 = .ok (.invokestatic 41, 3) := by decide +kernel
theorem dX5_reported_26 : decode cX5_reported 26 = .ok (.ifCond .ne 6, 3) := by decide +kernel
theorem dX5_reported_29 : decode cX5_reported 29 = .ok (.ldc 174, 2) := by decide +kernel
theorem dX5_reported_31 : decode cX5_reported 31 = .ok (.ireturn, 1) := by decide +kernel
theorem dX5_reported_32 : decode cX5_reported 32 = .ok (.aload_n 0, 1) := by decide +kernel
theorem dX5_reported_33 : decode cX5_reported 33 = .ok (.getfield 21, 3) := by decide +kernel
theorem dX5_reported_36 : decode cX5_reported 36 = .ok (.getfield 175, 3) := by decide +kernel
theorem dX5_reported_39 : decode cX5_reported 39 = .ok (.iload_n 1, 1) := by decide +kernel
theorem dX5_reported_40 : decode cX5_reported 40 = .ok (.aaload, 1) := by decide +kernel
theorem dX5_reported_41 : decode cX5_reported 41 = .ok (.iload_n 2, 1) := by decide +kernel
theorem dX5_reported_42 : decode cX5_reported 42 = .ok (.iaload, 1) := by decide +kernel
theorem dX5_reported_43 : decode cX5_reported 43 = .ok (.ireturn, 1) := by decide +kernel
set_option maxRecDepth 20000 in
theorem ggX5_best_X4_firstGreatest : GoodIn wsX5_best wsX4_firstGreatest := goodIn_r _ [6, 7, 8, 9, 14, 15, 16, 17, 18, 19, 20, 21, 22, 23, 24, 25] (by decide +kernel) (by decide +kernel)
set_option maxRecDepth 20000 in
theorem gX5_best_X4_firstGreatest : GoodIn wsX5_best (wsV RX5 179 RX4 yX4_firstGreatest wsX4_firstGreatest) := goodIn_app (goodIn_of _ (by decide +kernel)) ggX5_best_X4_firstGreatest
theorem dX5_best_0 : decode cX5_best 0 = .ok (.aload_n 0, 1) := by decide +kernel
theorem dX5_best_1 : decode cX5_best 1 = .ok (.getfield 21, 3) := by decide +kernel
theorem dX5_best_4 : decode cX5_best 4 = .ok (.invokevirtual 179, 3) := by decide +kernel
theorem dX5_best_7 : decode cX5_best 7 = .ok (.ireturn, 1) := by decide +kernel
set_option maxRecDepth 20000 in
theorem ggX5_bracket_X5_within : GoodIn wsX5_bracket wsX5_within := goodIn_r _ [11] (by decide +kernel) (by decide +kernel)
set_option maxRecDepth 20000 in
theorem gX5_bracket_X5_within : GoodIn wsX5_bracket (va_wsS RX5 41 yX5_within wsX5_within) := goodIn_app (goodIn_of _ (by decide +kernel)) ggX5_bracket_X5_within
set_option maxRecDepth 20000 in
theorem ggX5_bracket_X1_start : GoodIn wsX5_bracket wsX1_start := goodIn_r _ [16, 17, 18, 19, 20, 21, 22, 23, 24, 25, 26, 43, 44, 45, 46, 47, 48, 49, 50, 51, 52] (by decide +kernel) (by decide +kernel)
set_option maxRecDepth 20000 in
theorem gX5_bracket_X1_start : GoodIn wsX5_bracket (wsV RX5 185 RX1 yX1_start wsX1_start) := goodIn_app (goodIn_of _ (by decide +kernel)) ggX5_bracket_X1_start
theorem dX5_bracket_0 : decode cX5_bracket 0 = .ok (.iload_n 2, 1) := by decide +kernel
theorem dX5_bracket_1 : decode cX5_bracket 1 = .ok (.i2l, 1) := by decide +kernel
theorem dX5_bracket_2 : decode cX5_bracket 2 = .ok (.lconst 1, 1) := by decide +kernel
theorem dX5_bracket_3 : decode cX5_bracket 3 = .ok (.ldc2_w 153, 3) := by decide +kernel
theorem dX5_bracket_6 : decode cX5_bracket 6 = .ok (.invokestatic 41, 3) := by decide +kernel
theorem dX5_bracket_9 : decode cX5_bracket 9 = .ok (.ifCond .eq 22, 3) := by decide +kernel
theorem dX5_bracket_12 : decode cX5_bracket 12 = .ok (.iload_n 1, 1) := by decide +kernel
theorem dX5_bracket_13 : decode cX5_bracket 13 = .ok (.i2l, 1) := by decide +kernel
theorem dX5_bracket_14 : decode cX5_bracket 14 = .ok (.lconst 0, 1) := by decide +kernel
theorem dX5_bracket_15 : decode cX5_bracket 15 = .ok (.aload_n 0, 1) := by decide +kernel
theorem dX5_bracket_16 : decode cX5_bracket 16 = .ok (.getfield 21, 3) := by decide +kernel
theorem dX5_bracket_19 : decode cX5_bracket 19 = .ok (.getfield 53, 3) := by decide +kernel
theorem dX5_bracket_22 : decode cX5_bracket 22 = .ok (.iload_n 2, 1) := by decide +kernel
theorem dX5_bracket_23 : decode cX5_bracket 23 = .ok (.isub, 1) := by decide +kernel
theorem dX5_bracket_24 : decode cX5_bracket 24 = .ok (.i2l, 1) := by decide +kernel
theorem dX5_bracket_25 : decode cX5_bracket 25 = .ok (.invokestatic 41, 3) := by decide +kernel
theorem dX5_bracket_28 : decode cX5_bracket 28 = .ok (.ifCond .ne 5, 3) := by decide +kernel
theorem dX5_bracket_31 : decode cX5_bracket 31 = .ok (.iconst (-1), 1) := by decide +kernel
theorem dX5_bracket_32 : decode cX5_bracket 32 = .ok (.ireturn, 1) := by decide +kernel
theorem dX5_bracket_33 : decode cX5_bracket 33 = .ok (.iload_n 3, 1) := by decide +kernel
theorem dX5_bracket_34 : decode cX5_bracket 34 = .ok (.i2l, 1) := by decide +kernel
theorem dX5_bracket_35 : decode cX5_bracket 35 = .ok (.lconst 1, 1) := by decide +kernel
theorem dX5_bracket_36 : decode cX5_bracket 36 = .ok (.ldc2_w 183, 3) := by decide +kernel
theorem dX5_bracket_39 : decode cX5_bracket 39 = .ok (.invokestatic 41, 3) := by decide +kernel
theorem dX5_bracket_42 : decode cX5_bracket 42 = .ok (.ifCond .eq 18, 3) := by decide +kernel
theorem dX5_bracket_45 : decode cX5_bracket 45 = .ok (.iload 4, 2) := by decide +kernel
theorem dX5_bracket_47 : decode cX5_bracket 47 = .ok (.i2l, 1) := by decide +kernel
theorem dX5_bracket_48 : decode cX5_bracket 48 = .ok (.ldc2_w 93, 3) := by decide +kernel
theorem dX5_bracket_51 : decode cX5_bracket 51 = .ok (.ldc2_w 104, 3) := by decide +kernel
theorem dX5_bracket_54 : decode cX5_bracket 54 = .ok (.invokestatic 41, 3) := by decide +kernel
theorem dX5_bracket_57 : decode cX5_bracket 57 = .ok (.ifCond .ne 5, 3) := by decide +kernel
theorem dX5_bracket_60 : decode cX5_bracket 60 = .ok (.iconst (-1), 1) := by decide +kernel
theorem dX5_bracket_61 : decode cX5_bracket 61 = .ok (.ireturn, 1) := by decide +kernel
theorem dX5_bracket_62 : decode cX5_bracket 62 = .ok (.aload_n 0, 1) := by decide +kernel
theorem dX5_bracket_63 : decode cX5_bracket 63 = .ok (.getfield 28, 3) := by decide +kernel
theorem dX5_bracket_66 : decode cX5_bracket 66 = .ok (.iload_n 1, 1) := by decide +kernel
theorem dX5_bracket_67 : decode cX5_bracket 67 = .ok (.iload_n 2, 1) := by decide +kernel
theorem dX5_bracket_68 : decode cX5_bracket 68 = .ok (.iload_n 3, 1) := by decide +kernel
theorem dX5_bracket_69 : decode cX5_bracket 69 = .ok (.iload 4, 2) := by decide +kernel
theorem dX5_bracket_71 : decode cX5_bracket 71 = .ok (.invokevirtual 185, 3) := by decide +kernel
theorem dX5_bracket_74 : decode cX5_bracket 74 = .ok (.iconst 1, 1) := by decide +kernel
theorem dX5_bracket_75 : decode cX5_bracket 75 = .ok (.ireturn, 1) := by decide +kernel
set_option maxRecDepth 20000 in
theorem ggX5_result_X5_isTrial : GoodIn wsX5_result wsX5_isTrial := goodIn_r _ [6, 7, 8, 9, 10, 5, 11, 31, 32, 33, 34, 35, 36, 37, 38, 39, 40, 41, 42, 43, 44, 45, 46] (by decide +kernel) (by decide +kernel)
set_option maxRecDepth 20000 in
theorem gX5_result_X5_isTrial : GoodIn wsX5_result (wsV RX5 138 RX5 yX5_isTrial wsX5_isTrial) := goodIn_app (goodIn_of _ (by decide +kernel)) ggX5_result_X5_isTrial
set_option maxRecDepth 20000 in
theorem ggX5_result_X5_isMark : GoodIn wsX5_result wsX5_isMark := goodIn_r _ [14, 15, 16, 9, 10, 5, 11] (by decide +kernel) (by decide +kernel)
set_option maxRecDepth 20000 in
theorem gX5_result_X5_isMark : GoodIn wsX5_result (va_wsS RX5 142 yX5_isMark wsX5_isMark) := goodIn_app (goodIn_of _ (by decide +kernel)) ggX5_result_X5_isMark
set_option maxRecDepth 20000 in
theorem ggX5_result_X1_isWaiting : GoodIn wsX5_result wsX1_isWaiting := goodIn_r _ [21, 22, 47, 48, 49, 50, 51, 52, 53, 54, 55, 56] (by decide +kernel) (by decide +kernel)
set_option maxRecDepth 20000 in
theorem gX5_result_X1_isWaiting : GoodIn wsX5_result (wsV RX5 189 RX1 yX1_isWaiting wsX1_isWaiting) := goodIn_app (goodIn_of _ (by decide +kernel)) ggX5_result_X1_isWaiting
set_option maxRecDepth 20000 in
theorem ggX5_result_X1_mark : GoodIn wsX5_result wsX1_mark := goodIn_r _ [26, 22, 27, 28, 29, 30, 47, 48, 49, 50, 51, 52, 53, 54, 55, 56] (by decide +kernel) (by decide +kernel)
set_option maxRecDepth 20000 in
theorem gX5_result_X1_mark : GoodIn wsX5_result (wsV RX5 192 RX1 yX1_mark wsX1_mark) := goodIn_app (goodIn_of _ (by decide +kernel)) ggX5_result_X1_mark
theorem dX5_result_0 : decode cX5_result 0 = .ok (.aload_n 0, 1) := by decide +kernel
theorem dX5_result_1 : decode cX5_result 1 = .ok (.iload_n 1, 1) := by decide +kernel
theorem dX5_result_2 : decode cX5_result 2 = .ok (.invokevirtual 138, 3) := by decide +kernel
theorem dX5_result_5 : decode cX5_result 5 = .ok (.ifCond .eq 11, 3) := by decide +kernel
theorem dX5_result_8 : decode cX5_result 8 = .ok (.iload_n 2, 1) := by decide +kernel
theorem dX5_result_9 : decode cX5_result 9 = .ok (.iload_n 3, 1) := by decide +kernel
theorem dX5_result_10 : decode cX5_result 10 = .ok (.invokestatic 142, 3) := by decide +kernel
theorem dX5_result_13 : decode cX5_result 13 = .ok (.ifCond .ne 5, 3) := by decide +kernel
theorem dX5_result_16 : decode cX5_result 16 = .ok (.iconst (-1), 1) := by decide +kernel
theorem dX5_result_17 : decode cX5_result 17 = .ok (.ireturn, 1) := by decide +kernel
theorem dX5_result_18 : decode cX5_result 18 = .ok (.aload_n 0, 1) := by decide +kernel
theorem dX5_result_19 : decode cX5_result 19 = .ok (.getfield 28, 3) := by decide +kernel
theorem dX5_result_22 : decode cX5_result 22 = .ok (.iload_n 1, 1) := by decide +kernel
theorem dX5_result_23 : decode cX5_result 23 = .ok (.invokevirtual 189, 3) := by decide +kernel
theorem dX5_result_26 : decode cX5_result 26 = .ok (.ifCond .eq 16, 3) := by decide +kernel
theorem dX5_result_29 : decode cX5_result 29 = .ok (.aload_n 0, 1) := by decide +kernel
theorem dX5_result_30 : decode cX5_result 30 = .ok (.getfield 28, 3) := by decide +kernel
theorem dX5_result_33 : decode cX5_result 33 = .ok (.iload_n 1, 1) := by decide +kernel
theorem dX5_result_34 : decode cX5_result 34 = .ok (.iload_n 2, 1) := by decide +kernel
theorem dX5_result_35 : decode cX5_result 35 = .ok (.iload_n 3, 1) := by decide +kernel
theorem dX5_result_36 : decode cX5_result 36 = .ok (.invokevirtual 192, 3) := by decide +kernel
theorem dX5_result_39 : decode cX5_result 39 = .ok (.goto 5, 3) := by decide +kernel
theorem dX5_result_42 : decode cX5_result 42 = .ok (.bipush (-3), 2) := by decide +kernel
theorem dX5_result_44 : decode cX5_result 44 = .ok (.ireturn, 1) := by decide +kernel
set_option maxRecDepth 20000 in
theorem ggX5_halve_X1_canEnd : GoodIn wsX5_halve wsX1_canEnd := goodIn_r _ [6, 7, 8, 9, 43, 44, 45, 46, 47, 48, 49, 50, 51, 52] (by decide +kernel) (by decide +kernel)
set_option maxRecDepth 20000 in
theorem gX5_halve_X1_canEnd : GoodIn wsX5_halve (wsV RX5 195 RX1 yX1_canEnd wsX1_canEnd) := goodIn_app (goodIn_of _ (by decide +kernel)) ggX5_halve_X1_canEnd
set_option maxRecDepth 20000 in
theorem ggX5_halve_X1_end : GoodIn wsX5_halve wsX1_end := goodIn_r _ [13, 14, 15, 16, 17, 18, 19, 9, 20, 21, 22, 23, 24, 25, 8, 26, 27, 28, 29, 30, 31, 5, 32, 33, 34, 35, 36, 37, 38, 43, 44, 45, 46, 47, 48, 49, 50, 51, 52] (by decide +kernel) (by decide +kernel)
set_option maxRecDepth 20000 in
theorem gX5_halve_X1_end : GoodIn wsX5_halve (wsV RX5 199 RX1 yX1_end wsX1_end) := goodIn_app (goodIn_of _ (by decide +kernel)) ggX5_halve_X1_end
theorem dX5_halve_0 : decode cX5_halve 0 = .ok (.aload_n 0, 1) := by decide +kernel
theorem dX5_halve_1 : decode cX5_halve 1 = .ok (.getfield 28, 3) := by decide +kernel
theorem dX5_halve_4 : decode cX5_halve 4 = .ok (.invokevirtual 195, 3) := by decide +kernel
theorem dX5_halve_7 : decode cX5_halve 7 = .ok (.ifCond .eq 13, 3) := by decide +kernel
theorem dX5_halve_10 : decode cX5_halve 10 = .ok (.aload_n 0, 1) := by decide +kernel
theorem dX5_halve_11 : decode cX5_halve 11 = .ok (.getfield 28, 3) := by decide +kernel
theorem dX5_halve_14 : decode cX5_halve 14 = .ok (.invokevirtual 199, 3) := by decide +kernel
theorem dX5_halve_17 : decode cX5_halve 17 = .ok (.goto 5, 3) := by decide +kernel
theorem dX5_halve_20 : decode cX5_halve 20 = .ok (.bipush (-3), 2) := by decide +kernel
theorem dX5_halve_22 : decode cX5_halve 22 = .ok (.ireturn, 1) := by decide +kernel
set_option maxRecDepth 20000 in
theorem ggX5_round_X5_within : GoodIn wsX5_round wsX5_within := goodIn_r _ [7] (by decide +kernel) (by decide +kernel)
set_option maxRecDepth 20000 in
theorem gX5_round_X5_within : GoodIn wsX5_round (va_wsS RX5 41 yX5_within wsX5_within) := goodIn_app (goodIn_of _ (by decide +kernel)) ggX5_round_X5_within
set_option maxRecDepth 20000 in
theorem ggX5_round_X1_tell : GoodIn wsX5_round wsX1_tell := goodIn_r _ [12, 13, 14, 15, 16, 21, 22, 23, 24, 25, 26, 27, 28, 29, 30] (by decide +kernel) (by decide +kernel)
set_option maxRecDepth 20000 in
theorem gX5_round_X1_tell : GoodIn wsX5_round (wsV RX5 208 RX1 yX1_tell wsX1_tell) := goodIn_app (goodIn_of _ (by decide +kernel)) ggX5_round_X1_tell
theorem dX5_round_0 : decode cX5_round 0 = .ok (.iload_n 1, 1) := by decide +kernel
theorem dX5_round_1 : decode cX5_round 1 = .ok (.i2l, 1) := by decide +kernel
theorem dX5_round_2 : decode cX5_round 2 = .ok (.lconst 0, 1) := by decide +kernel
theorem dX5_round_3 : decode cX5_round 3 = .ok (.ldc2_w 202, 3) := by decide +kernel
theorem dX5_round_6 : decode cX5_round 6 = .ok (.invokestatic 41, 3) := by decide +kernel
theorem dX5_round_9 : decode cX5_round 9 = .ok (.ifCond .ne 5, 3) := by decide +kernel
theorem dX5_round_12 : decode cX5_round 12 = .ok (.iconst (-1), 1) := by decide +kernel
theorem dX5_round_13 : decode cX5_round 13 = .ok (.ireturn, 1) := by decide +kernel
theorem dX5_round_14 : decode cX5_round 14 = .ok (.aload_n 0, 1) := by decide +kernel
theorem dX5_round_15 : decode cX5_round 15 = .ok (.getfield 28, 3) := by decide +kernel
theorem dX5_round_18 : decode cX5_round 18 = .ok (.getfield 204, 3) := by decide +kernel
theorem dX5_round_21 : decode cX5_round 21 = .ok (.ifCond .eq 14, 3) := by decide +kernel
theorem dX5_round_24 : decode cX5_round 24 = .ok (.aload_n 0, 1) := by decide +kernel
theorem dX5_round_25 : decode cX5_round 25 = .ok (.getfield 28, 3) := by decide +kernel
theorem dX5_round_28 : decode cX5_round 28 = .ok (.iload_n 1, 1) := by decide +kernel
theorem dX5_round_29 : decode cX5_round 29 = .ok (.invokevirtual 208, 3) := by decide +kernel
theorem dX5_round_32 : decode cX5_round 32 = .ok (.goto 5, 3) := by decide +kernel
theorem dX5_round_35 : decode cX5_round 35 = .ok (.bipush (-2), 2) := by decide +kernel
theorem dX5_round_37 : decode cX5_round 37 = .ok (.ireturn, 1) := by decide +kernel
theorem dX5_cost_0 : decode cX5_cost 0 = .ok (.aload_n 0, 1) := by decide +kernel
theorem dX5_cost_1 : decode cX5_cost 1 = .ok (.getfield 28, 3) := by decide +kernel
theorem dX5_cost_4 : decode cX5_cost 4 = .ok (.getfield 212, 3) := by decide +kernel
theorem dX5_cost_7 : decode cX5_cost 7 = .ok (.lreturn, 1) := by decide +kernel
set_option maxRecDepth 20000 in
theorem ggX5_plan_X5_within : GoodIn wsX5_plan wsX5_within := goodIn_r _ [8] (by decide +kernel) (by decide +kernel)
set_option maxRecDepth 20000 in
theorem gX5_plan_X5_within : GoodIn wsX5_plan (va_wsS RX5 41 yX5_within wsX5_within) := goodIn_app (goodIn_of _ (by decide +kernel)) ggX5_plan_X5_within
set_option maxRecDepth 20000 in
theorem ggX5_plan_X5_lastBracket : GoodIn wsX5_plan wsX5_lastBracket := goodIn_r _ [11, 12, 13, 7, 14] (by decide +kernel) (by decide +kernel)
set_option maxRecDepth 20000 in
theorem gX5_plan_X5_lastBracket : GoodIn wsX5_plan (va_wsS RX5 215 yX5_lastBracket wsX5_lastBracket) := goodIn_app (goodIn_of _ (by decide +kernel)) ggX5_plan_X5_lastBracket
set_option maxRecDepth 20000 in
theorem ggX5_plan_X5_power : GoodIn wsX5_plan wsX5_power := goodIn_r _ [14] (by decide +kernel) (by decide +kernel)
set_option maxRecDepth 20000 in
theorem gX5_plan_X5_power : GoodIn wsX5_plan (va_wsS RX5 218 yX5_power wsX5_power) := goodIn_app (goodIn_of _ (by decide +kernel)) ggX5_plan_X5_power
set_option maxRecDepth 20000 in
theorem ggX5_plan_X5_cutUp : GoodIn wsX5_plan wsX5_cutUp := goodIn_r _ [17, 18, 19, 7, 20] (by decide +kernel) (by decide +kernel)
set_option maxRecDepth 20000 in
theorem gX5_plan_X5_cutUp : GoodIn wsX5_plan (va_wsS RX5 221 yX5_cutUp wsX5_cutUp) := goodIn_app (goodIn_of _ (by decide +kernel)) ggX5_plan_X5_cutUp
set_option maxRecDepth 20000 in
theorem ggX5_plan_X5_cut : GoodIn wsX5_plan wsX5_cut := goodIn_r _ [20] (by decide +kernel) (by decide +kernel)
set_option maxRecDepth 20000 in
theorem gX5_plan_X5_cut : GoodIn wsX5_plan (va_wsS RX5 135 yX5_cut wsX5_cut) := goodIn_app (goodIn_of _ (by decide +kernel)) ggX5_plan_X5_cut
theorem dX5_plan_0 : decode cX5_plan 0 = .ok (.iload_n 1, 1) := by decide +kernel
theorem dX5_plan_1 : decode cX5_plan 1 = .ok (.i2l, 1) := by decide +kernel
theorem dX5_plan_2 : decode cX5_plan 2 = .ok (.lconst 1, 1) := by decide +kernel
theorem dX5_plan_3 : decode cX5_plan 3 = .ok (.ldc2_w 183, 3) := by decide +kernel
theorem dX5_plan_6 : decode cX5_plan 6 = .ok (.invokestatic 41, 3) := by decide +kernel
theorem dX5_plan_9 : decode cX5_plan 9 = .ok (.ifCond .eq 28, 3) := by decide +kernel
theorem dX5_plan_12 : decode cX5_plan 12 = .ok (.iload_n 2, 1) := by decide +kernel
theorem dX5_plan_13 : decode cX5_plan 13 = .ok (.i2l, 1) := by decide +kernel
theorem dX5_plan_14 : decode cX5_plan 14 = .ok (.ldc2_w 93, 3) := by decide +kernel
theorem dX5_plan_17 : decode cX5_plan 17 = .ok (.ldc2_w 104, 3) := by decide +kernel
theorem dX5_plan_20 : decode cX5_plan 20 = .ok (.invokestatic 41, 3) := by decide +kernel
theorem dX5_plan_23 : decode cX5_plan 23 = .ok (.ifCond .eq 14, 3) := by decide +kernel
theorem dX5_plan_26 : decode cX5_plan 26 = .ok (.iload 4, 2) := by decide +kernel
theorem dX5_plan_28 : decode cX5_plan 28 = .ok (.i2l, 1) := by decide +kernel
theorem dX5_plan_29 : decode cX5_plan 29 = .ok (.lconst 0, 1) := by decide +kernel
theorem dX5_plan_30 : decode cX5_plan 30 = .ok (.lconst 1, 1) := by decide +kernel
theorem dX5_plan_31 : decode cX5_plan 31 = .ok (.invokestatic 41, 3) := by decide +kernel
theorem dX5_plan_34 : decode cX5_plan 34 = .ok (.ifCond .ne 5, 3) := by decide +kernel
theorem dX5_plan_37 : decode cX5_plan 37 = .ok (.iconst (-1), 1) := by decide +kernel
theorem dX5_plan_38 : decode cX5_plan 38 = .ok (.ireturn, 1) := by decide +kernel
theorem dX5_plan_39 : decode cX5_plan 39 = .ok (.iload_n 1, 1) := by decide +kernel
theorem dX5_plan_40 : decode cX5_plan 40 = .ok (.iload_n 2, 1) := by decide +kernel
theorem dX5_plan_41 : decode cX5_plan 41 = .ok (.invokestatic 215, 3) := by decide +kernel
theorem dX5_plan_44 : decode cX5_plan 44 = .ok (.istore 5, 2) := by decide +kernel
theorem dX5_plan_46 : decode cX5_plan 46 = .ok (.iload_n 3, 1) := by decide +kernel
theorem dX5_plan_47 : decode cX5_plan 47 = .ok (.i2l, 1) := by decide +kernel
theorem dX5_plan_48 : decode cX5_plan 48 = .ok (.ldc2_w 45, 3) := by decide +kernel
theorem dX5_plan_51 : decode cX5_plan 51 = .ok (.iload 5, 2) := by decide +kernel
theorem dX5_plan_53 : decode cX5_plan 53 = .ok (.i2l, 1) := by decide +kernel
theorem dX5_plan_54 : decode cX5_plan 54 = .ok (.invokestatic 41, 3) := by decide +kernel
theorem dX5_plan_57 : decode cX5_plan 57 = .ok (.ifCond .ne 5, 3) := by decide +kernel
theorem dX5_plan_60 : decode cX5_plan 60 = .ok (.iconst (-1), 1) := by decide +kernel
theorem dX5_plan_61 : decode cX5_plan 61 = .ok (.ireturn, 1) := by decide +kernel
theorem dX5_plan_62 : decode cX5_plan 62 = .ok (.iload_n 3, 1) := by decide +kernel
theorem dX5_plan_63 : decode cX5_plan 63 = .ok (.iconst (-1), 1) := by decide +kernel
theorem dX5_plan_64 : decode cX5_plan 64 = .ok (.if_icmp .ne 15, 3) := by decide +kernel
theorem dX5_plan_67 : decode cX5_plan 67 = .ok (.iload 4, 2) := by decide +kernel
theorem dX5_plan_69 : decode cX5_plan 69 = .ok (.ifCond .ne 8, 3) := by decide +kernel
theorem dX5_plan_72 : decode cX5_plan 72 = .ok (.iload 5, 2) := by decide +kernel
theorem dX5_plan_74 : decode cX5_plan 74 = .ok (.goto 4, 3) := by decide +kernel
theorem dX5_plan_77 : decode cX5_plan 77 = .ok (.iconst (-1), 1) := by decide +kernel
theorem dX5_plan_78 : decode cX5_plan 78 = .ok (.ireturn, 1) := by decide +kernel
theorem dX5_plan_79 : decode cX5_plan 79 = .ok (.iload_n 2, 1) := by decide +kernel
theorem dX5_plan_80 : decode cX5_plan 80 = .ok (.iload_n 3, 1) := by decide +kernel
theorem dX5_plan_81 : decode cX5_plan 81 = .ok (.invokestatic 218, 3) := by decide +kernel
theorem dX5_plan_84 : decode cX5_plan 84 = .ok (.lstore 6, 2) := by decide +kernel
theorem dX5_plan_86 : decode cX5_plan 86 = .ok (.iload 4, 2) := by decide +kernel
theorem dX5_plan_88 : decode cX5_plan 88 = .ok (.ifCond .ne 21, 3) := by decide +kernel
theorem dX5_plan_91 : decode cX5_plan 91 = .ok (.iload 5, 2) := by decide +kernel
theorem dX5_plan_93 : decode cX5_plan 93 = .ok (.iconst 1, 1) := by decide +kernel
theorem dX5_plan_94 : decode cX5_plan 94 = .ok (.iadd, 1) := by decide +kernel
theorem dX5_plan_95 : decode cX5_plan 95 = .ok (.i2l, 1) := by decide +kernel
theorem dX5_plan_96 : decode cX5_plan 96 = .ok (.lload 6, 2) := by decide +kernel
theorem dX5_plan_98 : decode cX5_plan 98 = .ok (.lmul, 1) := by decide +kernel
theorem dX5_plan_99 : decode cX5_plan 99 = .ok (.iload_n 3, 1) := by decide +kernel
theorem dX5_plan_100 : decode cX5_plan 100 = .ok (.iconst 1, 1) := by decide +kernel
theorem dX5_plan_101 : decode cX5_plan 101 = .ok (.iadd, 1) := by decide +kernel
theorem dX5_plan_102 : decode cX5_plan 102 = .ok (.i2l, 1) := by decide +kernel
theorem dX5_plan_103 : decode cX5_plan 103 = .ok (.invokestatic 221, 3) := by decide +kernel
theorem dX5_plan_106 : decode cX5_plan 106 = .ok (.goto 10, 3) := by decide +kernel
theorem dX5_plan_109 : decode cX5_plan 109 = .ok (.iload_n 1, 1) := by decide +kernel
theorem dX5_plan_110 : decode cX5_plan 110 = .ok (.i2l, 1) := by decide +kernel
theorem dX5_plan_111 : decode cX5_plan 111 = .ok (.lload 6, 2) := by decide +kernel
theorem dX5_plan_113 : decode cX5_plan 113 = .ok (.invokestatic 135, 3) := by decide +kernel
theorem dX5_plan_116 : decode cX5_plan 116 = .ok (.l2i, 1) := by decide +kernel
theorem dX5_plan_117 : decode cX5_plan 117 = .ok (.ireturn, 1) := by decide +kernel
set_option maxRecDepth 20000 in
theorem ggX5_folds_X5_within : GoodIn wsX5_folds wsX5_within := goodIn_r _ [8] (by decide +kernel) (by decide +kernel)
set_option maxRecDepth 20000 in
theorem gX5_folds_X5_within : GoodIn wsX5_folds (va_wsS RX5 41 yX5_within wsX5_within) := goodIn_app (goodIn_of _ (by decide +kernel)) ggX5_folds_X5_within
set_option maxRecDepth 20000 in
theorem ggX5_folds_X0_make : GoodIn wsX5_folds wsX0_make := goodIn_r _ [13, 14, 15, 16, 17, 18, 19, 20, 21, 22, 23, 24, 25, 26, 27, 28, 29, 30, 31, 32, 33, 34, 35, 12, 36, 37, 38, 39, 40, 41, 7, 42, 43, 44, 49, 50, 51, 52, 53, 54, 55, 56] (by decide +kernel) (by decide +kernel)
set_option maxRecDepth 20000 in
theorem gX5_folds_X0_make : GoodIn wsX5_folds (wsV RX5 228 RX0 yX0_make wsX0_make) := goodIn_app (goodIn_of _ (by decide +kernel)) ggX5_folds_X0_make
theorem dX5_folds_0 : decode cX5_folds 0 = .ok (.iload_n 1, 1) := by decide +kernel
theorem dX5_folds_1 : decode cX5_folds 1 = .ok (.i2l, 1) := by decide +kernel
theorem dX5_folds_2 : decode cX5_folds 2 = .ok (.lconst 1, 1) := by decide +kernel
theorem dX5_folds_3 : decode cX5_folds 3 = .ok (.ldc2_w 224, 3) := by decide +kernel
theorem dX5_folds_6 : decode cX5_folds 6 = .ok (.invokestatic 41, 3) := by decide +kernel
theorem dX5_folds_9 : decode cX5_folds 9 = .ok (.ifCond .eq 31, 3) := by decide +kernel
theorem dX5_folds_12 : decode cX5_folds 12 = .ok (.iload_n 2, 1) := by decide +kernel
theorem dX5_folds_13 : decode cX5_folds 13 = .ok (.i2l, 1) := by decide +kernel
theorem dX5_folds_14 : decode cX5_folds 14 = .ok (.ldc2_w 93, 3) := by decide +kernel
theorem dX5_folds_17 : decode cX5_folds 17 = .ok (.ldc2_w 226, 3) := by decide +kernel
theorem dX5_folds_20 : decode cX5_folds 20 = .ok (.invokestatic 41, 3) := by decide +kernel
theorem dX5_folds_23 : decode cX5_folds 23 = .ok (.ifCond .eq 17, 3) := by decide +kernel
theorem dX5_folds_26 : decode cX5_folds 26 = .ok (.iload_n 3, 1) := by decide +kernel
theorem dX5_folds_27 : decode cX5_folds 27 = .ok (.i2l, 1) := by decide +kernel
theorem dX5_folds_28 : decode cX5_folds 28 = .ok (.ldc2_w 93, 3) := by decide +kernel
theorem dX5_folds_31 : decode cX5_folds 31 = .ok (.ldc2_w 226, 3) := by decide +kernel
theorem dX5_folds_34 : decode cX5_folds 34 = .ok (.invokestatic 41, 3) := by decide +kernel
theorem dX5_folds_37 : decode cX5_folds 37 = .ok (.ifCond .ne 5, 3) := by decide +kernel
theorem dX5_folds_40 : decode cX5_folds 40 = .ok (.iconst (-1), 1) := by decide +kernel
theorem dX5_folds_41 : decode cX5_folds 41 = .ok (.ireturn, 1) := by decide +kernel
theorem dX5_folds_42 : decode cX5_folds 42 = .ok (.aload_n 0, 1) := by decide +kernel
theorem dX5_folds_43 : decode cX5_folds 43 = .ok (.getfield 35, 3) := by decide +kernel
theorem dX5_folds_46 : decode cX5_folds 46 = .ok (.iload_n 1, 1) := by decide +kernel
theorem dX5_folds_47 : decode cX5_folds 47 = .ok (.iload_n 2, 1) := by decide +kernel
theorem dX5_folds_48 : decode cX5_folds 48 = .ok (.iload_n 3, 1) := by decide +kernel
theorem dX5_folds_49 : decode cX5_folds 49 = .ok (.iload 4, 2) := by decide +kernel
theorem dX5_folds_51 : decode cX5_folds 51 = .ok (.invokevirtual 228, 3) := by decide +kernel
theorem dX5_folds_54 : decode cX5_folds 54 = .ok (.iconst 1, 1) := by decide +kernel
theorem dX5_folds_55 : decode cX5_folds 55 = .ok (.ireturn, 1) := by decide +kernel
set_option maxRecDepth 20000 in
theorem ggX5_fold_X5_isRow : GoodIn wsX5_fold wsX5_isRow := goodIn_r _ [8, 1, 9, 10, 11, 7, 12, 13, 14, 15, 16, 17, 18, 19, 20, 21, 22, 23, 24] (by decide +kernel) (by decide +kernel)
set_option maxRecDepth 20000 in
theorem gX5_fold_X5_isRow : GoodIn wsX5_fold (wsV RX5 231 RX5 yX5_isRow wsX5_isRow) := goodIn_app (goodIn_of _ (by decide +kernel)) ggX5_fold_X5_isRow
set_option maxRecDepth 20000 in
theorem ggX5_fold_X5_within : GoodIn wsX5_fold wsX5_within := goodIn_r _ [12] (by decide +kernel) (by decide +kernel)
set_option maxRecDepth 20000 in
theorem gX5_fold_X5_within : GoodIn wsX5_fold (va_wsS RX5 41 yX5_within wsX5_within) := goodIn_app (goodIn_of _ (by decide +kernel)) ggX5_fold_X5_within
theorem dX5_fold_0 : decode cX5_fold 0 = .ok (.aload_n 0, 1) := by decide +kernel
theorem dX5_fold_1 : decode cX5_fold 1 = .ok (.iload_n 1, 1) := by decide +kernel
theorem dX5_fold_2 : decode cX5_fold 2 = .ok (.invokevirtual 231, 3) := by decide +kernel
theorem dX5_fold_5 : decode cX5_fold 5 = .ok (.ifCond .eq 13, 3) := by decide +kernel
theorem dX5_fold_8 : decode cX5_fold 8 = .ok (.iload_n 2, 1) := by decide +kernel
theorem dX5_fold_9 : decode cX5_fold 9 = .ok (.i2l, 1) := by decide +kernel
theorem dX5_fold_10 : decode cX5_fold 10 = .ok (.lconst 0, 1) := by decide +kernel
theorem dX5_fold_11 : decode cX5_fold 11 = .ok (.lconst 1, 1) := by decide +kernel
theorem dX5_fold_12 : decode cX5_fold 12 = .ok (.invokestatic 41, 3) := by decide +kernel
theorem dX5_fold_15 : decode cX5_fold 15 = .ok (.ifCond .ne 5, 3) := by decide +kernel
theorem dX5_fold_18 : decode cX5_fold 18 = .ok (.iconst (-1), 1) := by decide +kernel
theorem dX5_fold_19 : decode cX5_fold 19 = .ok (.ireturn, 1) := by decide +kernel
theorem dX5_fold_20 : decode cX5_fold 20 = .ok (.iload_n 2, 1) := by decide +kernel
theorem dX5_fold_21 : decode cX5_fold 21 = .ok (.ifCond .ne 15, 3) := by decide +kernel
theorem dX5_fold_24 : decode cX5_fold 24 = .ok (.aload_n 0, 1) := by decide +kernel
theorem dX5_fold_25 : decode cX5_fold 25 = .ok (.getfield 35, 3) := by decide +kernel
theorem dX5_fold_28 : decode cX5_fold 28 = .ok (.getfield 234, 3) := by decide +kernel
theorem dX5_fold_31 : decode cX5_fold 31 = .ok (.iload_n 1, 1) := by decide +kernel
theorem dX5_fold_32 : decode cX5_fold 32 = .ok (.iaload, 1) := by decide +kernel
theorem dX5_fold_33 : decode cX5_fold 33 = .ok (.goto 12, 3) := by decide +kernel
theorem dX5_fold_36 : decode cX5_fold 36 = .ok (.aload_n 0, 1) := by decide +kernel
theorem dX5_fold_37 : decode cX5_fold 37 = .ok (.getfield 35, 3) := by decide +kernel
theorem dX5_fold_40 : decode cX5_fold 40 = .ok (.getfield 237, 3) := by decide +kernel
theorem dX5_fold_43 : decode cX5_fold 43 = .ok (.iload_n 1, 1) := by decide +kernel
theorem dX5_fold_44 : decode cX5_fold 44 = .ok (.iaload, 1) := by decide +kernel
theorem dX5_fold_45 : decode cX5_fold 45 = .ok (.ireturn, 1) := by decide +kernel
set_option maxRecDepth 20000 in
theorem ggX5_use_X5_isOuter : GoodIn wsX5_use wsX5_isOuter := goodIn_r _ [9, 2, 10, 11, 12, 8, 13, 28, 29, 30, 31, 32, 33, 34, 35, 36, 37, 38, 39] (by decide +kernel) (by decide +kernel)
set_option maxRecDepth 20000 in
theorem gX5_use_X5_isOuter : GoodIn wsX5_use (wsV RX5 240 RX5 yX5_isOuter wsX5_isOuter) := goodIn_app (goodIn_of _ (by decide +kernel)) ggX5_use_X5_isOuter
set_option maxRecDepth 20000 in
theorem ggX5_use_X5_within : GoodIn wsX5_use wsX5_within := goodIn_r _ [13] (by decide +kernel) (by decide +kernel)
set_option maxRecDepth 20000 in
theorem gX5_use_X5_within : GoodIn wsX5_use (va_wsS RX5 41 yX5_within wsX5_within) := goodIn_app (goodIn_of _ (by decide +kernel)) ggX5_use_X5_within
set_option maxRecDepth 20000 in
theorem ggX5_use_X0_test : GoodIn wsX5_use wsX0_test := goodIn_r _ [18, 19, 20, 21, 32, 33, 34, 35, 36, 37, 38, 39] (by decide +kernel) (by decide +kernel)
set_option maxRecDepth 20000 in
theorem gX5_use_X0_test : GoodIn wsX5_use (wsV RX5 249 RX0 yX0_test wsX0_test) := goodIn_app (goodIn_of _ (by decide +kernel)) ggX5_use_X0_test
set_option maxRecDepth 20000 in
theorem ggX5_use_X0_choose : GoodIn wsX5_use wsX0_choose := goodIn_r _ [25, 26, 20, 21, 27, 32, 33, 34, 35, 36, 37, 38, 39] (by decide +kernel) (by decide +kernel)
set_option maxRecDepth 20000 in
theorem gX5_use_X0_choose : GoodIn wsX5_use (wsV RX5 252 RX0 yX0_choose wsX0_choose) := goodIn_app (goodIn_of _ (by decide +kernel)) ggX5_use_X0_choose
theorem dX5_use_0 : decode cX5_use 0 = .ok (.aload_n 0, 1) := by decide +kernel
theorem dX5_use_1 : decode cX5_use 1 = .ok (.iload_n 1, 1) := by decide +kernel
theorem dX5_use_2 : decode cX5_use 2 = .ok (.invokevirtual 240, 3) := by decide +kernel
theorem dX5_use_5 : decode cX5_use 5 = .ok (.ifCond .eq 24, 3) := by decide +kernel
theorem dX5_use_8 : decode cX5_use 8 = .ok (.iload_n 2, 1) := by decide +kernel
theorem dX5_use_9 : decode cX5_use 9 = .ok (.i2l, 1) := by decide +kernel
theorem dX5_use_10 : decode cX5_use 10 = .ok (.ldc2_w 45, 3) := by decide +kernel
theorem dX5_use_13 : decode cX5_use 13 = .ok (.aload_n 0, 1) := by decide +kernel
theorem dX5_use_14 : decode cX5_use 14 = .ok (.getfield 35, 3) := by decide +kernel
theorem dX5_use_17 : decode cX5_use 17 = .ok (.getfield 243, 3) := by decide +kernel
theorem dX5_use_20 : decode cX5_use 20 = .ok (.iconst 1, 1) := by decide +kernel
theorem dX5_use_21 : decode cX5_use 21 = .ok (.isub, 1) := by decide +kernel
theorem dX5_use_22 : decode cX5_use 22 = .ok (.i2l, 1) := by decide +kernel
theorem dX5_use_23 : decode cX5_use 23 = .ok (.invokestatic 41, 3) := by decide +kernel
theorem dX5_use_26 : decode cX5_use 26 = .ok (.ifCond .ne 5, 3) := by decide +kernel
theorem dX5_use_29 : decode cX5_use 29 = .ok (.iconst (-1), 1) := by decide +kernel
theorem dX5_use_30 : decode cX5_use 30 = .ok (.ireturn, 1) := by decide +kernel
theorem dX5_use_31 : decode cX5_use 31 = .ok (.aload_n 0, 1) := by decide +kernel
theorem dX5_use_32 : decode cX5_use 32 = .ok (.getfield 35, 3) := by decide +kernel
theorem dX5_use_35 : decode cX5_use 35 = .ok (.getfield 246, 3) := by decide +kernel
theorem dX5_use_38 : decode cX5_use 38 = .ok (.iload_n 1, 1) := by decide +kernel
theorem dX5_use_39 : decode cX5_use 39 = .ok (.iaload, 1) := by decide +kernel
theorem dX5_use_40 : decode cX5_use 40 = .ok (.ifCond .le 6, 3) := by decide +kernel
theorem dX5_use_43 : decode cX5_use 43 = .ok (.bipush (-3), 2) := by decide +kernel
theorem dX5_use_45 : decode cX5_use 45 = .ok (.ireturn, 1) := by decide +kernel
theorem dX5_use_46 : decode cX5_use 46 = .ok (.iload_n 2, 1) := by decide +kernel
theorem dX5_use_47 : decode cX5_use 47 = .ok (.ifCond .ge 14, 3) := by decide +kernel
theorem dX5_use_50 : decode cX5_use 50 = .ok (.aload_n 0, 1) := by decide +kernel
theorem dX5_use_51 : decode cX5_use 51 = .ok (.getfield 35, 3) := by decide +kernel
theorem dX5_use_54 : decode cX5_use 54 = .ok (.iload_n 1, 1) := by decide +kernel
theorem dX5_use_55 : decode cX5_use 55 = .ok (.invokevirtual 249, 3) := by decide +kernel
theorem dX5_use_58 : decode cX5_use 58 = .ok (.goto 12, 3) := by decide +kernel
theorem dX5_use_61 : decode cX5_use 61 = .ok (.aload_n 0, 1) := by decide +kernel
theorem dX5_use_62 : decode cX5_use 62 = .ok (.getfield 35, 3) := by decide +kernel
theorem dX5_use_65 : decode cX5_use 65 = .ok (.iload_n 1, 1) := by decide +kernel
theorem dX5_use_66 : decode cX5_use 66 = .ok (.iload_n 2, 1) := by decide +kernel
theorem dX5_use_67 : decode cX5_use 67 = .ok (.invokevirtual 252, 3) := by decide +kernel
theorem dX5_use_70 : decode cX5_use 70 = .ok (.ireturn, 1) := by decide +kernel
set_option maxRecDepth 20000 in
theorem ggX5_used_X5_isRow : GoodIn wsX5_used wsX5_isRow := goodIn_r _ [6, 1, 7, 8, 9, 5, 10, 34, 35, 36, 37, 38, 39, 40, 41, 42, 43, 44, 45] (by decide +kernel) (by decide +kernel)
set_option maxRecDepth 20000 in
theorem gX5_used_X5_isRow : GoodIn wsX5_used (wsV RX5 231 RX5 yX5_isRow wsX5_isRow) := goodIn_app (goodIn_of _ (by decide +kernel)) ggX5_used_X5_isRow
set_option maxRecDepth 20000 in
theorem ggX5_used_X5_isOuter : GoodIn wsX5_used wsX5_isOuter := goodIn_r _ [14, 1, 15, 8, 9, 5, 10, 34, 35, 36, 37, 38, 39, 40, 41, 42, 43, 44, 45] (by decide +kernel) (by decide +kernel)
set_option maxRecDepth 20000 in
theorem gX5_used_X5_isOuter : GoodIn wsX5_used (wsV RX5 240 RX5 yX5_isOuter wsX5_isOuter) := goodIn_app (goodIn_of _ (by decide +kernel)) ggX5_used_X5_isOuter
set_option maxRecDepth 20000 in
theorem ggX5_used_X0_trained : GoodIn wsX5_used wsX0_trained := goodIn_r _ [20, 21, 22, 23, 24, 25, 38, 39, 40, 41, 42, 43, 44, 45] (by decide +kernel) (by decide +kernel)
set_option maxRecDepth 20000 in
theorem gX5_used_X0_trained : GoodIn wsX5_used (wsV RX5 255 RX0 yX0_trained wsX0_trained) := goodIn_app (goodIn_of _ (by decide +kernel)) ggX5_used_X0_trained
set_option maxRecDepth 20000 in
theorem ggX5_used_X0_validated : GoodIn wsX5_used wsX0_validated := goodIn_r _ [29, 21, 25, 24, 38, 39, 40, 41, 42, 43, 44, 45] (by decide +kernel) (by decide +kernel)
set_option maxRecDepth 20000 in
theorem gX5_used_X0_validated : GoodIn wsX5_used (wsV RX5 258 RX0 yX0_validated wsX0_validated) := goodIn_app (goodIn_of _ (by decide +kernel)) ggX5_used_X0_validated
set_option maxRecDepth 20000 in
theorem ggX5_used_X0_testing : GoodIn wsX5_used wsX0_testing := goodIn_r _ [33, 21, 22, 38, 39, 40, 41, 42, 43, 44, 45] (by decide +kernel) (by decide +kernel)
set_option maxRecDepth 20000 in
theorem gX5_used_X0_testing : GoodIn wsX5_used (wsV RX5 261 RX0 yX0_testing wsX0_testing) := goodIn_app (goodIn_of _ (by decide +kernel)) ggX5_used_X0_testing
theorem dX5_used_0 : decode cX5_used 0 = .ok (.aload_n 0, 1) := by decide +kernel
theorem dX5_used_1 : decode cX5_used 1 = .ok (.iload_n 1, 1) := by decide +kernel
theorem dX5_used_2 : decode cX5_used 2 = .ok (.invokevirtual 231, 3) := by decide +kernel
theorem dX5_used_5 : decode cX5_used 5 = .ok (.ifCond .eq 11, 3) := by decide +kernel
theorem dX5_used_8 : decode cX5_used 8 = .ok (.aload_n 0, 1) := by decide +kernel
theorem dX5_used_9 : decode cX5_used 9 = .ok (.iload_n 2, 1) := by decide +kernel
theorem dX5_used_10 : decode cX5_used 10 = .ok (.invokevirtual 240, 3) := by decide +kernel
theorem dX5_used_13 : decode cX5_used 13 = .ok (.ifCond .ne 5, 3) := by decide +kernel
theorem dX5_used_16 : decode cX5_used 16 = .ok (.iconst (-1), 1) := by decide +kernel
theorem dX5_used_17 : decode cX5_used 17 = .ok (.ireturn, 1) := by decide +kernel
theorem dX5_used_18 : decode cX5_used 18 = .ok (.iload_n 3, 1) := by decide +kernel
theorem dX5_used_19 : decode cX5_used 19 = .ok (.tableswitch 55 0 2 #[25, 35, 45], 25) := by decide +kernel
theorem dX5_used_44 : decode cX5_used 44 = .ok (.aload_n 0, 1) := by decide +kernel
theorem dX5_used_45 : decode cX5_used 45 = .ok (.getfield 35, 3) := by decide +kernel
theorem dX5_used_48 : decode cX5_used 48 = .ok (.iload_n 1, 1) := by decide +kernel
theorem dX5_used_49 : decode cX5_used 49 = .ok (.iload_n 2, 1) := by decide +kernel
theorem dX5_used_50 : decode cX5_used 50 = .ok (.invokevirtual 255, 3) := by decide +kernel
theorem dX5_used_53 : decode cX5_used 53 = .ok (.ireturn, 1) := by decide +kernel
theorem dX5_used_54 : decode cX5_used 54 = .ok (.aload_n 0, 1) := by decide +kernel
theorem dX5_used_55 : decode cX5_used 55 = .ok (.getfield 35, 3) := by decide +kernel
theorem dX5_used_58 : decode cX5_used 58 = .ok (.iload_n 1, 1) := by decide +kernel
theorem dX5_used_59 : decode cX5_used 59 = .ok (.iload_n 2, 1) := by decide +kernel
theorem dX5_used_60 : decode cX5_used 60 = .ok (.invokevirtual 258, 3) := by decide +kernel
theorem dX5_used_63 : decode cX5_used 63 = .ok (.ireturn, 1) := by decide +kernel
theorem dX5_used_64 : decode cX5_used 64 = .ok (.aload_n 0, 1) := by decide +kernel
theorem dX5_used_65 : decode cX5_used 65 = .ok (.getfield 35, 3) := by decide +kernel
theorem dX5_used_68 : decode cX5_used 68 = .ok (.iload_n 1, 1) := by decide +kernel
theorem dX5_used_69 : decode cX5_used 69 = .ok (.iload_n 2, 1) := by decide +kernel
theorem dX5_used_70 : decode cX5_used 70 = .ok (.invokevirtual 261, 3) := by decide +kernel
theorem dX5_used_73 : decode cX5_used 73 = .ok (.ireturn, 1) := by decide +kernel
theorem dX5_used_74 : decode cX5_used 74 = .ok (.iconst (-1), 1) := by decide +kernel
theorem dX5_used_75 : decode cX5_used 75 = .ok (.ireturn, 1) := by decide +kernel
theorem dX5_within_0 : decode cX5_within 0 = .ok (.lload_n 2, 1) := by decide +kernel
theorem dX5_within_1 : decode cX5_within 1 = .ok (.lload_n 0, 1) := by decide +kernel
theorem dX5_within_2 : decode cX5_within 2 = .ok (.lcmp, 1) := by decide +kernel
theorem dX5_within_3 : decode cX5_within 3 = .ok (.ifCond .gt 14, 3) := by decide +kernel
theorem dX5_within_6 : decode cX5_within 6 = .ok (.lload_n 0, 1) := by decide +kernel
theorem dX5_within_7 : decode cX5_within 7 = .ok (.lload 4, 2) := by decide +kernel
theorem dX5_within_9 : decode cX5_within 9 = .ok (.lcmp, 1) := by decide +kernel
theorem dX5_within_10 : decode cX5_within 10 = .ok (.ifCond .gt 7, 3) := by decide +kernel
theorem dX5_within_13 : decode cX5_within 13 = .ok (.iconst 1, 1) := by decide +kernel
theorem dX5_within_14 : decode cX5_within 14 = .ok (.goto 4, 3) := by decide +kernel
theorem dX5_within_17 : decode cX5_within 17 = .ok (.iconst 0, 1) := by decide +kernel
theorem dX5_within_18 : decode cX5_within 18 = .ok (.ireturn, 1) := by decide +kernel
set_option maxRecDepth 20000 in
theorem ggX5_isMark_X5_within : GoodIn wsX5_isMark wsX5_within := goodIn_r _ [6] (by decide +kernel) (by decide +kernel)
set_option maxRecDepth 20000 in
theorem gX5_isMark_X5_within : GoodIn wsX5_isMark (va_wsS RX5 41 yX5_within wsX5_within) := goodIn_app (goodIn_of _ (by decide +kernel)) ggX5_isMark_X5_within
theorem dX5_isMark_0 : decode cX5_isMark 0 = .ok (.iload_n 1, 1) := by decide +kernel
theorem dX5_isMark_1 : decode cX5_isMark 1 = .ok (.ifCond .eq 17, 3) := by decide +kernel
theorem dX5_isMark_4 : decode cX5_isMark 4 = .ok (.iload_n 0, 1) := by decide +kernel
theorem dX5_isMark_5 : decode cX5_isMark 5 = .ok (.i2l, 1) := by decide +kernel
theorem dX5_isMark_6 : decode cX5_isMark 6 = .ok (.ldc2_w 264, 3) := by decide +kernel
theorem dX5_isMark_9 : decode cX5_isMark 9 = .ok (.ldc2_w 183, 3) := by decide +kernel
theorem dX5_isMark_12 : decode cX5_isMark 12 = .ok (.invokestatic 41, 3) := by decide +kernel
theorem dX5_isMark_15 : decode cX5_isMark 15 = .ok (.ifCond .eq 7, 3) := by decide +kernel
theorem dX5_isMark_18 : decode cX5_isMark 18 = .ok (.iconst 1, 1) := by decide +kernel
theorem dX5_isMark_19 : decode cX5_isMark 19 = .ok (.goto 4, 3) := by decide +kernel
theorem dX5_isMark_22 : decode cX5_isMark 22 = .ok (.iconst 0, 1) := by decide +kernel
theorem dX5_isMark_23 : decode cX5_isMark 23 = .ok (.ireturn, 1) := by decide +kernel
set_option maxRecDepth 20000 in
theorem ggX5_isPoint_X5_within : GoodIn wsX5_isPoint wsX5_within := goodIn_r _ [6] (by decide +kernel) (by decide +kernel)
set_option maxRecDepth 20000 in
theorem gX5_isPoint_X5_within : GoodIn wsX5_isPoint (va_wsS RX5 41 yX5_within wsX5_within) := goodIn_app (goodIn_of _ (by decide +kernel)) ggX5_isPoint_X5_within
theorem dX5_isPoint_0 : decode cX5_isPoint 0 = .ok (.lload_n 1, 1) := by decide +kernel
theorem dX5_isPoint_1 : decode cX5_isPoint 1 = .ok (.lconst 0, 1) := by decide +kernel
theorem dX5_isPoint_2 : decode cX5_isPoint 2 = .ok (.aload_n 0, 1) := by decide +kernel
theorem dX5_isPoint_3 : decode cX5_isPoint 3 = .ok (.getfield 12, 3) := by decide +kernel
theorem dX5_isPoint_6 : decode cX5_isPoint 6 = .ok (.getfield 60, 3) := by decide +kernel
theorem dX5_isPoint_9 : decode cX5_isPoint 9 = .ok (.lconst 1, 1) := by decide +kernel
theorem dX5_isPoint_10 : decode cX5_isPoint 10 = .ok (.lsub, 1) := by decide +kernel
theorem dX5_isPoint_11 : decode cX5_isPoint 11 = .ok (.invokestatic 41, 3) := by decide +kernel
theorem dX5_isPoint_14 : decode cX5_isPoint 14 = .ok (.ireturn, 1) := by decide +kernel
set_option maxRecDepth 20000 in
theorem ggX5_isTrial_X5_within : GoodIn wsX5_isTrial wsX5_within := goodIn_r _ [6] (by decide +kernel) (by decide +kernel)
set_option maxRecDepth 20000 in
theorem gX5_isTrial_X5_within : GoodIn wsX5_isTrial (va_wsS RX5 41 yX5_within wsX5_within) := goodIn_app (goodIn_of _ (by decide +kernel)) ggX5_isTrial_X5_within
theorem dX5_isTrial_0 : decode cX5_isTrial 0 = .ok (.iload_n 1, 1) := by decide +kernel
theorem dX5_isTrial_1 : decode cX5_isTrial 1 = .ok (.i2l, 1) := by decide +kernel
theorem dX5_isTrial_2 : decode cX5_isTrial 2 = .ok (.lconst 0, 1) := by decide +kernel
theorem dX5_isTrial_3 : decode cX5_isTrial 3 = .ok (.aload_n 0, 1) := by decide +kernel
theorem dX5_isTrial_4 : decode cX5_isTrial 4 = .ok (.getfield 21, 3) := by decide +kernel
theorem dX5_isTrial_7 : decode cX5_isTrial 7 = .ok (.getfield 53, 3) := by decide +kernel
theorem dX5_isTrial_10 : decode cX5_isTrial 10 = .ok (.iconst 1, 1) := by decide +kernel
theorem dX5_isTrial_11 : decode cX5_isTrial 11 = .ok (.isub, 1) := by decide +kernel
theorem dX5_isTrial_12 : decode cX5_isTrial 12 = .ok (.i2l, 1) := by decide +kernel
theorem dX5_isTrial_13 : decode cX5_isTrial 13 = .ok (.invokestatic 41, 3) := by decide +kernel
theorem dX5_isTrial_16 : decode cX5_isTrial 16 = .ok (.ireturn, 1) := by decide +kernel
set_option maxRecDepth 20000 in
theorem ggX5_isRow_X5_within : GoodIn wsX5_isRow wsX5_within := goodIn_r _ [6] (by decide +kernel) (by decide +kernel)
set_option maxRecDepth 20000 in
theorem gX5_isRow_X5_within : GoodIn wsX5_isRow (va_wsS RX5 41 yX5_within wsX5_within) := goodIn_app (goodIn_of _ (by decide +kernel)) ggX5_isRow_X5_within
theorem dX5_isRow_0 : decode cX5_isRow 0 = .ok (.iload_n 1, 1) := by decide +kernel
theorem dX5_isRow_1 : decode cX5_isRow 1 = .ok (.i2l, 1) := by decide +kernel
theorem dX5_isRow_2 : decode cX5_isRow 2 = .ok (.lconst 0, 1) := by decide +kernel
theorem dX5_isRow_3 : decode cX5_isRow 3 = .ok (.aload_n 0, 1) := by decide +kernel
theorem dX5_isRow_4 : decode cX5_isRow 4 = .ok (.getfield 35, 3) := by decide +kernel
theorem dX5_isRow_7 : decode cX5_isRow 7 = .ok (.getfield 266, 3) := by decide +kernel
theorem dX5_isRow_10 : decode cX5_isRow 10 = .ok (.iconst 1, 1) := by decide +kernel
theorem dX5_isRow_11 : decode cX5_isRow 11 = .ok (.isub, 1) := by decide +kernel
theorem dX5_isRow_12 : decode cX5_isRow 12 = .ok (.i2l, 1) := by decide +kernel
theorem dX5_isRow_13 : decode cX5_isRow 13 = .ok (.invokestatic 41, 3) := by decide +kernel
theorem dX5_isRow_16 : decode cX5_isRow 16 = .ok (.ireturn, 1) := by decide +kernel
set_option maxRecDepth 20000 in
theorem ggX5_isOuter_X5_within : GoodIn wsX5_isOuter wsX5_within := goodIn_r _ [6] (by decide +kernel) (by decide +kernel)
set_option maxRecDepth 20000 in
theorem gX5_isOuter_X5_within : GoodIn wsX5_isOuter (va_wsS RX5 41 yX5_within wsX5_within) := goodIn_app (goodIn_of _ (by decide +kernel)) ggX5_isOuter_X5_within
theorem dX5_isOuter_0 : decode cX5_isOuter 0 = .ok (.iload_n 1, 1) := by decide +kernel
theorem dX5_isOuter_1 : decode cX5_isOuter 1 = .ok (.i2l, 1) := by decide +kernel
theorem dX5_isOuter_2 : decode cX5_isOuter 2 = .ok (.lconst 0, 1) := by decide +kernel
theorem dX5_isOuter_3 : decode cX5_isOuter 3 = .ok (.aload_n 0, 1) := by decide +kernel
theorem dX5_isOuter_4 : decode cX5_isOuter 4 = .ok (.getfield 35, 3) := by decide +kernel
theorem dX5_isOuter_7 : decode cX5_isOuter 7 = .ok (.getfield 269, 3) := by decide +kernel
theorem dX5_isOuter_10 : decode cX5_isOuter 10 = .ok (.iconst 1, 1) := by decide +kernel
theorem dX5_isOuter_11 : decode cX5_isOuter 11 = .ok (.isub, 1) := by decide +kernel
theorem dX5_isOuter_12 : decode cX5_isOuter 12 = .ok (.i2l, 1) := by decide +kernel
theorem dX5_isOuter_13 : decode cX5_isOuter 13 = .ok (.invokestatic 41, 3) := by decide +kernel
theorem dX5_isOuter_16 : decode cX5_isOuter 16 = .ok (.ireturn, 1) := by decide +kernel
theorem dX5_cut_0 : decode cX5_cut 0 = .ok (.lload_n 2, 1) := by decide +kernel
theorem dX5_cut_1 : decode cX5_cut 1 = .ok (.lconst 0, 1) := by decide +kernel
theorem dX5_cut_2 : decode cX5_cut 2 = .ok (.lcmp, 1) := by decide +kernel
theorem dX5_cut_3 : decode cX5_cut 3 = .ok (.ifCond .le 9, 3) := by decide +kernel
theorem dX5_cut_6 : decode cX5_cut 6 = .ok (.lload_n 0, 1) := by decide +kernel
theorem dX5_cut_7 : decode cX5_cut 7 = .ok (.lload_n 2, 1) := by decide +kernel
theorem dX5_cut_8 : decode cX5_cut 8 = .ok (.ldiv, 1) := by decide +kernel
theorem dX5_cut_9 : decode cX5_cut 9 = .ok (.goto 4, 3) := by decide +kernel
theorem dX5_cut_12 : decode cX5_cut 12 = .ok (.lconst 0, 1) := by decide +kernel
theorem dX5_cut_13 : decode cX5_cut 13 = .ok (.lreturn, 1) := by decide +kernel
theorem dX5_rest_0 : decode cX5_rest 0 = .ok (.lload_n 2, 1) := by decide +kernel
theorem dX5_rest_1 : decode cX5_rest 1 = .ok (.lconst 0, 1) := by decide +kernel
theorem dX5_rest_2 : decode cX5_rest 2 = .ok (.lcmp, 1) := by decide +kernel
theorem dX5_rest_3 : decode cX5_rest 3 = .ok (.ifCond .le 9, 3) := by decide +kernel
theorem dX5_rest_6 : decode cX5_rest 6 = .ok (.lload_n 0, 1) := by decide +kernel
theorem dX5_rest_7 : decode cX5_rest 7 = .ok (.lload_n 2, 1) := by decide +kernel
theorem dX5_rest_8 : decode cX5_rest 8 = .ok (.lrem, 1) := by decide +kernel
theorem dX5_rest_9 : decode cX5_rest 9 = .ok (.goto 4, 3) := by decide +kernel
theorem dX5_rest_12 : decode cX5_rest 12 = .ok (.lconst 0, 1) := by decide +kernel
theorem dX5_rest_13 : decode cX5_rest 13 = .ok (.lreturn, 1) := by decide +kernel
set_option maxRecDepth 20000 in
theorem ggX5_cutUp_X5_cut : GoodIn wsX5_cutUp wsX5_cut := goodIn_r _ [4] (by decide +kernel) (by decide +kernel)
set_option maxRecDepth 20000 in
theorem gX5_cutUp_X5_cut : GoodIn wsX5_cutUp (va_wsS RX5 135 yX5_cut wsX5_cut) := goodIn_app (goodIn_of _ (by decide +kernel)) ggX5_cutUp_X5_cut
theorem dX5_cutUp_0 : decode cX5_cutUp 0 = .ok (.lload_n 0, 1) := by decide +kernel
theorem dX5_cutUp_1 : decode cX5_cutUp 1 = .ok (.lload_n 2, 1) := by decide +kernel
theorem dX5_cutUp_2 : decode cX5_cutUp 2 = .ok (.ladd, 1) := by decide +kernel
theorem dX5_cutUp_3 : decode cX5_cutUp 3 = .ok (.lconst 1, 1) := by decide +kernel
theorem dX5_cutUp_4 : decode cX5_cutUp 4 = .ok (.lsub, 1) := by decide +kernel
theorem dX5_cutUp_5 : decode cX5_cutUp 5 = .ok (.lload_n 2, 1) := by decide +kernel
theorem dX5_cutUp_6 : decode cX5_cutUp 6 = .ok (.invokestatic 135, 3) := by decide +kernel
theorem dX5_cutUp_9 : decode cX5_cutUp 9 = .ok (.lreturn, 1) := by decide +kernel
set_option maxRecDepth 20000 in
theorem ggX5_commonDivisor_X5_rest : GoodIn wsX5_commonDivisor wsX5_rest := goodIn_r _ [4] (by decide +kernel) (by decide +kernel)
set_option maxRecDepth 20000 in
theorem gX5_commonDivisor_X5_rest : GoodIn wsX5_commonDivisor (va_wsS RX5 272 yX5_rest wsX5_rest) := goodIn_app (goodIn_of _ (by decide +kernel)) ggX5_commonDivisor_X5_rest
theorem dX5_commonDivisor_0 : decode cX5_commonDivisor 0 = .ok (.lload_n 2, 1) := by decide +kernel
theorem dX5_commonDivisor_1 : decode cX5_commonDivisor 1 = .ok (.lstore 4, 2) := by decide +kernel
theorem dX5_commonDivisor_3 : decode cX5_commonDivisor 3 = .ok (.lload_n 0, 1) := by decide +kernel
theorem dX5_commonDivisor_4 : decode cX5_commonDivisor 4 = .ok (.lstore 6, 2) := by decide +kernel
theorem dX5_commonDivisor_6 : decode cX5_commonDivisor 6 = .ok (.iconst 0, 1) := by decide +kernel
theorem dX5_commonDivisor_7 : decode cX5_commonDivisor 7 = .ok (.istore 8, 2) := by decide +kernel
theorem dX5_commonDivisor_9 : decode cX5_commonDivisor 9 = .ok (.iload 8, 2) := by decide +kernel
theorem dX5_commonDivisor_11 : decode cX5_commonDivisor 11 = .ok (.sipush 128, 3) := by decide +kernel
theorem dX5_commonDivisor_14 : decode cX5_commonDivisor 14 = .ok (.if_icmp .ge 33, 3) := by decide +kernel
theorem dX5_commonDivisor_17 : decode cX5_commonDivisor 17 = .ok (.lload 6, 2) := by decide +kernel
theorem dX5_commonDivisor_19 : decode cX5_commonDivisor 19 = .ok (.lconst 0, 1) := by decide +kernel
theorem dX5_commonDivisor_20 : decode cX5_commonDivisor 20 = .ok (.lcmp, 1) := by decide +kernel
theorem dX5_commonDivisor_21 : decode cX5_commonDivisor 21 = .ok (.ifCond .le 26, 3) := by decide +kernel
theorem dX5_commonDivisor_24 : decode cX5_commonDivisor 24 = .ok (.lload 4, 2) := by decide +kernel
theorem dX5_commonDivisor_26 : decode cX5_commonDivisor 26 = .ok (.lload 6, 2) := by decide +kernel
theorem dX5_commonDivisor_28 : decode cX5_commonDivisor 28 = .ok (.invokestatic 272, 3) := by decide +kernel
theorem dX5_commonDivisor_31 : decode cX5_commonDivisor 31 = .ok (.lstore 9, 2) := by decide +kernel
theorem dX5_commonDivisor_33 : decode cX5_commonDivisor 33 = .ok (.lload 6, 2) := by decide +kernel
theorem dX5_commonDivisor_35 : decode cX5_commonDivisor 35 = .ok (.lstore 4, 2) := by decide +kernel
theorem dX5_commonDivisor_37 : decode cX5_commonDivisor 37 = .ok (.lload 9, 2) := by decide +kernel
theorem dX5_commonDivisor_39 : decode cX5_commonDivisor 39 = .ok (.lstore 6, 2) := by decide +kernel
theorem dX5_commonDivisor_41 : decode cX5_commonDivisor 41 = .ok (.iinc 8 1, 3) := by decide +kernel
theorem dX5_commonDivisor_44 : decode cX5_commonDivisor 44 = .ok (.goto (-35), 3) := by decide +kernel
theorem dX5_commonDivisor_47 : decode cX5_commonDivisor 47 = .ok (.lload 4, 2) := by decide +kernel
theorem dX5_commonDivisor_49 : decode cX5_commonDivisor 49 = .ok (.lreturn, 1) := by decide +kernel
theorem dX5_power_0 : decode cX5_power 0 = .ok (.lconst 1, 1) := by decide +kernel
theorem dX5_power_1 : decode cX5_power 1 = .ok (.lstore_n 2, 1) := by decide +kernel
theorem dX5_power_2 : decode cX5_power 2 = .ok (.iconst 0, 1) := by decide +kernel
theorem dX5_power_3 : decode cX5_power 3 = .ok (.istore 4, 2) := by decide +kernel
theorem dX5_power_5 : decode cX5_power 5 = .ok (.iload 4, 2) := by decide +kernel
theorem dX5_power_7 : decode cX5_power 7 = .ok (.iload_n 1, 1) := by decide +kernel
theorem dX5_power_8 : decode cX5_power 8 = .ok (.if_icmp .ge 14, 3) := by decide +kernel
theorem dX5_power_11 : decode cX5_power 11 = .ok (.lload_n 2, 1) := by decide +kernel
theorem dX5_power_12 : decode cX5_power 12 = .ok (.iload_n 0, 1) := by decide +kernel
theorem dX5_power_13 : decode cX5_power 13 = .ok (.i2l, 1) := by decide +kernel
theorem dX5_power_14 : decode cX5_power 14 = .ok (.lmul, 1) := by decide +kernel
theorem dX5_power_15 : decode cX5_power 15 = .ok (.lstore_n 2, 1) := by decide +kernel
theorem dX5_power_16 : decode cX5_power 16 = .ok (.iinc 4 1, 3) := by decide +kernel
theorem dX5_power_19 : decode cX5_power 19 = .ok (.goto (-14), 3) := by decide +kernel
theorem dX5_power_22 : decode cX5_power 22 = .ok (.lload_n 2, 1) := by decide +kernel
theorem dX5_power_23 : decode cX5_power 23 = .ok (.lreturn, 1) := by decide +kernel
set_option maxRecDepth 20000 in
theorem ggX5_lastBracket_X5_power : GoodIn wsX5_lastBracket wsX5_power := goodIn_r _ [4] (by decide +kernel) (by decide +kernel)
set_option maxRecDepth 20000 in
theorem gX5_lastBracket_X5_power : GoodIn wsX5_lastBracket (va_wsS RX5 218 yX5_power wsX5_power) := goodIn_app (goodIn_of _ (by decide +kernel)) ggX5_lastBracket_X5_power
theorem dX5_lastBracket_0 : decode cX5_lastBracket 0 = .ok (.iconst 0, 1) := by decide +kernel
theorem dX5_lastBracket_1 : decode cX5_lastBracket 1 = .ok (.istore_n 2, 1) := by decide +kernel
theorem dX5_lastBracket_2 : decode cX5_lastBracket 2 = .ok (.iload_n 2, 1) := by decide +kernel
theorem dX5_lastBracket_3 : decode cX5_lastBracket 3 = .ok (.bipush 20, 2) := by decide +kernel
theorem dX5_lastBracket_5 : decode cX5_lastBracket 5 = .ok (.if_icmp .ge 22, 3) := by decide +kernel
theorem dX5_lastBracket_8 : decode cX5_lastBracket 8 = .ok (.iload_n 1, 1) := by decide +kernel
theorem dX5_lastBracket_9 : decode cX5_lastBracket 9 = .ok (.iload_n 2, 1) := by decide +kernel
theorem dX5_lastBracket_10 : decode cX5_lastBracket 10 = .ok (.iconst 1, 1) := by decide +kernel
theorem dX5_lastBracket_11 : decode cX5_lastBracket 11 = .ok (.iadd, 1) := by decide +kernel
theorem dX5_lastBracket_12 : decode cX5_lastBracket 12 = .ok (.invokestatic 218, 3) := by decide +kernel
theorem dX5_lastBracket_15 : decode cX5_lastBracket 15 = .ok (.iload_n 0, 1) := by decide +kernel
theorem dX5_lastBracket_16 : decode cX5_lastBracket 16 = .ok (.i2l, 1) := by decide +kernel
theorem dX5_lastBracket_17 : decode cX5_lastBracket 17 = .ok (.lcmp, 1) := by decide +kernel
theorem dX5_lastBracket_18 : decode cX5_lastBracket 18 = .ok (.ifCond .gt 9, 3) := by decide +kernel
theorem dX5_lastBracket_21 : decode cX5_lastBracket 21 = .ok (.iinc 2 1, 3) := by decide +kernel
theorem dX5_lastBracket_24 : decode cX5_lastBracket 24 = .ok (.goto (-22), 3) := by decide +kernel
theorem dX5_lastBracket_27 : decode cX5_lastBracket 27 = .ok (.iload_n 2, 1) := by decide +kernel
theorem dX5_lastBracket_28 : decode cX5_lastBracket 28 = .ok (.ireturn, 1) := by decide +kernel
set_option maxRecDepth 20000 in
theorem ggX5_placeBy_X5_rest : GoodIn wsX5_placeBy wsX5_rest := goodIn_r _ [7] (by decide +kernel) (by decide +kernel)
set_option maxRecDepth 20000 in
theorem gX5_placeBy_X5_rest : GoodIn wsX5_placeBy (va_wsS RX5 272 yX5_rest wsX5_rest) := goodIn_app (goodIn_of _ (by decide +kernel)) ggX5_placeBy_X5_rest
set_option maxRecDepth 20000 in
theorem ggX5_placeBy_X2_pick : GoodIn wsX5_placeBy wsX2_pick := goodIn_r _ [11, 12, 13, 14, 10, 15, 16, 17, 18, 19, 20, 21, 22, 23, 24, 25] (by decide +kernel) (by decide +kernel)
set_option maxRecDepth 20000 in
theorem gX5_placeBy_X2_pick : GoodIn wsX5_placeBy (va_wsS RX5 275 yX2_pick wsX2_pick) := goodIn_app (goodIn_of _ (by decide +kernel)) ggX5_placeBy_X2_pick
set_option maxRecDepth 20000 in
theorem ggX5_placeBy_X3_pickEach : GoodIn wsX5_placeBy wsX3_pickEach := goodIn_r _ [30, 31, 32, 33, 34, 35, 29, 36, 37, 38, 39, 40, 41, 42, 21, 10, 22, 23, 24, 25, 43, 9, 11, 12, 13, 14, 15, 16, 17, 18, 19, 20, 57, 58, 59, 60, 61, 62, 63, 64, 65] (by decide +kernel) (by decide +kernel)
set_option maxRecDepth 20000 in
theorem gX5_placeBy_X3_pickEach : GoodIn wsX5_placeBy (wsV RX5 280 RX3 yX3_pickEach wsX3_pickEach) := goodIn_app (goodIn_of _ (by decide +kernel)) ggX5_placeBy_X3_pickEach
set_option maxRecDepth 20000 in
theorem ggX5_placeBy_X3_place : GoodIn wsX5_placeBy wsX3_place := goodIn_r _ [47, 48, 31, 49, 50, 51, 6, 52, 57, 58, 59, 60, 61, 62, 63, 64, 65] (by decide +kernel) (by decide +kernel)
set_option maxRecDepth 20000 in
theorem gX5_placeBy_X3_place : GoodIn wsX5_placeBy (wsV RX5 80 RX3 yX3_place wsX3_place) := goodIn_app (goodIn_of _ (by decide +kernel)) ggX5_placeBy_X3_place
theorem dX5_placeBy_0 : decode cX5_placeBy 0 = .ok (.iload_n 1, 1) := by decide +kernel
theorem dX5_placeBy_1 : decode cX5_placeBy 1 = .ok (.ifCond .ne 16, 3) := by decide +kernel
theorem dX5_placeBy_4 : decode cX5_placeBy 4 = .ok (.iload_n 2, 1) := by decide +kernel
theorem dX5_placeBy_5 : decode cX5_placeBy 5 = .ok (.i2l, 1) := by decide +kernel
theorem dX5_placeBy_6 : decode cX5_placeBy 6 = .ok (.aload_n 0, 1) := by decide +kernel
theorem dX5_placeBy_7 : decode cX5_placeBy 7 = .ok (.getfield 12, 3) := by decide +kernel
theorem dX5_placeBy_10 : decode cX5_placeBy 10 = .ok (.getfield 60, 3) := by decide +kernel
theorem dX5_placeBy_13 : decode cX5_placeBy 13 = .ok (.invokestatic 272, 3) := by decide +kernel
theorem dX5_placeBy_16 : decode cX5_placeBy 16 = .ok (.lreturn, 1) := by decide +kernel
theorem dX5_placeBy_17 : decode cX5_placeBy 17 = .ok (.iload_n 1, 1) := by decide +kernel
theorem dX5_placeBy_18 : decode cX5_placeBy 18 = .ok (.iconst 1, 1) := by decide +kernel
theorem dX5_placeBy_19 : decode cX5_placeBy 19 = .ok (.if_icmp .ne 15, 3) := by decide +kernel
theorem dX5_placeBy_22 : decode cX5_placeBy 22 = .ok (.aload_n 0, 1) := by decide +kernel
theorem dX5_placeBy_23 : decode cX5_placeBy 23 = .ok (.getfield 12, 3) := by decide +kernel
theorem dX5_placeBy_26 : decode cX5_placeBy 26 = .ok (.getfield 60, 3) := by decide +kernel
theorem dX5_placeBy_29 : decode cX5_placeBy 29 = .ok (.iload_n 2, 1) := by decide +kernel
theorem dX5_placeBy_30 : decode cX5_placeBy 30 = .ok (.invokestatic 275, 3) := by decide +kernel
theorem dX5_placeBy_33 : decode cX5_placeBy 33 = .ok (.lreturn, 1) := by decide +kernel
theorem dX5_placeBy_34 : decode cX5_placeBy 34 = .ok (.aload_n 0, 1) := by decide +kernel
theorem dX5_placeBy_35 : decode cX5_placeBy 35 = .ok (.getfield 12, 3) := by decide +kernel
theorem dX5_placeBy_38 : decode cX5_placeBy 38 = .ok (.iload_n 2, 1) := by decide +kernel
theorem dX5_placeBy_39 : decode cX5_placeBy 39 = .ok (.aload_n 0, 1) := by decide +kernel
theorem dX5_placeBy_40 : decode cX5_placeBy 40 = .ok (.getfield 12, 3) := by decide +kernel
theorem dX5_placeBy_43 : decode cX5_placeBy 43 = .ok (.getfield 68, 3) := by decide +kernel
theorem dX5_placeBy_46 : decode cX5_placeBy 46 = .ok (.invokevirtual 280, 3) := by decide +kernel
theorem dX5_placeBy_49 : decode cX5_placeBy 49 = .ok (.aload_n 0, 1) := by decide +kernel
theorem dX5_placeBy_50 : decode cX5_placeBy 50 = .ok (.getfield 12, 3) := by decide +kernel
theorem dX5_placeBy_53 : decode cX5_placeBy 53 = .ok (.aload_n 0, 1) := by decide +kernel
theorem dX5_placeBy_54 : decode cX5_placeBy 54 = .ok (.getfield 12, 3) := by decide +kernel
theorem dX5_placeBy_57 : decode cX5_placeBy 57 = .ok (.getfield 68, 3) := by decide +kernel
theorem dX5_placeBy_60 : decode cX5_placeBy 60 = .ok (.invokevirtual 80, 3) := by decide +kernel
theorem dX5_placeBy_63 : decode cX5_placeBy 63 = .ok (.lreturn, 1) := by decide +kernel
end
section
theorem dX6_hash_0 : decode cX6_hash 0 = .ok (.iload_n 0, 1) := by decide +kernel
theorem dX6_hash_1 : decode cX6_hash 1 = .ok (.iload_n 1, 1) := by decide +kernel
theorem dX6_hash_2 : decode cX6_hash 2 = .ok (.ldc 1, 2) := by decide +kernel
theorem dX6_hash_4 : decode cX6_hash 4 = .ok (.imul, 1) := by decide +kernel
theorem dX6_hash_5 : decode cX6_hash 5 = .ok (.iadd, 1) := by decide +kernel
theorem dX6_hash_6 : decode cX6_hash 6 = .ok (.istore_n 2, 1) := by decide +kernel
theorem dX6_hash_7 : decode cX6_hash 7 = .ok (.iload_n 2, 1) := by decide +kernel
theorem dX6_hash_8 : decode cX6_hash 8 = .ok (.iload_n 2, 1) := by decide +kernel
theorem dX6_hash_9 : decode cX6_hash 9 = .ok (.bipush 16, 2) := by decide +kernel
theorem dX6_hash_11 : decode cX6_hash 11 = .ok (.iushr, 1) := by decide +kernel
theorem dX6_hash_12 : decode cX6_hash 12 = .ok (.ixor, 1) := by decide +kernel
theorem dX6_hash_13 : decode cX6_hash 13 = .ok (.ldc 2, 2) := by decide +kernel
theorem dX6_hash_15 : decode cX6_hash 15 = .ok (.imul, 1) := by decide +kernel
theorem dX6_hash_16 : decode cX6_hash 16 = .ok (.istore_n 2, 1) := by decide +kernel
theorem dX6_hash_17 : decode cX6_hash 17 = .ok (.iload_n 2, 1) := by decide +kernel
theorem dX6_hash_18 : decode cX6_hash 18 = .ok (.iload_n 2, 1) := by decide +kernel
theorem dX6_hash_19 : decode cX6_hash 19 = .ok (.bipush 13, 2) := by decide +kernel
theorem dX6_hash_21 : decode cX6_hash 21 = .ok (.iushr, 1) := by decide +kernel
theorem dX6_hash_22 : decode cX6_hash 22 = .ok (.ixor, 1) := by decide +kernel
theorem dX6_hash_23 : decode cX6_hash 23 = .ok (.ldc 3, 2) := by decide +kernel
theorem dX6_hash_25 : decode cX6_hash 25 = .ok (.imul, 1) := by decide +kernel
theorem dX6_hash_26 : decode cX6_hash 26 = .ok (.istore_n 2, 1) := by decide +kernel
theorem dX6_hash_27 : decode cX6_hash 27 = .ok (.iload_n 2, 1) := by decide +kernel
theorem dX6_hash_28 : decode cX6_hash 28 = .ok (.iload_n 2, 1) := by decide +kernel
theorem dX6_hash_29 : decode cX6_hash 29 = .ok (.bipush 16, 2) := by decide +kernel
theorem dX6_hash_31 : decode cX6_hash 31 = .ok (.iushr, 1) := by decide +kernel
theorem dX6_hash_32 : decode cX6_hash 32 = .ok (.ixor, 1) := by decide +kernel
theorem dX6_hash_33 : decode cX6_hash 33 = .ok (.ireturn, 1) := by decide +kernel
set_option maxRecDepth 20000 in
theorem ggX6_pick_X6_hash : GoodIn wsX6_pick wsX6_hash := goodIn_r _ [5, 6, 7, 8] (by decide +kernel) (by decide +kernel)
set_option maxRecDepth 20000 in
theorem gX6_pick_X6_hash : GoodIn wsX6_pick (va_wsS RX6 4 yX6_hash wsX6_hash) := goodIn_app (goodIn_of _ (by decide +kernel)) ggX6_pick_X6_hash
theorem dX6_pick_0 : decode cX6_pick 0 = .ok (.iconst 0, 1) := by decide +kernel
theorem dX6_pick_1 : decode cX6_pick 1 = .ok (.istore_n 3, 1) := by decide +kernel
theorem dX6_pick_2 : decode cX6_pick 2 = .ok (.lconst 1, 1) := by decide +kernel
theorem dX6_pick_3 : decode cX6_pick 3 = .ok (.iload_n 3, 1) := by decide +kernel
theorem dX6_pick_4 : decode cX6_pick 4 = .ok (.lshl, 1) := by decide +kernel
theorem dX6_pick_5 : decode cX6_pick 5 = .ok (.lload_n 1, 1) := by decide +kernel
theorem dX6_pick_6 : decode cX6_pick 6 = .ok (.lcmp, 1) := by decide +kernel
theorem dX6_pick_7 : decode cX6_pick 7 = .ok (.ifCond .ge 9, 3) := by decide +kernel
theorem dX6_pick_10 : decode cX6_pick 10 = .ok (.iinc 3 1, 3) := by decide +kernel
theorem dX6_pick_13 : decode cX6_pick 13 = .ok (.goto (-11), 3) := by decide +kernel
theorem dX6_pick_16 : decode cX6_pick 16 = .ok (.iconst 0, 1) := by decide +kernel
theorem dX6_pick_17 : decode cX6_pick 17 = .ok (.istore 4, 2) := by decide +kernel
theorem dX6_pick_19 : decode cX6_pick 19 = .ok (.iload_n 0, 1) := by decide +kernel
theorem dX6_pick_20 : decode cX6_pick 20 = .ok (.iconst 2, 1) := by decide +kernel
theorem dX6_pick_21 : decode cX6_pick 21 = .ok (.iload 4, 2) := by decide +kernel
theorem dX6_pick_23 : decode cX6_pick 23 = .ok (.imul, 1) := by decide +kernel
theorem dX6_pick_24 : decode cX6_pick 24 = .ok (.iconst 1, 1) := by decide +kernel
theorem dX6_pick_25 : decode cX6_pick 25 = .ok (.iadd, 1) := by decide +kernel
theorem dX6_pick_26 : decode cX6_pick 26 = .ok (.invokestatic 4, 3) := by decide +kernel
theorem dX6_pick_29 : decode cX6_pick 29 = .ok (.i2l, 1) := by decide +kernel
theorem dX6_pick_30 : decode cX6_pick 30 = .ok (.bipush 32, 2) := by decide +kernel
theorem dX6_pick_32 : decode cX6_pick 32 = .ok (.lshl, 1) := by decide +kernel
theorem dX6_pick_33 : decode cX6_pick 33 = .ok (.iload_n 0, 1) := by decide +kernel
theorem dX6_pick_34 : decode cX6_pick 34 = .ok (.iconst 2, 1) := by decide +kernel
theorem dX6_pick_35 : decode cX6_pick 35 = .ok (.iload 4, 2) := by decide +kernel
theorem dX6_pick_37 : decode cX6_pick 37 = .ok (.imul, 1) := by decide +kernel
theorem dX6_pick_38 : decode cX6_pick 38 = .ok (.iconst 2, 1) := by decide +kernel
theorem dX6_pick_39 : decode cX6_pick 39 = .ok (.iadd, 1) := by decide +kernel
theorem dX6_pick_40 : decode cX6_pick 40 = .ok (.invokestatic 4, 3) := by decide +kernel
theorem dX6_pick_43 : decode cX6_pick 43 = .ok (.i2l, 1) := by decide +kernel
theorem dX6_pick_44 : decode cX6_pick 44 = .ok (.ldc2_w 10, 3) := by decide +kernel
theorem dX6_pick_47 : decode cX6_pick 47 = .ok (.land, 1) := by decide +kernel
theorem dX6_pick_48 : decode cX6_pick 48 = .ok (.lor, 1) := by decide +kernel
theorem dX6_pick_49 : decode cX6_pick 49 = .ok (.lstore 5, 2) := by decide +kernel
theorem dX6_pick_51 : decode cX6_pick 51 = .ok (.iload_n 3, 1) := by decide +kernel
theorem dX6_pick_52 : decode cX6_pick 52 = .ok (.ifCond .ne 7, 3) := by decide +kernel
theorem dX6_pick_55 : decode cX6_pick 55 = .ok (.lconst 0, 1) := by decide +kernel
theorem dX6_pick_56 : decode cX6_pick 56 = .ok (.goto 10, 3) := by decide +kernel
theorem dX6_pick_59 : decode cX6_pick 59 = .ok (.lload 5, 2) := by decide +kernel
theorem dX6_pick_61 : decode cX6_pick 61 = .ok (.bipush 64, 2) := by decide +kernel
theorem dX6_pick_63 : decode cX6_pick 63 = .ok (.iload_n 3, 1) := by decide +kernel
theorem dX6_pick_64 : decode cX6_pick 64 = .ok (.isub, 1) := by decide +kernel
theorem dX6_pick_65 : decode cX6_pick 65 = .ok (.lushr, 1) := by decide +kernel
theorem dX6_pick_66 : decode cX6_pick 66 = .ok (.lstore 5, 2) := by decide +kernel
theorem dX6_pick_68 : decode cX6_pick 68 = .ok (.lload 5, 2) := by decide +kernel
theorem dX6_pick_70 : decode cX6_pick 70 = .ok (.lload_n 1, 1) := by decide +kernel
theorem dX6_pick_71 : decode cX6_pick 71 = .ok (.lcmp, 1) := by decide +kernel
theorem dX6_pick_72 : decode cX6_pick 72 = .ok (.ifCond .ge 6, 3) := by decide +kernel
theorem dX6_pick_75 : decode cX6_pick 75 = .ok (.lload 5, 2) := by decide +kernel
theorem dX6_pick_77 : decode cX6_pick 77 = .ok (.lreturn, 1) := by decide +kernel
theorem dX6_pick_78 : decode cX6_pick 78 = .ok (.iinc 4 1, 3) := by decide +kernel
theorem dX6_pick_81 : decode cX6_pick 81 = .ok (.goto (-62), 3) := by decide +kernel
theorem dX6_in_0 : decode cX6_in 0 = .ok (.lload_n 0, 1) := by decide +kernel
theorem dX6_in_1 : decode cX6_in 1 = .ok (.lload_n 2, 1) := by decide +kernel
theorem dX6_in_2 : decode cX6_in 2 = .ok (.lcmp, 1) := by decide +kernel
theorem dX6_in_3 : decode cX6_in 3 = .ok (.ifCond .lt 14, 3) := by decide +kernel
theorem dX6_in_6 : decode cX6_in 6 = .ok (.lload_n 0, 1) := by decide +kernel
theorem dX6_in_7 : decode cX6_in 7 = .ok (.lload 4, 2) := by decide +kernel
theorem dX6_in_9 : decode cX6_in 9 = .ok (.lcmp, 1) := by decide +kernel
theorem dX6_in_10 : decode cX6_in 10 = .ok (.ifCond .gt 7, 3) := by decide +kernel
theorem dX6_in_13 : decode cX6_in 13 = .ok (.iconst 1, 1) := by decide +kernel
theorem dX6_in_14 : decode cX6_in 14 = .ok (.goto 4, 3) := by decide +kernel
theorem dX6_in_17 : decode cX6_in 17 = .ok (.iconst 0, 1) := by decide +kernel
theorem dX6_in_18 : decode cX6_in 18 = .ok (.ireturn, 1) := by decide +kernel
theorem dX6_init_0 : decode cX6_init 0 = .ok (.aload_n 0, 1) := by decide +kernel
theorem dX6_init_1 : decode cX6_init 1 = .ok (.invokespecial 12, 3) := by decide +kernel
theorem dX6_init_4 : decode cX6_init 4 = .ok (.aload_n 0, 1) := by decide +kernel
theorem dX6_init_5 : decode cX6_init 5 = .ok (.bipush 8, 2) := by decide +kernel
theorem dX6_init_7 : decode cX6_init 7 = .ok (.newarray .int, 2) := by decide +kernel
theorem dX6_init_9 : decode cX6_init 9 = .ok (.putfield 18, 3) := by decide +kernel
theorem dX6_init_12 : decode cX6_init 12 = .ok (.aload_n 0, 1) := by decide +kernel
theorem dX6_init_13 : decode cX6_init 13 = .ok (.bipush 8, 2) := by decide +kernel
theorem dX6_init_15 : decode cX6_init 15 = .ok (.newarray .int, 2) := by decide +kernel
theorem dX6_init_17 : decode cX6_init 17 = .ok (.putfield 22, 3) := by decide +kernel
theorem dX6_init_20 : decode cX6_init 20 = .ok (.aload_n 0, 1) := by decide +kernel
theorem dX6_init_21 : decode cX6_init 21 = .ok (.bipush 8, 2) := by decide +kernel
theorem dX6_init_23 : decode cX6_init 23 = .ok (.newarray .int, 2) := by decide +kernel
theorem dX6_init_25 : decode cX6_init 25 = .ok (.putfield 25, 3) := by decide +kernel
theorem dX6_init_28 : decode cX6_init 28 = .ok (.aload_n 0, 1) := by decide +kernel
theorem dX6_init_29 : decode cX6_init 29 = .ok (.bipush 8, 2) := by decide +kernel
theorem dX6_init_31 : decode cX6_init 31 = .ok (.newarray .long, 2) := by decide +kernel
theorem dX6_init_33 : decode cX6_init 33 = .ok (.putfield 28, 3) := by decide +kernel
theorem dX6_init_36 : decode cX6_init 36 = .ok (.aload_n 0, 1) := by decide +kernel
theorem dX6_init_37 : decode cX6_init 37 = .ok (.bipush 16, 2) := by decide +kernel
theorem dX6_init_39 : decode cX6_init 39 = .ok (.newarray .int, 2) := by decide +kernel
theorem dX6_init_41 : decode cX6_init 41 = .ok (.putfield 32, 3) := by decide +kernel
theorem dX6_init_44 : decode cX6_init 44 = .ok (.aload_n 0, 1) := by decide +kernel
theorem dX6_init_45 : decode cX6_init 45 = .ok (.bipush 60, 2) := by decide +kernel
theorem dX6_init_47 : decode cX6_init 47 = .ok (.newarray .long, 2) := by decide +kernel
theorem dX6_init_49 : decode cX6_init 49 = .ok (.putfield 35, 3) := by decide +kernel
theorem dX6_init_52 : decode cX6_init 52 = .ok (.aload_n 0, 1) := by decide +kernel
theorem dX6_init_53 : decode cX6_init 53 = .ok (.bipush 60, 2) := by decide +kernel
theorem dX6_init_55 : decode cX6_init 55 = .ok (.newarray .int, 2) := by decide +kernel
theorem dX6_init_57 : decode cX6_init 57 = .ok (.putfield 38, 3) := by decide +kernel
theorem dX6_init_60 : decode cX6_init 60 = .ok (.aload_n 0, 1) := by decide +kernel
theorem dX6_init_61 : decode cX6_init 61 = .ok (.bipush 60, 2) := by decide +kernel
theorem dX6_init_63 : decode cX6_init 63 = .ok (.newarray .int, 2) := by decide +kernel
theorem dX6_init_65 : decode cX6_init 65 = .ok (.putfield 41, 3) := by decide +kernel
theorem dX6_init_68 : decode cX6_init 68 = .ok (.aload_n 0, 1) := by decide +kernel
theorem dX6_init_69 : decode cX6_init 69 = .ok (.bipush 60, 2) := by decide +kernel
theorem dX6_init_71 : decode cX6_init 71 = .ok (.newarray .int, 2) := by decide +kernel
theorem dX6_init_73 : decode cX6_init 73 = .ok (.putfield 44, 3) := by decide +kernel
theorem dX6_init_76 : decode cX6_init 76 = .ok (.aload_n 0, 1) := by decide +kernel
theorem dX6_init_77 : decode cX6_init 77 = .ok (.sipush 1200, 3) := by decide +kernel
theorem dX6_init_80 : decode cX6_init 80 = .ok (.newarray .int, 2) := by decide +kernel
theorem dX6_init_82 : decode cX6_init 82 = .ok (.putfield 47, 3) := by decide +kernel
theorem dX6_init_85 : decode cX6_init 85 = .ok (.aload_n 0, 1) := by decide +kernel
theorem dX6_init_86 : decode cX6_init 86 = .ok (.bipush 60, 2) := by decide +kernel
theorem dX6_init_88 : decode cX6_init 88 = .ok (.newarray .boolean, 2) := by decide +kernel
theorem dX6_init_90 : decode cX6_init 90 = .ok (.putfield 50, 3) := by decide +kernel
theorem dX6_init_93 : decode cX6_init 93 = .ok (.aload_n 0, 1) := by decide +kernel
theorem dX6_init_94 : decode cX6_init 94 = .ok (.bipush 60, 2) := by decide +kernel
theorem dX6_init_96 : decode cX6_init 96 = .ok (.newarray .int, 2) := by decide +kernel
theorem dX6_init_98 : decode cX6_init 98 = .ok (.putfield 54, 3) := by decide +kernel
theorem dX6_init_101 : decode cX6_init 101 = .ok (.aload_n 0, 1) := by decide +kernel
theorem dX6_init_102 : decode cX6_init 102 = .ok (.bipush 60, 2) := by decide +kernel
theorem dX6_init_104 : decode cX6_init 104 = .ok (.newarray .boolean, 2) := by decide +kernel
theorem dX6_init_106 : decode cX6_init 106 = .ok (.putfield 57, 3) := by decide +kernel
theorem dX6_init_109 : decode cX6_init 109 = .ok (.aload_n 0, 1) := by decide +kernel
theorem dX6_init_110 : decode cX6_init 110 = .ok (.bipush 60, 2) := by decide +kernel
theorem dX6_init_112 : decode cX6_init 112 = .ok (.newarray .boolean, 2) := by decide +kernel
theorem dX6_init_114 : decode cX6_init 114 = .ok (.putfield 60, 3) := by decide +kernel
theorem dX6_init_117 : decode cX6_init 117 = .ok (.aload_n 0, 1) := by decide +kernel
theorem dX6_init_118 : decode cX6_init 118 = .ok (.bipush 60, 2) := by decide +kernel
theorem dX6_init_120 : decode cX6_init 120 = .ok (.newarray .boolean, 2) := by decide +kernel
theorem dX6_init_122 : decode cX6_init 122 = .ok (.putfield 63, 3) := by decide +kernel
theorem dX6_init_125 : decode cX6_init 125 = .ok (.aload_n 0, 1) := by decide +kernel
theorem dX6_init_126 : decode cX6_init 126 = .ok (.bipush 60, 2) := by decide +kernel
theorem dX6_init_128 : decode cX6_init 128 = .ok (.newarray .int, 2) := by decide +kernel
theorem dX6_init_130 : decode cX6_init 130 = .ok (.putfield 66, 3) := by decide +kernel
theorem dX6_init_133 : decode cX6_init 133 = .ok (.aload_n 0, 1) := by decide +kernel
theorem dX6_init_134 : decode cX6_init 134 = .ok (.sipush 200, 3) := by decide +kernel
theorem dX6_init_137 : decode cX6_init 137 = .ok (.newarray .int, 2) := by decide +kernel
theorem dX6_init_139 : decode cX6_init 139 = .ok (.putfield 69, 3) := by decide +kernel
theorem dX6_init_142 : decode cX6_init 142 = .ok (.aload_n 0, 1) := by decide +kernel
theorem dX6_init_143 : decode cX6_init 143 = .ok (.bipush 10, 2) := by decide +kernel
theorem dX6_init_145 : decode cX6_init 145 = .ok (.newarray .boolean, 2) := by decide +kernel
theorem dX6_init_147 : decode cX6_init 147 = .ok (.putfield 72, 3) := by decide +kernel
theorem dX6_init_150 : decode cX6_init 150 = .ok (.aload_n 0, 1) := by decide +kernel
theorem dX6_init_151 : decode cX6_init 151 = .ok (.sipush 6000, 3) := by decide +kernel
theorem dX6_init_154 : decode cX6_init 154 = .ok (.newarray .int, 2) := by decide +kernel
theorem dX6_init_156 : decode cX6_init 156 = .ok (.putfield 75, 3) := by decide +kernel
theorem dX6_init_159 : decode cX6_init 159 = .ok (.return_, 1) := by decide +kernel
set_option maxRecDepth 20000 in
theorem ggX6_name_X6_in : GoodIn wsX6_name wsX6_in := goodIn_r _ [13] (by decide +kernel) (by decide +kernel)
set_option maxRecDepth 20000 in
theorem gX6_name_X6_in : GoodIn wsX6_name (va_wsS RX6 80 yX6_in wsX6_in) := goodIn_app (goodIn_of _ (by decide +kernel)) ggX6_name_X6_in
set_option maxRecDepth 20000 in
theorem ggX6_name_X6_waysOf : GoodIn wsX6_name wsX6_waysOf := goodIn_r _ [17, 3, 7, 8, 9, 18, 19, 20, 21, 22, 23, 24, 25, 26, 27, 28, 29, 30, 31, 32, 33, 34, 35, 36, 37, 38, 39, 40, 41, 42, 43, 44, 45, 46, 47, 48] (by decide +kernel) (by decide +kernel)
set_option maxRecDepth 20000 in
theorem gX6_name_X6_waysOf : GoodIn wsX6_name (wsV RX6 95 RX6 yX6_waysOf wsX6_waysOf) := goodIn_app (goodIn_of _ (by decide +kernel)) ggX6_name_X6_waysOf
theorem dX6_name_0 : decode cX6_name 0 = .ok (.iload_n 1, 1) := by decide +kernel
theorem dX6_name_1 : decode cX6_name 1 = .ok (.i2l, 1) := by decide +kernel
theorem dX6_name_2 : decode cX6_name 2 = .ok (.lconst 1, 1) := by decide +kernel
theorem dX6_name_3 : decode cX6_name 3 = .ok (.ldc2_w 78, 3) := by decide +kernel
theorem dX6_name_6 : decode cX6_name 6 = .ok (.invokestatic 80, 3) := by decide +kernel
theorem dX6_name_9 : decode cX6_name 9 = .ok (.ifCond .eq 37, 3) := by decide +kernel
theorem dX6_name_12 : decode cX6_name 12 = .ok (.iload_n 2, 1) := by decide +kernel
theorem dX6_name_13 : decode cX6_name 13 = .ok (.i2l, 1) := by decide +kernel
theorem dX6_name_14 : decode cX6_name 14 = .ok (.ldc2_w 84, 3) := by decide +kernel
theorem dX6_name_17 : decode cX6_name 17 = .ok (.aload_n 0, 1) := by decide +kernel
theorem dX6_name_18 : decode cX6_name 18 = .ok (.getfield 86, 3) := by decide +kernel
theorem dX6_name_21 : decode cX6_name 21 = .ok (.iconst 1, 1) := by decide +kernel
theorem dX6_name_22 : decode cX6_name 22 = .ok (.isub, 1) := by decide +kernel
theorem dX6_name_23 : decode cX6_name 23 = .ok (.i2l, 1) := by decide +kernel
theorem dX6_name_24 : decode cX6_name 24 = .ok (.invokestatic 80, 3) := by decide +kernel
theorem dX6_name_27 : decode cX6_name 27 = .ok (.ifCond .eq 19, 3) := by decide +kernel
theorem dX6_name_30 : decode cX6_name 30 = .ok (.iload_n 2, 1) := by decide +kernel
theorem dX6_name_31 : decode cX6_name 31 = .ok (.ifCond .lt 17, 3) := by decide +kernel
theorem dX6_name_34 : decode cX6_name 34 = .ok (.iload_n 3, 1) := by decide +kernel
theorem dX6_name_35 : decode cX6_name 35 = .ok (.i2l, 1) := by decide +kernel
theorem dX6_name_36 : decode cX6_name 36 = .ok (.lconst 1, 1) := by decide +kernel
theorem dX6_name_37 : decode cX6_name 37 = .ok (.ldc2_w 90, 3) := by decide +kernel
theorem dX6_name_40 : decode cX6_name 40 = .ok (.invokestatic 80, 3) := by decide +kernel
theorem dX6_name_43 : decode cX6_name 43 = .ok (.ifCond .ne 5, 3) := by decide +kernel
theorem dX6_name_46 : decode cX6_name 46 = .ok (.iconst (-1), 1) := by decide +kernel
theorem dX6_name_47 : decode cX6_name 47 = .ok (.ireturn, 1) := by decide +kernel
theorem dX6_name_48 : decode cX6_name 48 = .ok (.aload_n 0, 1) := by decide +kernel
theorem dX6_name_49 : decode cX6_name 49 = .ok (.getfield 92, 3) := by decide +kernel
theorem dX6_name_52 : decode cX6_name 52 = .ok (.ifCond .le 6, 3) := by decide +kernel
theorem dX6_name_55 : decode cX6_name 55 = .ok (.bipush (-3), 2) := by decide +kernel
theorem dX6_name_57 : decode cX6_name 57 = .ok (.ireturn, 1) := by decide +kernel
theorem dX6_name_58 : decode cX6_name 58 = .ok (.aload_n 0, 1) := by decide +kernel
theorem dX6_name_59 : decode cX6_name 59 = .ok (.getfield 86, 3) := by decide +kernel
theorem dX6_name_62 : decode cX6_name 62 = .ok (.bipush 8, 2) := by decide +kernel
theorem dX6_name_64 : decode cX6_name 64 = .ok (.if_icmp .ne 6, 3) := by decide +kernel
theorem dX6_name_67 : decode cX6_name 67 = .ok (.bipush (-4), 2) := by decide +kernel
theorem dX6_name_69 : decode cX6_name 69 = .ok (.ireturn, 1) := by decide +kernel
theorem dX6_name_70 : decode cX6_name 70 = .ok (.aload_n 0, 1) := by decide +kernel
theorem dX6_name_71 : decode cX6_name 71 = .ok (.getfield 18, 3) := by decide +kernel
theorem dX6_name_74 : decode cX6_name 74 = .ok (.aload_n 0, 1) := by decide +kernel
theorem dX6_name_75 : decode cX6_name 75 = .ok (.getfield 86, 3) := by decide +kernel
theorem dX6_name_78 : decode cX6_name 78 = .ok (.iload_n 1, 1) := by decide +kernel
theorem dX6_name_79 : decode cX6_name 79 = .ok (.iastore, 1) := by decide +kernel
theorem dX6_name_80 : decode cX6_name 80 = .ok (.aload_n 0, 1) := by decide +kernel
theorem dX6_name_81 : decode cX6_name 81 = .ok (.getfield 22, 3) := by decide +kernel
theorem dX6_name_84 : decode cX6_name 84 = .ok (.aload_n 0, 1) := by decide +kernel
theorem dX6_name_85 : decode cX6_name 85 = .ok (.getfield 86, 3) := by decide +kernel
theorem dX6_name_88 : decode cX6_name 88 = .ok (.iload_n 2, 1) := by decide +kernel
theorem dX6_name_89 : decode cX6_name 89 = .ok (.iastore, 1) := by decide +kernel
theorem dX6_name_90 : decode cX6_name 90 = .ok (.aload_n 0, 1) := by decide +kernel
theorem dX6_name_91 : decode cX6_name 91 = .ok (.getfield 25, 3) := by decide +kernel
theorem dX6_name_94 : decode cX6_name 94 = .ok (.aload_n 0, 1) := by decide +kernel
theorem dX6_name_95 : decode cX6_name 95 = .ok (.getfield 86, 3) := by decide +kernel
theorem dX6_name_98 : decode cX6_name 98 = .ok (.iload_n 3, 1) := by decide +kernel
theorem dX6_name_99 : decode cX6_name 99 = .ok (.iastore, 1) := by decide +kernel
theorem dX6_name_100 : decode cX6_name 100 = .ok (.aload_n 0, 1) := by decide +kernel
theorem dX6_name_101 : decode cX6_name 101 = .ok (.dup, 1) := by decide +kernel
theorem dX6_name_102 : decode cX6_name 102 = .ok (.getfield 86, 3) := by decide +kernel
theorem dX6_name_105 : decode cX6_name 105 = .ok (.iconst 1, 1) := by decide +kernel
theorem dX6_name_106 : decode cX6_name 106 = .ok (.iadd, 1) := by decide +kernel
theorem dX6_name_107 : decode cX6_name 107 = .ok (.putfield 86, 3) := by decide +kernel
theorem dX6_name_110 : decode cX6_name 110 = .ok (.aload_n 0, 1) := by decide +kernel
theorem dX6_name_111 : decode cX6_name 111 = .ok (.getfield 86, 3) := by decide +kernel
theorem dX6_name_114 : decode cX6_name 114 = .ok (.iconst 1, 1) := by decide +kernel
theorem dX6_name_115 : decode cX6_name 115 = .ok (.isub, 1) := by decide +kernel
theorem dX6_name_116 : decode cX6_name 116 = .ok (.istore 4, 2) := by decide +kernel
theorem dX6_name_118 : decode cX6_name 118 = .ok (.iload 4, 2) := by decide +kernel
theorem dX6_name_120 : decode cX6_name 120 = .ok (.ifCond .lt 56, 3) := by decide +kernel
theorem dX6_name_123 : decode cX6_name 123 = .ok (.aload_n 0, 1) := by decide +kernel
theorem dX6_name_124 : decode cX6_name 124 = .ok (.getfield 28, 3) := by decide +kernel
theorem dX6_name_127 : decode cX6_name 127 = .ok (.iload 4, 2) := by decide +kernel
theorem dX6_name_129 : decode cX6_name 129 = .ok (.lconst 0, 1) := by decide +kernel
theorem dX6_name_130 : decode cX6_name 130 = .ok (.lastore, 1) := by decide +kernel
theorem dX6_name_131 : decode cX6_name 131 = .ok (.iconst 0, 1) := by decide +kernel
theorem dX6_name_132 : decode cX6_name 132 = .ok (.istore 5, 2) := by decide +kernel
theorem dX6_name_134 : decode cX6_name 134 = .ok (.iload 5, 2) := by decide +kernel
theorem dX6_name_136 : decode cX6_name 136 = .ok (.aload_n 0, 1) := by decide +kernel
theorem dX6_name_137 : decode cX6_name 137 = .ok (.getfield 18, 3) := by decide +kernel
theorem dX6_name_140 : decode cX6_name 140 = .ok (.iload 4, 2) := by decide +kernel
theorem dX6_name_142 : decode cX6_name 142 = .ok (.iaload, 1) := by decide +kernel
theorem dX6_name_143 : decode cX6_name 143 = .ok (.if_icmp .ge 27, 3) := by decide +kernel
theorem dX6_name_146 : decode cX6_name 146 = .ok (.aload_n 0, 1) := by decide +kernel
theorem dX6_name_147 : decode cX6_name 147 = .ok (.getfield 28, 3) := by decide +kernel
theorem dX6_name_150 : decode cX6_name 150 = .ok (.iload 4, 2) := by decide +kernel
theorem dX6_name_152 : decode cX6_name 152 = .ok (.dup2, 1) := by decide +kernel
theorem dX6_name_153 : decode cX6_name 153 = .ok (.laload, 1) := by decide +kernel
theorem dX6_name_154 : decode cX6_name 154 = .ok (.aload_n 0, 1) := by decide +kernel
theorem dX6_name_155 : decode cX6_name 155 = .ok (.iload 4, 2) := by decide +kernel
theorem dX6_name_157 : decode cX6_name 157 = .ok (.iload 5, 2) := by decide +kernel
theorem dX6_name_159 : decode cX6_name 159 = .ok (.invokevirtual 95, 3) := by decide +kernel
theorem dX6_name_162 : decode cX6_name 162 = .ok (.ladd, 1) := by decide +kernel
theorem dX6_name_163 : decode cX6_name 163 = .ok (.lastore, 1) := by decide +kernel
theorem dX6_name_164 : decode cX6_name 164 = .ok (.iinc 5 1, 3) := by decide +kernel
theorem dX6_name_167 : decode cX6_name 167 = .ok (.goto (-33), 3) := by decide +kernel
theorem dX6_name_170 : decode cX6_name 170 = .ok (.iinc 4 (-1), 3) := by decide +kernel
theorem dX6_name_173 : decode cX6_name 173 = .ok (.goto (-55), 3) := by decide +kernel
theorem dX6_name_176 : decode cX6_name 176 = .ok (.aload_n 0, 1) := by decide +kernel
theorem dX6_name_177 : decode cX6_name 177 = .ok (.getfield 86, 3) := by decide +kernel
theorem dX6_name_180 : decode cX6_name 180 = .ok (.iconst 1, 1) := by decide +kernel
theorem dX6_name_181 : decode cX6_name 181 = .ok (.isub, 1) := by decide +kernel
theorem dX6_name_182 : decode cX6_name 182 = .ok (.ireturn, 1) := by decide +kernel
theorem dX6_waysOf_0 : decode cX6_waysOf 0 = .ok (.lconst 1, 1) := by decide +kernel
theorem dX6_waysOf_1 : decode cX6_waysOf 1 = .ok (.lstore_n 3, 1) := by decide +kernel
theorem dX6_waysOf_2 : decode cX6_waysOf 2 = .ok (.iload_n 1, 1) := by decide +kernel
theorem dX6_waysOf_3 : decode cX6_waysOf 3 = .ok (.iconst 1, 1) := by decide +kernel
theorem dX6_waysOf_4 : decode cX6_waysOf 4 = .ok (.iadd, 1) := by decide +kernel
theorem dX6_waysOf_5 : decode cX6_waysOf 5 = .ok (.istore 5, 2) := by decide +kernel
theorem dX6_waysOf_7 : decode cX6_waysOf 7 = .ok (.iload 5, 2) := by decide +kernel
theorem dX6_waysOf_9 : decode cX6_waysOf 9 = .ok (.aload_n 0, 1) := by decide +kernel
theorem dX6_waysOf_10 : decode cX6_waysOf 10 = .ok (.getfield 86, 3) := by decide +kernel
theorem dX6_waysOf_13 : decode cX6_waysOf 13 = .ok (.if_icmp .ge 49, 3) := by decide +kernel
theorem dX6_waysOf_16 : decode cX6_waysOf 16 = .ok (.lload_n 3, 1) := by decide +kernel
theorem dX6_waysOf_17 : decode cX6_waysOf 17 = .ok (.aload_n 0, 1) := by decide +kernel
theorem dX6_waysOf_18 : decode cX6_waysOf 18 = .ok (.getfield 22, 3) := by decide +kernel
theorem dX6_waysOf_21 : decode cX6_waysOf 21 = .ok (.iload 5, 2) := by decide +kernel
theorem dX6_waysOf_23 : decode cX6_waysOf 23 = .ok (.iaload, 1) := by decide +kernel
theorem dX6_waysOf_24 : decode cX6_waysOf 24 = .ok (.iload_n 1, 1) := by decide +kernel
theorem dX6_waysOf_25 : decode cX6_waysOf 25 = .ok (.if_icmp .ne 28, 3) := by decide +kernel
theorem dX6_waysOf_28 : decode cX6_waysOf 28 = .ok (.aload_n 0, 1) := by decide +kernel
theorem dX6_waysOf_29 : decode cX6_waysOf 29 = .ok (.getfield 25, 3) := by decide +kernel
theorem dX6_waysOf_32 : decode cX6_waysOf 32 = .ok (.iload 5, 2) := by decide +kernel
theorem dX6_waysOf_34 : decode cX6_waysOf 34 = .ok (.iaload, 1) := by decide +kernel
theorem dX6_waysOf_35 : decode cX6_waysOf 35 = .ok (.iload_n 2, 1) := by decide +kernel
theorem dX6_waysOf_36 : decode cX6_waysOf 36 = .ok (.ishr, 1) := by decide +kernel
theorem dX6_waysOf_37 : decode cX6_waysOf 37 = .ok (.iconst 1, 1) := by decide +kernel
theorem dX6_waysOf_38 : decode cX6_waysOf 38 = .ok (.iand, 1) := by decide +kernel
theorem dX6_waysOf_39 : decode cX6_waysOf 39 = .ok (.iconst 1, 1) := by decide +kernel
theorem dX6_waysOf_40 : decode cX6_waysOf 40 = .ok (.if_icmp .ne 13, 3) := by decide +kernel
theorem dX6_waysOf_43 : decode cX6_waysOf 43 = .ok (.aload_n 0, 1) := by decide +kernel
theorem dX6_waysOf_44 : decode cX6_waysOf 44 = .ok (.getfield 28, 3) := by decide +kernel
theorem dX6_waysOf_47 : decode cX6_waysOf 47 = .ok (.iload 5, 2) := by decide +kernel
theorem dX6_waysOf_49 : decode cX6_waysOf 49 = .ok (.laload, 1) := by decide +kernel
theorem dX6_waysOf_50 : decode cX6_waysOf 50 = .ok (.goto 4, 3) := by decide +kernel
theorem dX6_waysOf_53 : decode cX6_waysOf 53 = .ok (.lconst 1, 1) := by decide +kernel
theorem dX6_waysOf_54 : decode cX6_waysOf 54 = .ok (.lmul, 1) := by decide +kernel
theorem dX6_waysOf_55 : decode cX6_waysOf 55 = .ok (.lstore_n 3, 1) := by decide +kernel
theorem dX6_waysOf_56 : decode cX6_waysOf 56 = .ok (.iinc 5 1, 3) := by decide +kernel
theorem dX6_waysOf_59 : decode cX6_waysOf 59 = .ok (.goto (-52), 3) := by decide +kernel
theorem dX6_waysOf_62 : decode cX6_waysOf 62 = .ok (.lload_n 3, 1) := by decide +kernel
theorem dX6_waysOf_63 : decode cX6_waysOf 63 = .ok (.lreturn, 1) := by decide +kernel
theorem dX6_points_0 : decode cX6_points 0 = .ok (.lconst 1, 1) := by decide +kernel
theorem dX6_points_1 : decode cX6_points 1 = .ok (.lstore_n 1, 1) := by decide +kernel
theorem dX6_points_2 : decode cX6_points 2 = .ok (.iconst 0, 1) := by decide +kernel
theorem dX6_points_3 : decode cX6_points 3 = .ok (.istore_n 3, 1) := by decide +kernel
theorem dX6_points_4 : decode cX6_points 4 = .ok (.iload_n 3, 1) := by decide +kernel
theorem dX6_points_5 : decode cX6_points 5 = .ok (.aload_n 0, 1) := by decide +kernel
theorem dX6_points_6 : decode cX6_points 6 = .ok (.getfield 86, 3) := by decide +kernel
theorem dX6_points_9 : decode cX6_points 9 = .ok (.if_icmp .ge 31, 3) := by decide +kernel
theorem dX6_points_12 : decode cX6_points 12 = .ok (.lload_n 1, 1) := by decide +kernel
theorem dX6_points_13 : decode cX6_points 13 = .ok (.aload_n 0, 1) := by decide +kernel
theorem dX6_points_14 : decode cX6_points 14 = .ok (.getfield 22, 3) := by decide +kernel
theorem dX6_points_17 : decode cX6_points 17 = .ok (.iload_n 3, 1) := by decide +kernel
theorem dX6_points_18 : decode cX6_points 18 = .ok (.iaload, 1) := by decide +kernel
theorem dX6_points_19 : decode cX6_points 19 = .ok (.ifCond .ge 12, 3) := by decide +kernel
theorem dX6_points_22 : decode cX6_points 22 = .ok (.aload_n 0, 1) := by decide +kernel
theorem dX6_points_23 : decode cX6_points 23 = .ok (.getfield 28, 3) := by decide +kernel
theorem dX6_points_26 : decode cX6_points 26 = .ok (.iload_n 3, 1) := by decide +kernel
theorem dX6_points_27 : decode cX6_points 27 = .ok (.laload, 1) := by decide +kernel
theorem dX6_points_28 : decode cX6_points 28 = .ok (.goto 4, 3) := by decide +kernel
theorem dX6_points_31 : decode cX6_points 31 = .ok (.lconst 1, 1) := by decide +kernel
theorem dX6_points_32 : decode cX6_points 32 = .ok (.lmul, 1) := by decide +kernel
theorem dX6_points_33 : decode cX6_points 33 = .ok (.lstore_n 1, 1) := by decide +kernel
theorem dX6_points_34 : decode cX6_points 34 = .ok (.iinc 3 1, 3) := by decide +kernel
theorem dX6_points_37 : decode cX6_points 37 = .ok (.goto (-33), 3) := by decide +kernel
theorem dX6_points_40 : decode cX6_points 40 = .ok (.lload_n 1, 1) := by decide +kernel
theorem dX6_points_41 : decode cX6_points 41 = .ok (.lreturn, 1) := by decide +kernel
theorem dX6_isThere_0 : decode cX6_isThere 0 = .ok (.aload_n 0, 1) := by decide +kernel
theorem dX6_isThere_1 : decode cX6_isThere 1 = .ok (.getfield 22, 3) := by decide +kernel
theorem dX6_isThere_4 : decode cX6_isThere 4 = .ok (.iload_n 2, 1) := by decide +kernel
theorem dX6_isThere_5 : decode cX6_isThere 5 = .ok (.iaload, 1) := by decide +kernel
theorem dX6_isThere_6 : decode cX6_isThere 6 = .ok (.ifCond .lt 45, 3) := by decide +kernel
theorem dX6_isThere_9 : decode cX6_isThere 9 = .ok (.aload_n 0, 1) := by decide +kernel
theorem dX6_isThere_10 : decode cX6_isThere 10 = .ok (.getfield 32, 3) := by decide +kernel
theorem dX6_isThere_13 : decode cX6_isThere 13 = .ok (.iload_n 1, 1) := by decide +kernel
theorem dX6_isThere_14 : decode cX6_isThere 14 = .ok (.aload_n 0, 1) := by decide +kernel
theorem dX6_isThere_15 : decode cX6_isThere 15 = .ok (.getfield 22, 3) := by decide +kernel
theorem dX6_isThere_18 : decode cX6_isThere 18 = .ok (.iload_n 2, 1) := by decide +kernel
theorem dX6_isThere_19 : decode cX6_isThere 19 = .ok (.iaload, 1) := by decide +kernel
theorem dX6_isThere_20 : decode cX6_isThere 20 = .ok (.iadd, 1) := by decide +kernel
theorem dX6_isThere_21 : decode cX6_isThere 21 = .ok (.iaload, 1) := by decide +kernel
theorem dX6_isThere_22 : decode cX6_isThere 22 = .ok (.ifCond .lt 33, 3) := by decide +kernel
theorem dX6_isThere_25 : decode cX6_isThere 25 = .ok (.aload_n 0, 1) := by decide +kernel
theorem dX6_isThere_26 : decode cX6_isThere 26 = .ok (.getfield 25, 3) := by decide +kernel
theorem dX6_isThere_29 : decode cX6_isThere 29 = .ok (.iload_n 2, 1) := by decide +kernel
theorem dX6_isThere_30 : decode cX6_isThere 30 = .ok (.iaload, 1) := by decide +kernel
theorem dX6_isThere_31 : decode cX6_isThere 31 = .ok (.aload_n 0, 1) := by decide +kernel
theorem dX6_isThere_32 : decode cX6_isThere 32 = .ok (.getfield 32, 3) := by decide +kernel
theorem dX6_isThere_35 : decode cX6_isThere 35 = .ok (.iload_n 1, 1) := by decide +kernel
theorem dX6_isThere_36 : decode cX6_isThere 36 = .ok (.aload_n 0, 1) := by decide +kernel
theorem dX6_isThere_37 : decode cX6_isThere 37 = .ok (.getfield 22, 3) := by decide +kernel
theorem dX6_isThere_40 : decode cX6_isThere 40 = .ok (.iload_n 2, 1) := by decide +kernel
theorem dX6_isThere_41 : decode cX6_isThere 41 = .ok (.iaload, 1) := by decide +kernel
theorem dX6_isThere_42 : decode cX6_isThere 42 = .ok (.iadd, 1) := by decide +kernel
theorem dX6_isThere_43 : decode cX6_isThere 43 = .ok (.iaload, 1) := by decide +kernel
theorem dX6_isThere_44 : decode cX6_isThere 44 = .ok (.ishr, 1) := by decide +kernel
theorem dX6_isThere_45 : decode cX6_isThere 45 = .ok (.iconst 1, 1) := by decide +kernel
theorem dX6_isThere_46 : decode cX6_isThere 46 = .ok (.iand, 1) := by decide +kernel
theorem dX6_isThere_47 : decode cX6_isThere 47 = .ok (.iconst 1, 1) := by decide +kernel
theorem dX6_isThere_48 : decode cX6_isThere 48 = .ok (.if_icmp .ne 7, 3) := by decide +kernel
theorem dX6_isThere_51 : decode cX6_isThere 51 = .ok (.iconst 1, 1) := by decide +kernel
theorem dX6_isThere_52 : decode cX6_isThere 52 = .ok (.goto 4, 3) := by decide +kernel
theorem dX6_isThere_55 : decode cX6_isThere 55 = .ok (.iconst 0, 1) := by decide +kernel
theorem dX6_isThere_56 : decode cX6_isThere 56 = .ok (.ireturn, 1) := by decide +kernel
set_option maxRecDepth 20000 in
theorem ggX6_behind_X6_isThere : GoodIn wsX6_behind wsX6_isThere := goodIn_r _ [8, 2, 9, 10, 11, 12, 13, 14, 15, 16, 17, 18, 19, 20, 21, 22, 23, 24, 25, 26, 27, 28, 29, 30, 31, 32, 33, 34, 35, 36, 37, 38, 39, 40, 41] (by decide +kernel) (by decide +kernel)
set_option maxRecDepth 20000 in
theorem gX6_behind_X6_isThere : GoodIn wsX6_behind (wsV RX6 99 RX6 yX6_isThere wsX6_isThere) := goodIn_app (goodIn_of _ (by decide +kernel)) ggX6_behind_X6_isThere
theorem dX6_behind_0 : decode cX6_behind 0 = .ok (.lconst 1, 1) := by decide +kernel
theorem dX6_behind_1 : decode cX6_behind 1 = .ok (.lstore_n 3, 1) := by decide +kernel
theorem dX6_behind_2 : decode cX6_behind 2 = .ok (.iload_n 2, 1) := by decide +kernel
theorem dX6_behind_3 : decode cX6_behind 3 = .ok (.iconst 1, 1) := by decide +kernel
theorem dX6_behind_4 : decode cX6_behind 4 = .ok (.iadd, 1) := by decide +kernel
theorem dX6_behind_5 : decode cX6_behind 5 = .ok (.istore 5, 2) := by decide +kernel
theorem dX6_behind_7 : decode cX6_behind 7 = .ok (.iload 5, 2) := by decide +kernel
theorem dX6_behind_9 : decode cX6_behind 9 = .ok (.aload_n 0, 1) := by decide +kernel
theorem dX6_behind_10 : decode cX6_behind 10 = .ok (.getfield 86, 3) := by decide +kernel
theorem dX6_behind_13 : decode cX6_behind 13 = .ok (.if_icmp .ge 44, 3) := by decide +kernel
theorem dX6_behind_16 : decode cX6_behind 16 = .ok (.lload_n 3, 1) := by decide +kernel
theorem dX6_behind_17 : decode cX6_behind 17 = .ok (.aload_n 0, 1) := by decide +kernel
theorem dX6_behind_18 : decode cX6_behind 18 = .ok (.getfield 22, 3) := by decide +kernel
theorem dX6_behind_21 : decode cX6_behind 21 = .ok (.iload 5, 2) := by decide +kernel
theorem dX6_behind_23 : decode cX6_behind 23 = .ok (.iaload, 1) := by decide +kernel
theorem dX6_behind_24 : decode cX6_behind 24 = .ok (.iload_n 2, 1) := by decide +kernel
theorem dX6_behind_25 : decode cX6_behind 25 = .ok (.if_icmp .gt 23, 3) := by decide +kernel
theorem dX6_behind_28 : decode cX6_behind 28 = .ok (.aload_n 0, 1) := by decide +kernel
theorem dX6_behind_29 : decode cX6_behind 29 = .ok (.iload_n 1, 1) := by decide +kernel
theorem dX6_behind_30 : decode cX6_behind 30 = .ok (.iload 5, 2) := by decide +kernel
theorem dX6_behind_32 : decode cX6_behind 32 = .ok (.invokevirtual 99, 3) := by decide +kernel
theorem dX6_behind_35 : decode cX6_behind 35 = .ok (.ifCond .eq 13, 3) := by decide +kernel
theorem dX6_behind_38 : decode cX6_behind 38 = .ok (.aload_n 0, 1) := by decide +kernel
theorem dX6_behind_39 : decode cX6_behind 39 = .ok (.getfield 28, 3) := by decide +kernel
theorem dX6_behind_42 : decode cX6_behind 42 = .ok (.iload 5, 2) := by decide +kernel
theorem dX6_behind_44 : decode cX6_behind 44 = .ok (.laload, 1) := by decide +kernel
theorem dX6_behind_45 : decode cX6_behind 45 = .ok (.goto 4, 3) := by decide +kernel
theorem dX6_behind_48 : decode cX6_behind 48 = .ok (.lconst 1, 1) := by decide +kernel
theorem dX6_behind_49 : decode cX6_behind 49 = .ok (.lmul, 1) := by decide +kernel
theorem dX6_behind_50 : decode cX6_behind 50 = .ok (.lstore_n 3, 1) := by decide +kernel
theorem dX6_behind_51 : decode cX6_behind 51 = .ok (.iinc 5 1, 3) := by decide +kernel
theorem dX6_behind_54 : decode cX6_behind 54 = .ok (.goto (-47), 3) := by decide +kernel
theorem dX6_behind_57 : decode cX6_behind 57 = .ok (.lload_n 3, 1) := by decide +kernel
theorem dX6_behind_58 : decode cX6_behind 58 = .ok (.lreturn, 1) := by decide +kernel
set_option maxRecDepth 20000 in
theorem ggX6_find_X6_isThere : GoodIn wsX6_find wsX6_isThere := goodIn_r _ [7, 8, 2, 9, 15, 16, 17, 18, 19, 20, 21, 22, 23, 24, 25, 26, 27, 28, 29, 30, 31, 32, 33, 34, 35, 36, 37, 38, 39, 40, 41, 42, 43, 44, 45] (by decide +kernel) (by decide +kernel)
set_option maxRecDepth 20000 in
theorem gX6_find_X6_isThere : GoodIn wsX6_find (wsV RX6 99 RX6 yX6_isThere wsX6_isThere) := goodIn_app (goodIn_of _ (by decide +kernel)) ggX6_find_X6_isThere
set_option maxRecDepth 20000 in
theorem ggX6_find_X6_behind : GoodIn wsX6_find wsX6_behind := goodIn_r _ [13, 1, 8, 14, 3, 4, 5, 6, 7, 2, 9, 15, 16, 17, 18, 19, 20, 21, 22, 23, 24, 25, 26, 27, 28, 29, 30, 31, 32, 33, 34, 35, 36, 37, 38, 39, 40, 41, 42, 43, 44, 45] (by decide +kernel) (by decide +kernel)
set_option maxRecDepth 20000 in
theorem gX6_find_X6_behind : GoodIn wsX6_find (wsV RX6 103 RX6 yX6_behind wsX6_behind) := goodIn_app (goodIn_of _ (by decide +kernel)) ggX6_find_X6_behind
theorem dX6_find_0 : decode cX6_find 0 = .ok (.lload_n 2, 1) := by decide +kernel
theorem dX6_find_1 : decode cX6_find 1 = .ok (.lstore 4, 2) := by decide +kernel
theorem dX6_find_3 : decode cX6_find 3 = .ok (.iconst 0, 1) := by decide +kernel
theorem dX6_find_4 : decode cX6_find 4 = .ok (.istore 6, 2) := by decide +kernel
theorem dX6_find_6 : decode cX6_find 6 = .ok (.iload 6, 2) := by decide +kernel
theorem dX6_find_8 : decode cX6_find 8 = .ok (.aload_n 0, 1) := by decide +kernel
theorem dX6_find_9 : decode cX6_find 9 = .ok (.getfield 86, 3) := by decide +kernel
theorem dX6_find_12 : decode cX6_find 12 = .ok (.if_icmp .ge 92, 3) := by decide +kernel
theorem dX6_find_15 : decode cX6_find 15 = .ok (.aload_n 0, 1) := by decide +kernel
theorem dX6_find_16 : decode cX6_find 16 = .ok (.getfield 32, 3) := by decide +kernel
theorem dX6_find_19 : decode cX6_find 19 = .ok (.iload_n 1, 1) := by decide +kernel
theorem dX6_find_20 : decode cX6_find 20 = .ok (.iload 6, 2) := by decide +kernel
theorem dX6_find_22 : decode cX6_find 22 = .ok (.iadd, 1) := by decide +kernel
theorem dX6_find_23 : decode cX6_find 23 = .ok (.bipush (-2), 2) := by decide +kernel
theorem dX6_find_25 : decode cX6_find 25 = .ok (.iastore, 1) := by decide +kernel
theorem dX6_find_26 : decode cX6_find 26 = .ok (.aload_n 0, 1) := by decide +kernel
theorem dX6_find_27 : decode cX6_find 27 = .ok (.iload_n 1, 1) := by decide +kernel
theorem dX6_find_28 : decode cX6_find 28 = .ok (.iload 6, 2) := by decide +kernel
theorem dX6_find_30 : decode cX6_find 30 = .ok (.invokevirtual 99, 3) := by decide +kernel
theorem dX6_find_33 : decode cX6_find 33 = .ok (.ifCond .ne 6, 3) := by decide +kernel
theorem dX6_find_36 : decode cX6_find 36 = .ok (.goto 62, 3) := by decide +kernel
theorem dX6_find_39 : decode cX6_find 39 = .ok (.aload_n 0, 1) := by decide +kernel
theorem dX6_find_40 : decode cX6_find 40 = .ok (.getfield 32, 3) := by decide +kernel
theorem dX6_find_43 : decode cX6_find 43 = .ok (.iload_n 1, 1) := by decide +kernel
theorem dX6_find_44 : decode cX6_find 44 = .ok (.iload 6, 2) := by decide +kernel
theorem dX6_find_46 : decode cX6_find 46 = .ok (.iadd, 1) := by decide +kernel
theorem dX6_find_47 : decode cX6_find 47 = .ok (.iconst 0, 1) := by decide +kernel
theorem dX6_find_48 : decode cX6_find 48 = .ok (.iastore, 1) := by decide +kernel
theorem dX6_find_49 : decode cX6_find 49 = .ok (.aload_n 0, 1) := by decide +kernel
theorem dX6_find_50 : decode cX6_find 50 = .ok (.iload_n 1, 1) := by decide +kernel
theorem dX6_find_51 : decode cX6_find 51 = .ok (.iload 6, 2) := by decide +kernel
theorem dX6_find_53 : decode cX6_find 53 = .ok (.invokevirtual 103, 3) := by decide +kernel
theorem dX6_find_56 : decode cX6_find 56 = .ok (.lstore 7, 2) := by decide +kernel
theorem dX6_find_58 : decode cX6_find 58 = .ok (.lload 4, 2) := by decide +kernel
theorem dX6_find_60 : decode cX6_find 60 = .ok (.lload 7, 2) := by decide +kernel
theorem dX6_find_62 : decode cX6_find 62 = .ok (.lcmp, 1) := by decide +kernel
theorem dX6_find_63 : decode cX6_find 63 = .ok (.ifCond .lt 35, 3) := by decide +kernel
theorem dX6_find_66 : decode cX6_find 66 = .ok (.lload 4, 2) := by decide +kernel
theorem dX6_find_68 : decode cX6_find 68 = .ok (.lload 7, 2) := by decide +kernel
theorem dX6_find_70 : decode cX6_find 70 = .ok (.lsub, 1) := by decide +kernel
theorem dX6_find_71 : decode cX6_find 71 = .ok (.lstore 4, 2) := by decide +kernel
theorem dX6_find_73 : decode cX6_find 73 = .ok (.aload_n 0, 1) := by decide +kernel
theorem dX6_find_74 : decode cX6_find 74 = .ok (.getfield 32, 3) := by decide +kernel
theorem dX6_find_77 : decode cX6_find 77 = .ok (.iload_n 1, 1) := by decide +kernel
theorem dX6_find_78 : decode cX6_find 78 = .ok (.iload 6, 2) := by decide +kernel
theorem dX6_find_80 : decode cX6_find 80 = .ok (.iadd, 1) := by decide +kernel
theorem dX6_find_81 : decode cX6_find 81 = .ok (.dup2, 1) := by decide +kernel
theorem dX6_find_82 : decode cX6_find 82 = .ok (.iaload, 1) := by decide +kernel
theorem dX6_find_83 : decode cX6_find 83 = .ok (.iconst 1, 1) := by decide +kernel
theorem dX6_find_84 : decode cX6_find 84 = .ok (.iadd, 1) := by decide +kernel
theorem dX6_find_85 : decode cX6_find 85 = .ok (.iastore, 1) := by decide +kernel
theorem dX6_find_86 : decode cX6_find 86 = .ok (.aload_n 0, 1) := by decide +kernel
theorem dX6_find_87 : decode cX6_find 87 = .ok (.iload_n 1, 1) := by decide +kernel
theorem dX6_find_88 : decode cX6_find 88 = .ok (.iload 6, 2) := by decide +kernel
theorem dX6_find_90 : decode cX6_find 90 = .ok (.invokevirtual 103, 3) := by decide +kernel
theorem dX6_find_93 : decode cX6_find 93 = .ok (.lstore 7, 2) := by decide +kernel
theorem dX6_find_95 : decode cX6_find 95 = .ok (.goto (-37), 3) := by decide +kernel
theorem dX6_find_98 : decode cX6_find 98 = .ok (.iinc 6 1, 3) := by decide +kernel
theorem dX6_find_101 : decode cX6_find 101 = .ok (.goto (-95), 3) := by decide +kernel
theorem dX6_find_104 : decode cX6_find 104 = .ok (.return_, 1) := by decide +kernel
set_option maxRecDepth 20000 in
theorem ggX6_noPoint_X6_points : GoodIn wsX6_noPoint wsX6_points := goodIn_r _ [5, 6, 7, 8, 12, 13, 14, 15, 16, 17, 18, 19, 20, 21, 22, 23, 24, 25, 26, 27, 28, 29, 30, 31, 32, 33, 34, 35, 36, 37, 38, 39, 40, 41, 42] (by decide +kernel) (by decide +kernel)
set_option maxRecDepth 20000 in
theorem gX6_noPoint_X6_points : GoodIn wsX6_noPoint (wsV RX6 106 RX6 yX6_points wsX6_points) := goodIn_app (goodIn_of _ (by decide +kernel)) ggX6_noPoint_X6_points
set_option maxRecDepth 20000 in
theorem ggX6_noPoint_X6_in : GoodIn wsX6_noPoint wsX6_in := goodIn_r _ [11] (by decide +kernel) (by decide +kernel)
set_option maxRecDepth 20000 in
theorem gX6_noPoint_X6_in : GoodIn wsX6_noPoint (va_wsS RX6 80 yX6_in wsX6_in) := goodIn_app (goodIn_of _ (by decide +kernel)) ggX6_noPoint_X6_in
theorem dX6_noPoint_0 : decode cX6_noPoint 0 = .ok (.lload_n 1, 1) := by decide +kernel
theorem dX6_noPoint_1 : decode cX6_noPoint 1 = .ok (.lconst 0, 1) := by decide +kernel
theorem dX6_noPoint_2 : decode cX6_noPoint 2 = .ok (.aload_n 0, 1) := by decide +kernel
theorem dX6_noPoint_3 : decode cX6_noPoint 3 = .ok (.invokevirtual 106, 3) := by decide +kernel
theorem dX6_noPoint_6 : decode cX6_noPoint 6 = .ok (.lconst 1, 1) := by decide +kernel
theorem dX6_noPoint_7 : decode cX6_noPoint 7 = .ok (.lsub, 1) := by decide +kernel
theorem dX6_noPoint_8 : decode cX6_noPoint 8 = .ok (.invokestatic 80, 3) := by decide +kernel
theorem dX6_noPoint_11 : decode cX6_noPoint 11 = .ok (.ifCond .ne 7, 3) := by decide +kernel
theorem dX6_noPoint_14 : decode cX6_noPoint 14 = .ok (.iconst 1, 1) := by decide +kernel
theorem dX6_noPoint_15 : decode cX6_noPoint 15 = .ok (.goto 4, 3) := by decide +kernel
theorem dX6_noPoint_18 : decode cX6_noPoint 18 = .ok (.iconst 0, 1) := by decide +kernel
theorem dX6_noPoint_19 : decode cX6_noPoint 19 = .ok (.ireturn, 1) := by decide +kernel
set_option maxRecDepth 20000 in
theorem ggX6_value_X6_noPoint : GoodIn wsX6_value wsX6_noPoint := goodIn_r _ [7, 8, 9, 10, 6, 11, 1, 12, 13, 14, 15, 16, 30, 31, 32, 33, 34, 35, 36, 37, 38, 39, 40, 41, 42, 43, 44, 45, 46, 47, 48, 49, 50, 51, 52, 53, 54, 55, 56, 57, 58, 59, 60] (by decide +kernel) (by decide +kernel)
set_option maxRecDepth 20000 in
theorem gX6_value_X6_noPoint : GoodIn wsX6_value (wsV RX6 110 RX6 yX6_noPoint wsX6_noPoint) := goodIn_app (goodIn_of _ (by decide +kernel)) ggX6_value_X6_noPoint
set_option maxRecDepth 20000 in
theorem ggX6_value_X6_in : GoodIn wsX6_value wsX6_in := goodIn_r _ [16] (by decide +kernel) (by decide +kernel)
set_option maxRecDepth 20000 in
theorem gX6_value_X6_in : GoodIn wsX6_value (va_wsS RX6 80 yX6_in wsX6_in) := goodIn_app (goodIn_of _ (by decide +kernel)) ggX6_value_X6_in
set_option maxRecDepth 20000 in
theorem ggX6_value_X6_find : GoodIn wsX6_value wsX6_find := goodIn_r _ [20, 1, 2, 21, 22, 23, 6, 24, 12, 25, 26, 27, 28, 29, 13, 30, 31, 32, 33, 34, 35, 36, 37, 38, 39, 40, 41, 42, 43, 44, 45, 46, 47, 48, 49, 50, 51, 52, 53, 54, 55, 56, 57, 58, 59, 60] (by decide +kernel) (by decide +kernel)
set_option maxRecDepth 20000 in
theorem gX6_value_X6_find : GoodIn wsX6_value (wsV RX6 114 RX6 yX6_find wsX6_find) := goodIn_app (goodIn_of _ (by decide +kernel)) ggX6_value_X6_find
theorem dX6_value_0 : decode cX6_value 0 = .ok (.aload_n 0, 1) := by decide +kernel
theorem dX6_value_1 : decode cX6_value 1 = .ok (.lload_n 1, 1) := by decide +kernel
theorem dX6_value_2 : decode cX6_value 2 = .ok (.invokevirtual 110, 3) := by decide +kernel
theorem dX6_value_5 : decode cX6_value 5 = .ok (.ifCond .ne 19, 3) := by decide +kernel
theorem dX6_value_8 : decode cX6_value 8 = .ok (.iload_n 3, 1) := by decide +kernel
theorem dX6_value_9 : decode cX6_value 9 = .ok (.i2l, 1) := by decide +kernel
theorem dX6_value_10 : decode cX6_value 10 = .ok (.lconst 0, 1) := by decide +kernel
theorem dX6_value_11 : decode cX6_value 11 = .ok (.aload_n 0, 1) := by decide +kernel
theorem dX6_value_12 : decode cX6_value 12 = .ok (.getfield 86, 3) := by decide +kernel
theorem dX6_value_15 : decode cX6_value 15 = .ok (.iconst 1, 1) := by decide +kernel
theorem dX6_value_16 : decode cX6_value 16 = .ok (.isub, 1) := by decide +kernel
theorem dX6_value_17 : decode cX6_value 17 = .ok (.i2l, 1) := by decide +kernel
theorem dX6_value_18 : decode cX6_value 18 = .ok (.invokestatic 80, 3) := by decide +kernel
theorem dX6_value_21 : decode cX6_value 21 = .ok (.ifCond .ne 5, 3) := by decide +kernel
theorem dX6_value_24 : decode cX6_value 24 = .ok (.iconst (-1), 1) := by decide +kernel
theorem dX6_value_25 : decode cX6_value 25 = .ok (.ireturn, 1) := by decide +kernel
theorem dX6_value_26 : decode cX6_value 26 = .ok (.aload_n 0, 1) := by decide +kernel
theorem dX6_value_27 : decode cX6_value 27 = .ok (.iconst 0, 1) := by decide +kernel
theorem dX6_value_28 : decode cX6_value 28 = .ok (.lload_n 1, 1) := by decide +kernel
theorem dX6_value_29 : decode cX6_value 29 = .ok (.invokevirtual 114, 3) := by decide +kernel
theorem dX6_value_32 : decode cX6_value 32 = .ok (.aload_n 0, 1) := by decide +kernel
theorem dX6_value_33 : decode cX6_value 33 = .ok (.getfield 32, 3) := by decide +kernel
theorem dX6_value_36 : decode cX6_value 36 = .ok (.iload_n 3, 1) := by decide +kernel
theorem dX6_value_37 : decode cX6_value 37 = .ok (.iaload, 1) := by decide +kernel
theorem dX6_value_38 : decode cX6_value 38 = .ok (.ireturn, 1) := by decide +kernel
set_option maxRecDepth 20000 in
theorem ggX6_numberOf_X6_behind : GoodIn wsX6_numberOf wsX6_behind := goodIn_r _ [7, 1, 8, 9, 10, 11, 12, 6, 13, 2, 14, 15, 16, 17, 18, 19, 20, 21, 22, 23, 24, 25, 26, 27, 28, 29, 30, 31, 32, 33, 34, 35, 36, 37, 38, 39, 40, 41, 42, 43, 44, 45] (by decide +kernel) (by decide +kernel)
set_option maxRecDepth 20000 in
theorem gX6_numberOf_X6_behind : GoodIn wsX6_numberOf (wsV RX6 103 RX6 yX6_behind wsX6_behind) := goodIn_app (goodIn_of _ (by decide +kernel)) ggX6_numberOf_X6_behind
theorem dX6_numberOf_0 : decode cX6_numberOf 0 = .ok (.lconst 0, 1) := by decide +kernel
theorem dX6_numberOf_1 : decode cX6_numberOf 1 = .ok (.lstore_n 1, 1) := by decide +kernel
theorem dX6_numberOf_2 : decode cX6_numberOf 2 = .ok (.iconst 0, 1) := by decide +kernel
theorem dX6_numberOf_3 : decode cX6_numberOf 3 = .ok (.istore_n 3, 1) := by decide +kernel
theorem dX6_numberOf_4 : decode cX6_numberOf 4 = .ok (.iload_n 3, 1) := by decide +kernel
theorem dX6_numberOf_5 : decode cX6_numberOf 5 = .ok (.aload_n 0, 1) := by decide +kernel
theorem dX6_numberOf_6 : decode cX6_numberOf 6 = .ok (.getfield 86, 3) := by decide +kernel
theorem dX6_numberOf_9 : decode cX6_numberOf 9 = .ok (.if_icmp .ge 58, 3) := by decide +kernel
theorem dX6_numberOf_12 : decode cX6_numberOf 12 = .ok (.aload_n 0, 1) := by decide +kernel
theorem dX6_numberOf_13 : decode cX6_numberOf 13 = .ok (.getfield 32, 3) := by decide +kernel
theorem dX6_numberOf_16 : decode cX6_numberOf 16 = .ok (.iload_n 3, 1) := by decide +kernel
theorem dX6_numberOf_17 : decode cX6_numberOf 17 = .ok (.iaload, 1) := by decide +kernel
theorem dX6_numberOf_18 : decode cX6_numberOf 18 = .ok (.istore 4, 2) := by decide +kernel
theorem dX6_numberOf_20 : decode cX6_numberOf 20 = .ok (.iconst 0, 1) := by decide +kernel
theorem dX6_numberOf_21 : decode cX6_numberOf 21 = .ok (.istore 5, 2) := by decide +kernel
theorem dX6_numberOf_23 : decode cX6_numberOf 23 = .ok (.iload 5, 2) := by decide +kernel
theorem dX6_numberOf_25 : decode cX6_numberOf 25 = .ok (.iload 4, 2) := by decide +kernel
theorem dX6_numberOf_27 : decode cX6_numberOf 27 = .ok (.if_icmp .ge 26, 3) := by decide +kernel
theorem dX6_numberOf_30 : decode cX6_numberOf 30 = .ok (.aload_n 0, 1) := by decide +kernel
theorem dX6_numberOf_31 : decode cX6_numberOf 31 = .ok (.getfield 32, 3) := by decide +kernel
theorem dX6_numberOf_34 : decode cX6_numberOf 34 = .ok (.iload_n 3, 1) := by decide +kernel
theorem dX6_numberOf_35 : decode cX6_numberOf 35 = .ok (.iload 5, 2) := by decide +kernel
theorem dX6_numberOf_37 : decode cX6_numberOf 37 = .ok (.iastore, 1) := by decide +kernel
theorem dX6_numberOf_38 : decode cX6_numberOf 38 = .ok (.lload_n 1, 1) := by decide +kernel
theorem dX6_numberOf_39 : decode cX6_numberOf 39 = .ok (.aload_n 0, 1) := by decide +kernel
theorem dX6_numberOf_40 : decode cX6_numberOf 40 = .ok (.iconst 0, 1) := by decide +kernel
theorem dX6_numberOf_41 : decode cX6_numberOf 41 = .ok (.iload_n 3, 1) := by decide +kernel
theorem dX6_numberOf_42 : decode cX6_numberOf 42 = .ok (.invokevirtual 103, 3) := by decide +kernel
theorem dX6_numberOf_45 : decode cX6_numberOf 45 = .ok (.ladd, 1) := by decide +kernel
theorem dX6_numberOf_46 : decode cX6_numberOf 46 = .ok (.lstore_n 1, 1) := by decide +kernel
theorem dX6_numberOf_47 : decode cX6_numberOf 47 = .ok (.iinc 5 1, 3) := by decide +kernel
theorem dX6_numberOf_50 : decode cX6_numberOf 50 = .ok (.goto (-27), 3) := by decide +kernel
theorem dX6_numberOf_53 : decode cX6_numberOf 53 = .ok (.aload_n 0, 1) := by decide +kernel
theorem dX6_numberOf_54 : decode cX6_numberOf 54 = .ok (.getfield 32, 3) := by decide +kernel
theorem dX6_numberOf_57 : decode cX6_numberOf 57 = .ok (.iload_n 3, 1) := by decide +kernel
theorem dX6_numberOf_58 : decode cX6_numberOf 58 = .ok (.iload 4, 2) := by decide +kernel
theorem dX6_numberOf_60 : decode cX6_numberOf 60 = .ok (.iastore, 1) := by decide +kernel
theorem dX6_numberOf_61 : decode cX6_numberOf 61 = .ok (.iinc 3 1, 3) := by decide +kernel
theorem dX6_numberOf_64 : decode cX6_numberOf 64 = .ok (.goto (-60), 3) := by decide +kernel
theorem dX6_numberOf_67 : decode cX6_numberOf 67 = .ok (.lload_n 1, 1) := by decide +kernel
theorem dX6_numberOf_68 : decode cX6_numberOf 68 = .ok (.lreturn, 1) := by decide +kernel
set_option maxRecDepth 20000 in
theorem ggX6_number_X6_isThere : GoodIn wsX6_number wsX6_isThere := goodIn_r _ [10, 11, 2, 12, 22, 23, 24, 25, 26, 27, 28, 29, 30, 31, 32, 33, 34, 35, 36, 37, 38, 39, 40, 41, 42, 43, 44, 45, 46, 47, 48, 49, 50, 51, 52] (by decide +kernel) (by decide +kernel)
set_option maxRecDepth 20000 in
theorem gX6_number_X6_isThere : GoodIn wsX6_number (wsV RX6 99 RX6 yX6_isThere wsX6_isThere) := goodIn_app (goodIn_of _ (by decide +kernel)) ggX6_number_X6_isThere
set_option maxRecDepth 20000 in
theorem ggX6_number_X6_numberOf : GoodIn wsX6_number wsX6_numberOf := goodIn_r _ [16, 1, 2, 17, 18, 19, 9, 20, 11, 21, 6, 7, 8, 10, 12, 22, 23, 24, 25, 26, 27, 28, 29, 30, 31, 32, 33, 34, 35, 36, 37, 38, 39, 40, 41, 42, 43, 44, 45, 46, 47, 48, 49, 50, 51, 52] (by decide +kernel) (by decide +kernel)
set_option maxRecDepth 20000 in
theorem gX6_number_X6_numberOf : GoodIn wsX6_number (wsV RX6 122 RX6 yX6_numberOf wsX6_numberOf) := goodIn_app (goodIn_of _ (by decide +kernel)) ggX6_number_X6_numberOf
theorem dX6_number_0 : decode cX6_number 0 = .ok (.iconst 0, 1) := by decide +kernel
theorem dX6_number_1 : decode cX6_number 1 = .ok (.istore_n 3, 1) := by decide +kernel
theorem dX6_number_2 : decode cX6_number 2 = .ok (.iload_n 3, 1) := by decide +kernel
theorem dX6_number_3 : decode cX6_number 3 = .ok (.aload_n 0, 1) := by decide +kernel
theorem dX6_number_4 : decode cX6_number 4 = .ok (.getfield 86, 3) := by decide +kernel
theorem dX6_number_7 : decode cX6_number 7 = .ok (.if_icmp .ge 61, 3) := by decide +kernel
theorem dX6_number_10 : decode cX6_number 10 = .ok (.aload_n 0, 1) := by decide +kernel
theorem dX6_number_11 : decode cX6_number 11 = .ok (.getfield 32, 3) := by decide +kernel
theorem dX6_number_14 : decode cX6_number 14 = .ok (.iload_n 3, 1) := by decide +kernel
theorem dX6_number_15 : decode cX6_number 15 = .ok (.bipush (-2), 2) := by decide +kernel
theorem dX6_number_17 : decode cX6_number 17 = .ok (.iastore, 1) := by decide +kernel
theorem dX6_number_18 : decode cX6_number 18 = .ok (.aload_n 0, 1) := by decide +kernel
theorem dX6_number_19 : decode cX6_number 19 = .ok (.iconst 0, 1) := by decide +kernel
theorem dX6_number_20 : decode cX6_number 20 = .ok (.iload_n 3, 1) := by decide +kernel
theorem dX6_number_21 : decode cX6_number 21 = .ok (.invokevirtual 99, 3) := by decide +kernel
theorem dX6_number_24 : decode cX6_number 24 = .ok (.ifCond .eq 38, 3) := by decide +kernel
theorem dX6_number_27 : decode cX6_number 27 = .ok (.aload_n 0, 1) := by decide +kernel
theorem dX6_number_28 : decode cX6_number 28 = .ok (.getfield 32, 3) := by decide +kernel
theorem dX6_number_31 : decode cX6_number 31 = .ok (.iload_n 3, 1) := by decide +kernel
theorem dX6_number_32 : decode cX6_number 32 = .ok (.lload_n 1, 1) := by decide +kernel
theorem dX6_number_33 : decode cX6_number 33 = .ok (.iconst 5, 1) := by decide +kernel
theorem dX6_number_34 : decode cX6_number 34 = .ok (.iload_n 3, 1) := by decide +kernel
theorem dX6_number_35 : decode cX6_number 35 = .ok (.imul, 1) := by decide +kernel
theorem dX6_number_36 : decode cX6_number 36 = .ok (.lshr, 1) := by decide +kernel
theorem dX6_number_37 : decode cX6_number 37 = .ok (.ldc2_w 118, 3) := by decide +kernel
theorem dX6_number_40 : decode cX6_number 40 = .ok (.land, 1) := by decide +kernel
theorem dX6_number_41 : decode cX6_number 41 = .ok (.l2i, 1) := by decide +kernel
theorem dX6_number_42 : decode cX6_number 42 = .ok (.iastore, 1) := by decide +kernel
theorem dX6_number_43 : decode cX6_number 43 = .ok (.aload_n 0, 1) := by decide +kernel
theorem dX6_number_44 : decode cX6_number 44 = .ok (.getfield 32, 3) := by decide +kernel
theorem dX6_number_47 : decode cX6_number 47 = .ok (.iload_n 3, 1) := by decide +kernel
theorem dX6_number_48 : decode cX6_number 48 = .ok (.iaload, 1) := by decide +kernel
theorem dX6_number_49 : decode cX6_number 49 = .ok (.aload_n 0, 1) := by decide +kernel
theorem dX6_number_50 : decode cX6_number 50 = .ok (.getfield 18, 3) := by decide +kernel
theorem dX6_number_53 : decode cX6_number 53 = .ok (.iload_n 3, 1) := by decide +kernel
theorem dX6_number_54 : decode cX6_number 54 = .ok (.iaload, 1) := by decide +kernel
theorem dX6_number_55 : decode cX6_number 55 = .ok (.if_icmp .lt 7, 3) := by decide +kernel
theorem dX6_number_58 : decode cX6_number 58 = .ok (.ldc2_w 120, 3) := by decide +kernel
theorem dX6_number_61 : decode cX6_number 61 = .ok (.lreturn, 1) := by decide +kernel
theorem dX6_number_62 : decode cX6_number 62 = .ok (.iinc 3 1, 3) := by decide +kernel
theorem dX6_number_65 : decode cX6_number 65 = .ok (.goto (-63), 3) := by decide +kernel
theorem dX6_number_68 : decode cX6_number 68 = .ok (.aload_n 0, 1) := by decide +kernel
theorem dX6_number_69 : decode cX6_number 69 = .ok (.invokevirtual 122, 3) := by decide +kernel
theorem dX6_number_72 : decode cX6_number 72 = .ok (.lreturn, 1) := by decide +kernel
set_option maxRecDepth 20000 in
theorem ggX6_distanceOf_X6_find : GoodIn wsX6_distanceOf wsX6_find := goodIn_r _ [8, 1, 2, 9, 10, 11, 7, 12, 13, 14, 15, 16, 17, 18, 19, 20, 21, 22, 23, 24, 25, 26, 27, 28, 29, 30, 31, 32, 33, 34, 35, 36, 37, 38, 39, 40, 41, 42, 43, 44, 45, 46, 47, 48, 49, 50] (by decide +kernel) (by decide +kernel)
set_option maxRecDepth 20000 in
theorem gX6_distanceOf_X6_find : GoodIn wsX6_distanceOf (wsV RX6 114 RX6 yX6_find wsX6_find) := goodIn_app (goodIn_of _ (by decide +kernel)) ggX6_distanceOf_X6_find
theorem dX6_distanceOf_0 : decode cX6_distanceOf 0 = .ok (.aload_n 0, 1) := by decide +kernel
theorem dX6_distanceOf_1 : decode cX6_distanceOf 1 = .ok (.iconst 0, 1) := by decide +kernel
theorem dX6_distanceOf_2 : decode cX6_distanceOf 2 = .ok (.lload_n 1, 1) := by decide +kernel
theorem dX6_distanceOf_3 : decode cX6_distanceOf 3 = .ok (.invokevirtual 114, 3) := by decide +kernel
theorem dX6_distanceOf_6 : decode cX6_distanceOf 6 = .ok (.aload_n 0, 1) := by decide +kernel
theorem dX6_distanceOf_7 : decode cX6_distanceOf 7 = .ok (.bipush 8, 2) := by decide +kernel
theorem dX6_distanceOf_9 : decode cX6_distanceOf 9 = .ok (.lload_n 3, 1) := by decide +kernel
theorem dX6_distanceOf_10 : decode cX6_distanceOf 10 = .ok (.invokevirtual 114, 3) := by decide +kernel
theorem dX6_distanceOf_13 : decode cX6_distanceOf 13 = .ok (.iconst 0, 1) := by decide +kernel
theorem dX6_distanceOf_14 : decode cX6_distanceOf 14 = .ok (.istore 5, 2) := by decide +kernel
theorem dX6_distanceOf_16 : decode cX6_distanceOf 16 = .ok (.iconst 0, 1) := by decide +kernel
theorem dX6_distanceOf_17 : decode cX6_distanceOf 17 = .ok (.istore 6, 2) := by decide +kernel
theorem dX6_distanceOf_19 : decode cX6_distanceOf 19 = .ok (.iload 6, 2) := by decide +kernel
theorem dX6_distanceOf_21 : decode cX6_distanceOf 21 = .ok (.aload_n 0, 1) := by decide +kernel
theorem dX6_distanceOf_22 : decode cX6_distanceOf 22 = .ok (.getfield 86, 3) := by decide +kernel
theorem dX6_distanceOf_25 : decode cX6_distanceOf 25 = .ok (.if_icmp .ge 99, 3) := by decide +kernel
theorem dX6_distanceOf_28 : decode cX6_distanceOf 28 = .ok (.aload_n 0, 1) := by decide +kernel
theorem dX6_distanceOf_29 : decode cX6_distanceOf 29 = .ok (.getfield 32, 3) := by decide +kernel
theorem dX6_distanceOf_32 : decode cX6_distanceOf 32 = .ok (.iload 6, 2) := by decide +kernel
theorem dX6_distanceOf_34 : decode cX6_distanceOf 34 = .ok (.iaload, 1) := by decide +kernel
theorem dX6_distanceOf_35 : decode cX6_distanceOf 35 = .ok (.istore 7, 2) := by decide +kernel
theorem dX6_distanceOf_37 : decode cX6_distanceOf 37 = .ok (.aload_n 0, 1) := by decide +kernel
theorem dX6_distanceOf_38 : decode cX6_distanceOf 38 = .ok (.getfield 32, 3) := by decide +kernel
theorem dX6_distanceOf_41 : decode cX6_distanceOf 41 = .ok (.bipush 8, 2) := by decide +kernel
theorem dX6_distanceOf_43 : decode cX6_distanceOf 43 = .ok (.iload 6, 2) := by decide +kernel
theorem dX6_distanceOf_45 : decode cX6_distanceOf 45 = .ok (.iadd, 1) := by decide +kernel
theorem dX6_distanceOf_46 : decode cX6_distanceOf 46 = .ok (.iaload, 1) := by decide +kernel
theorem dX6_distanceOf_47 : decode cX6_distanceOf 47 = .ok (.istore 8, 2) := by decide +kernel
theorem dX6_distanceOf_49 : decode cX6_distanceOf 49 = .ok (.iload 7, 2) := by decide +kernel
theorem dX6_distanceOf_51 : decode cX6_distanceOf 51 = .ok (.iload 8, 2) := by decide +kernel
theorem dX6_distanceOf_53 : decode cX6_distanceOf 53 = .ok (.if_icmp .le 11, 3) := by decide +kernel
theorem dX6_distanceOf_56 : decode cX6_distanceOf 56 = .ok (.iload 7, 2) := by decide +kernel
theorem dX6_distanceOf_58 : decode cX6_distanceOf 58 = .ok (.iload 8, 2) := by decide +kernel
theorem dX6_distanceOf_60 : decode cX6_distanceOf 60 = .ok (.isub, 1) := by decide +kernel
theorem dX6_distanceOf_61 : decode cX6_distanceOf 61 = .ok (.goto 8, 3) := by decide +kernel
theorem dX6_distanceOf_64 : decode cX6_distanceOf 64 = .ok (.iload 8, 2) := by decide +kernel
theorem dX6_distanceOf_66 : decode cX6_distanceOf 66 = .ok (.iload 7, 2) := by decide +kernel
theorem dX6_distanceOf_68 : decode cX6_distanceOf 68 = .ok (.isub, 1) := by decide +kernel
theorem dX6_distanceOf_69 : decode cX6_distanceOf 69 = .ok (.istore 9, 2) := by decide +kernel
theorem dX6_distanceOf_71 : decode cX6_distanceOf 71 = .ok (.iload 5, 2) := by decide +kernel
theorem dX6_distanceOf_73 : decode cX6_distanceOf 73 = .ok (.iload 7, 2) := by decide +kernel
theorem dX6_distanceOf_75 : decode cX6_distanceOf 75 = .ok (.ifCond .ge 12, 3) := by decide +kernel
theorem dX6_distanceOf_78 : decode cX6_distanceOf 78 = .ok (.iload 8, 2) := by decide +kernel
theorem dX6_distanceOf_80 : decode cX6_distanceOf 80 = .ok (.ifCond .ge 7, 3) := by decide +kernel
theorem dX6_distanceOf_83 : decode cX6_distanceOf 83 = .ok (.iconst 0, 1) := by decide +kernel
theorem dX6_distanceOf_84 : decode cX6_distanceOf 84 = .ok (.goto 31, 3) := by decide +kernel
theorem dX6_distanceOf_87 : decode cX6_distanceOf 87 = .ok (.iload 7, 2) := by decide +kernel
theorem dX6_distanceOf_89 : decode cX6_distanceOf 89 = .ok (.ifCond .lt 8, 3) := by decide +kernel
theorem dX6_distanceOf_92 : decode cX6_distanceOf 92 = .ok (.iload 8, 2) := by decide +kernel
theorem dX6_distanceOf_94 : decode cX6_distanceOf 94 = .ok (.ifCond .ge 8, 3) := by decide +kernel
theorem dX6_distanceOf_97 : decode cX6_distanceOf 97 = .ok (.bipush 30, 2) := by decide +kernel
theorem dX6_distanceOf_99 : decode cX6_distanceOf 99 = .ok (.goto 16, 3) := by decide +kernel
theorem dX6_distanceOf_102 : decode cX6_distanceOf 102 = .ok (.iload 9, 2) := by decide +kernel
theorem dX6_distanceOf_104 : decode cX6_distanceOf 104 = .ok (.bipush 30, 2) := by decide +kernel
theorem dX6_distanceOf_106 : decode cX6_distanceOf 106 = .ok (.imul, 1) := by decide +kernel
theorem dX6_distanceOf_107 : decode cX6_distanceOf 107 = .ok (.aload_n 0, 1) := by decide +kernel
theorem dX6_distanceOf_108 : decode cX6_distanceOf 108 = .ok (.getfield 18, 3) := by decide +kernel
theorem dX6_distanceOf_111 : decode cX6_distanceOf 111 = .ok (.iload 6, 2) := by decide +kernel
theorem dX6_distanceOf_113 : decode cX6_distanceOf 113 = .ok (.iaload, 1) := by decide +kernel
theorem dX6_distanceOf_114 : decode cX6_distanceOf 114 = .ok (.idiv, 1) := by decide +kernel
theorem dX6_distanceOf_115 : decode cX6_distanceOf 115 = .ok (.iadd, 1) := by decide +kernel
theorem dX6_distanceOf_116 : decode cX6_distanceOf 116 = .ok (.istore 5, 2) := by decide +kernel
theorem dX6_distanceOf_118 : decode cX6_distanceOf 118 = .ok (.iinc 6 1, 3) := by decide +kernel
theorem dX6_distanceOf_121 : decode cX6_distanceOf 121 = .ok (.goto (-102), 3) := by decide +kernel
theorem dX6_distanceOf_124 : decode cX6_distanceOf 124 = .ok (.iload 5, 2) := by decide +kernel
theorem dX6_distanceOf_126 : decode cX6_distanceOf 126 = .ok (.ireturn, 1) := by decide +kernel
set_option maxRecDepth 20000 in
theorem ggX6_distance_X6_noPoint : GoodIn wsX6_distance wsX6_noPoint := goodIn_r _ [5, 6, 7, 8, 4, 9, 10, 11, 12, 13, 14, 15, 35, 36, 37, 38, 39, 40, 41, 42, 43, 44, 45, 46, 47, 48, 49, 50, 51, 52, 53, 54, 55, 56, 57, 58, 59, 60, 61, 62, 63, 64, 65] (by decide +kernel) (by decide +kernel)
set_option maxRecDepth 20000 in
theorem gX6_distance_X6_noPoint : GoodIn wsX6_distance (wsV RX6 110 RX6 yX6_noPoint wsX6_noPoint) := goodIn_app (goodIn_of _ (by decide +kernel)) ggX6_distance_X6_noPoint
set_option maxRecDepth 20000 in
theorem ggX6_distance_X6_distanceOf : GoodIn wsX6_distance wsX6_distanceOf := goodIn_r _ [19, 10, 20, 21, 22, 23, 24, 4, 25, 26, 27, 28, 29, 11, 30, 31, 32, 33, 34, 12, 35, 36, 37, 38, 39, 40, 41, 42, 43, 44, 45, 46, 47, 48, 49, 50, 51, 52, 53, 54, 55, 56, 57, 58, 59, 60, 61, 62, 63, 64, 65] (by decide +kernel) (by decide +kernel)
set_option maxRecDepth 20000 in
theorem gX6_distance_X6_distanceOf : GoodIn wsX6_distance (wsV RX6 125 RX6 yX6_distanceOf wsX6_distanceOf) := goodIn_app (goodIn_of _ (by decide +kernel)) ggX6_distance_X6_distanceOf
theorem dX6_distance_0 : decode cX6_distance 0 = .ok (.aload_n 0, 1) := by decide +kernel
theorem dX6_distance_1 : decode cX6_distance 1 = .ok (.lload_n 1, 1) := by decide +kernel
theorem dX6_distance_2 : decode cX6_distance 2 = .ok (.invokevirtual 110, 3) := by decide +kernel
theorem dX6_distance_5 : decode cX6_distance 5 = .ok (.ifCond .ne 11, 3) := by decide +kernel
theorem dX6_distance_8 : decode cX6_distance 8 = .ok (.aload_n 0, 1) := by decide +kernel
theorem dX6_distance_9 : decode cX6_distance 9 = .ok (.lload_n 3, 1) := by decide +kernel
theorem dX6_distance_10 : decode cX6_distance 10 = .ok (.invokevirtual 110, 3) := by decide +kernel
theorem dX6_distance_13 : decode cX6_distance 13 = .ok (.ifCond .eq 7, 3) := by decide +kernel
theorem dX6_distance_16 : decode cX6_distance 16 = .ok (.iconst (-1), 1) := by decide +kernel
theorem dX6_distance_17 : decode cX6_distance 17 = .ok (.goto 9, 3) := by decide +kernel
theorem dX6_distance_20 : decode cX6_distance 20 = .ok (.aload_n 0, 1) := by decide +kernel
theorem dX6_distance_21 : decode cX6_distance 21 = .ok (.lload_n 1, 1) := by decide +kernel
theorem dX6_distance_22 : decode cX6_distance 22 = .ok (.lload_n 3, 1) := by decide +kernel
theorem dX6_distance_23 : decode cX6_distance 23 = .ok (.invokevirtual 125, 3) := by decide +kernel
theorem dX6_distance_26 : decode cX6_distance 26 = .ok (.ireturn, 1) := by decide +kernel
theorem dX6_add_0 : decode cX6_add 0 = .ok (.aload_n 0, 1) := by decide +kernel
theorem dX6_add_1 : decode cX6_add 1 = .ok (.getfield 35, 3) := by decide +kernel
theorem dX6_add_4 : decode cX6_add 4 = .ok (.aload_n 0, 1) := by decide +kernel
theorem dX6_add_5 : decode cX6_add 5 = .ok (.getfield 92, 3) := by decide +kernel
theorem dX6_add_8 : decode cX6_add 8 = .ok (.lload_n 1, 1) := by decide +kernel
theorem dX6_add_9 : decode cX6_add 9 = .ok (.lastore, 1) := by decide +kernel
theorem dX6_add_10 : decode cX6_add 10 = .ok (.aload_n 0, 1) := by decide +kernel
theorem dX6_add_11 : decode cX6_add 11 = .ok (.getfield 38, 3) := by decide +kernel
theorem dX6_add_14 : decode cX6_add 14 = .ok (.aload_n 0, 1) := by decide +kernel
theorem dX6_add_15 : decode cX6_add 15 = .ok (.getfield 92, 3) := by decide +kernel
theorem dX6_add_18 : decode cX6_add 18 = .ok (.iconst 0, 1) := by decide +kernel
theorem dX6_add_19 : decode cX6_add 19 = .ok (.iastore, 1) := by decide +kernel
theorem dX6_add_20 : decode cX6_add 20 = .ok (.aload_n 0, 1) := by decide +kernel
theorem dX6_add_21 : decode cX6_add 21 = .ok (.getfield 41, 3) := by decide +kernel
theorem dX6_add_24 : decode cX6_add 24 = .ok (.aload_n 0, 1) := by decide +kernel
theorem dX6_add_25 : decode cX6_add 25 = .ok (.getfield 92, 3) := by decide +kernel
theorem dX6_add_28 : decode cX6_add 28 = .ok (.iconst 0, 1) := by decide +kernel
theorem dX6_add_29 : decode cX6_add 29 = .ok (.iastore, 1) := by decide +kernel
theorem dX6_add_30 : decode cX6_add 30 = .ok (.aload_n 0, 1) := by decide +kernel
theorem dX6_add_31 : decode cX6_add 31 = .ok (.getfield 44, 3) := by decide +kernel
theorem dX6_add_34 : decode cX6_add 34 = .ok (.aload_n 0, 1) := by decide +kernel
theorem dX6_add_35 : decode cX6_add 35 = .ok (.getfield 92, 3) := by decide +kernel
theorem dX6_add_38 : decode cX6_add 38 = .ok (.iconst 0, 1) := by decide +kernel
theorem dX6_add_39 : decode cX6_add 39 = .ok (.iastore, 1) := by decide +kernel
theorem dX6_add_40 : decode cX6_add 40 = .ok (.aload_n 0, 1) := by decide +kernel
theorem dX6_add_41 : decode cX6_add 41 = .ok (.dup, 1) := by decide +kernel
theorem dX6_add_42 : decode cX6_add 42 = .ok (.getfield 92, 3) := by decide +kernel
theorem dX6_add_45 : decode cX6_add 45 = .ok (.dup_x1, 1) := by decide +kernel
theorem dX6_add_46 : decode cX6_add 46 = .ok (.iconst 1, 1) := by decide +kernel
theorem dX6_add_47 : decode cX6_add 47 = .ok (.iadd, 1) := by decide +kernel
theorem dX6_add_48 : decode cX6_add 48 = .ok (.putfield 92, 3) := by decide +kernel
theorem dX6_add_51 : decode cX6_add 51 = .ok (.ireturn, 1) := by decide +kernel
set_option maxRecDepth 20000 in
theorem ggX6_trial_X6_in : GoodIn wsX6_trial wsX6_in := goodIn_r _ [9] (by decide +kernel) (by decide +kernel)
set_option maxRecDepth 20000 in
theorem gX6_trial_X6_in : GoodIn wsX6_trial (va_wsS RX6 80 yX6_in wsX6_in) := goodIn_app (goodIn_of _ (by decide +kernel)) ggX6_trial_X6_in
set_option maxRecDepth 20000 in
theorem ggX6_trial_X6_points : GoodIn wsX6_trial wsX6_points := goodIn_r _ [13, 3, 14, 15, 47, 48, 49, 50, 51, 52, 53, 54, 55, 56, 57, 58, 59, 60, 61, 62, 63, 64, 65, 66, 67, 68, 69, 70, 71, 72, 73, 74, 75, 76, 77] (by decide +kernel) (by decide +kernel)
set_option maxRecDepth 20000 in
theorem gX6_trial_X6_points : GoodIn wsX6_trial (wsV RX6 106 RX6 yX6_points wsX6_points) := goodIn_app (goodIn_of _ (by decide +kernel)) ggX6_trial_X6_points
set_option maxRecDepth 20000 in
theorem ggX6_trial_X6_pick : GoodIn wsX6_trial wsX6_pick := goodIn_r _ [18, 19, 20, 21, 8, 22, 23, 24, 25] (by decide +kernel) (by decide +kernel)
set_option maxRecDepth 20000 in
theorem gX6_trial_X6_pick : GoodIn wsX6_trial (va_wsS RX6 131 yX6_pick wsX6_pick) := goodIn_app (goodIn_of _ (by decide +kernel)) ggX6_trial_X6_pick
set_option maxRecDepth 20000 in
theorem ggX6_trial_X6_add : GoodIn wsX6_trial wsX6_add := goodIn_r _ [29, 30, 2, 31, 32, 33, 47, 48, 49, 50, 51, 52, 53, 54, 55, 56, 57, 58, 59, 60, 61, 62, 63, 64, 65, 66, 67, 68, 69, 70, 71, 72, 73, 74, 75, 76, 77] (by decide +kernel) (by decide +kernel)
set_option maxRecDepth 20000 in
theorem gX6_trial_X6_add : GoodIn wsX6_trial (wsV RX6 135 RX6 yX6_add wsX6_add) := goodIn_app (goodIn_of _ (by decide +kernel)) ggX6_trial_X6_add
set_option maxRecDepth 20000 in
theorem ggX6_trial_X6_isThere : GoodIn wsX6_trial wsX6_isThere := goodIn_r _ [37, 14, 4, 38, 47, 48, 49, 50, 51, 52, 53, 54, 55, 56, 57, 58, 59, 60, 61, 62, 63, 64, 65, 66, 67, 68, 69, 70, 71, 72, 73, 74, 75, 76, 77] (by decide +kernel) (by decide +kernel)
set_option maxRecDepth 20000 in
theorem gX6_trial_X6_isThere : GoodIn wsX6_trial (wsV RX6 99 RX6 yX6_isThere wsX6_isThere) := goodIn_app (goodIn_of _ (by decide +kernel)) ggX6_trial_X6_isThere
set_option maxRecDepth 20000 in
theorem ggX6_trial_X6_hash : GoodIn wsX6_trial wsX6_hash := goodIn_r _ [22, 23, 24, 25] (by decide +kernel) (by decide +kernel)
set_option maxRecDepth 20000 in
theorem gX6_trial_X6_hash : GoodIn wsX6_trial (va_wsS RX6 4 yX6_hash wsX6_hash) := goodIn_app (goodIn_of _ (by decide +kernel)) ggX6_trial_X6_hash
set_option maxRecDepth 20000 in
theorem ggX6_trial_X6_numberOf : GoodIn wsX6_trial wsX6_numberOf := goodIn_r _ [42, 3, 4, 43, 44, 45, 8, 46, 14, 15, 34, 35, 36, 37, 38, 47, 48, 49, 50, 51, 52, 53, 54, 55, 56, 57, 58, 59, 60, 61, 62, 63, 64, 65, 66, 67, 68, 69, 70, 71, 72, 73, 74, 75, 76, 77] (by decide +kernel) (by decide +kernel)
set_option maxRecDepth 20000 in
theorem gX6_trial_X6_numberOf : GoodIn wsX6_trial (wsV RX6 122 RX6 yX6_numberOf wsX6_numberOf) := goodIn_app (goodIn_of _ (by decide +kernel)) ggX6_trial_X6_numberOf
theorem dX6_trial_0 : decode cX6_trial 0 = .ok (.iload_n 1, 1) := by decide +kernel
theorem dX6_trial_1 : decode cX6_trial 1 = .ok (.i2l, 1) := by decide +kernel
theorem dX6_trial_2 : decode cX6_trial 2 = .ok (.lconst 0, 1) := by decide +kernel
theorem dX6_trial_3 : decode cX6_trial 3 = .ok (.ldc2_w 129, 3) := by decide +kernel
theorem dX6_trial_6 : decode cX6_trial 6 = .ok (.invokestatic 80, 3) := by decide +kernel
theorem dX6_trial_9 : decode cX6_trial 9 = .ok (.ifCond .eq 11, 3) := by decide +kernel
theorem dX6_trial_12 : decode cX6_trial 12 = .ok (.iload_n 1, 1) := by decide +kernel
theorem dX6_trial_13 : decode cX6_trial 13 = .ok (.ifCond .ne 9, 3) := by decide +kernel
theorem dX6_trial_16 : decode cX6_trial 16 = .ok (.iload_n 2, 1) := by decide +kernel
theorem dX6_trial_17 : decode cX6_trial 17 = .ok (.ifCond .ge 5, 3) := by decide +kernel
theorem dX6_trial_20 : decode cX6_trial 20 = .ok (.iconst (-1), 1) := by decide +kernel
theorem dX6_trial_21 : decode cX6_trial 21 = .ok (.ireturn, 1) := by decide +kernel
theorem dX6_trial_22 : decode cX6_trial 22 = .ok (.aload_n 0, 1) := by decide +kernel
theorem dX6_trial_23 : decode cX6_trial 23 = .ok (.getfield 92, 3) := by decide +kernel
theorem dX6_trial_26 : decode cX6_trial 26 = .ok (.bipush 60, 2) := by decide +kernel
theorem dX6_trial_28 : decode cX6_trial 28 = .ok (.if_icmp .ne 6, 3) := by decide +kernel
theorem dX6_trial_31 : decode cX6_trial 31 = .ok (.bipush (-4), 2) := by decide +kernel
theorem dX6_trial_33 : decode cX6_trial 33 = .ok (.ireturn, 1) := by decide +kernel
theorem dX6_trial_34 : decode cX6_trial 34 = .ok (.iload_n 1, 1) := by decide +kernel
theorem dX6_trial_35 : decode cX6_trial 35 = .ok (.iconst 2, 1) := by decide +kernel
theorem dX6_trial_36 : decode cX6_trial 36 = .ok (.if_icmp .ge 30, 3) := by decide +kernel
theorem dX6_trial_39 : decode cX6_trial 39 = .ok (.aload_n 0, 1) := by decide +kernel
theorem dX6_trial_40 : decode cX6_trial 40 = .ok (.iload_n 1, 1) := by decide +kernel
theorem dX6_trial_41 : decode cX6_trial 41 = .ok (.ifCond .ne 13, 3) := by decide +kernel
theorem dX6_trial_44 : decode cX6_trial 44 = .ok (.iload_n 2, 1) := by decide +kernel
theorem dX6_trial_45 : decode cX6_trial 45 = .ok (.i2l, 1) := by decide +kernel
theorem dX6_trial_46 : decode cX6_trial 46 = .ok (.aload_n 0, 1) := by decide +kernel
theorem dX6_trial_47 : decode cX6_trial 47 = .ok (.invokevirtual 106, 3) := by decide +kernel
theorem dX6_trial_50 : decode cX6_trial 50 = .ok (.lrem, 1) := by decide +kernel
theorem dX6_trial_51 : decode cX6_trial 51 = .ok (.goto 11, 3) := by decide +kernel
theorem dX6_trial_54 : decode cX6_trial 54 = .ok (.iload_n 2, 1) := by decide +kernel
theorem dX6_trial_55 : decode cX6_trial 55 = .ok (.aload_n 0, 1) := by decide +kernel
theorem dX6_trial_56 : decode cX6_trial 56 = .ok (.invokevirtual 106, 3) := by decide +kernel
theorem dX6_trial_59 : decode cX6_trial 59 = .ok (.invokestatic 131, 3) := by decide +kernel
theorem dX6_trial_62 : decode cX6_trial 62 = .ok (.invokevirtual 135, 3) := by decide +kernel
theorem dX6_trial_65 : decode cX6_trial 65 = .ok (.ireturn, 1) := by decide +kernel
theorem dX6_trial_66 : decode cX6_trial 66 = .ok (.iconst 0, 1) := by decide +kernel
theorem dX6_trial_67 : decode cX6_trial 67 = .ok (.istore_n 3, 1) := by decide +kernel
theorem dX6_trial_68 : decode cX6_trial 68 = .ok (.iload_n 3, 1) := by decide +kernel
theorem dX6_trial_69 : decode cX6_trial 69 = .ok (.aload_n 0, 1) := by decide +kernel
theorem dX6_trial_70 : decode cX6_trial 70 = .ok (.getfield 86, 3) := by decide +kernel
theorem dX6_trial_73 : decode cX6_trial 73 = .ok (.if_icmp .ge 48, 3) := by decide +kernel
theorem dX6_trial_76 : decode cX6_trial 76 = .ok (.aload_n 0, 1) := by decide +kernel
theorem dX6_trial_77 : decode cX6_trial 77 = .ok (.getfield 32, 3) := by decide +kernel
theorem dX6_trial_80 : decode cX6_trial 80 = .ok (.iload_n 3, 1) := by decide +kernel
theorem dX6_trial_81 : decode cX6_trial 81 = .ok (.bipush (-2), 2) := by decide +kernel
theorem dX6_trial_83 : decode cX6_trial 83 = .ok (.iastore, 1) := by decide +kernel
theorem dX6_trial_84 : decode cX6_trial 84 = .ok (.aload_n 0, 1) := by decide +kernel
theorem dX6_trial_85 : decode cX6_trial 85 = .ok (.iconst 0, 1) := by decide +kernel
theorem dX6_trial_86 : decode cX6_trial 86 = .ok (.iload_n 3, 1) := by decide +kernel
theorem dX6_trial_87 : decode cX6_trial 87 = .ok (.invokevirtual 99, 3) := by decide +kernel
theorem dX6_trial_90 : decode cX6_trial 90 = .ok (.ifCond .eq 25, 3) := by decide +kernel
theorem dX6_trial_93 : decode cX6_trial 93 = .ok (.aload_n 0, 1) := by decide +kernel
theorem dX6_trial_94 : decode cX6_trial 94 = .ok (.getfield 32, 3) := by decide +kernel
theorem dX6_trial_97 : decode cX6_trial 97 = .ok (.iload_n 3, 1) := by decide +kernel
theorem dX6_trial_98 : decode cX6_trial 98 = .ok (.iload_n 2, 1) := by decide +kernel
theorem dX6_trial_99 : decode cX6_trial 99 = .ok (.iload_n 3, 1) := by decide +kernel
theorem dX6_trial_100 : decode cX6_trial 100 = .ok (.invokestatic 4, 3) := by decide +kernel
theorem dX6_trial_103 : decode cX6_trial 103 = .ok (.aload_n 0, 1) := by decide +kernel
theorem dX6_trial_104 : decode cX6_trial 104 = .ok (.getfield 18, 3) := by decide +kernel
theorem dX6_trial_107 : decode cX6_trial 107 = .ok (.iload_n 3, 1) := by decide +kernel
theorem dX6_trial_108 : decode cX6_trial 108 = .ok (.iaload, 1) := by decide +kernel
theorem dX6_trial_109 : decode cX6_trial 109 = .ok (.i2l, 1) := by decide +kernel
theorem dX6_trial_110 : decode cX6_trial 110 = .ok (.invokestatic 131, 3) := by decide +kernel
theorem dX6_trial_113 : decode cX6_trial 113 = .ok (.l2i, 1) := by decide +kernel
theorem dX6_trial_114 : decode cX6_trial 114 = .ok (.iastore, 1) := by decide +kernel
theorem dX6_trial_115 : decode cX6_trial 115 = .ok (.iinc 3 1, 3) := by decide +kernel
theorem dX6_trial_118 : decode cX6_trial 118 = .ok (.goto (-50), 3) := by decide +kernel
theorem dX6_trial_121 : decode cX6_trial 121 = .ok (.aload_n 0, 1) := by decide +kernel
theorem dX6_trial_122 : decode cX6_trial 122 = .ok (.aload_n 0, 1) := by decide +kernel
theorem dX6_trial_123 : decode cX6_trial 123 = .ok (.invokevirtual 122, 3) := by decide +kernel
theorem dX6_trial_126 : decode cX6_trial 126 = .ok (.invokevirtual 135, 3) := by decide +kernel
theorem dX6_trial_129 : decode cX6_trial 129 = .ok (.ireturn, 1) := by decide +kernel
set_option maxRecDepth 20000 in
theorem ggX6_near_X6_distanceOf : GoodIn wsX6_near wsX6_distanceOf := goodIn_r _ [12, 13, 14, 15, 16, 17, 18, 11, 19, 20, 21, 22, 23, 24, 25, 26, 27, 28, 29, 30, 31, 32, 33, 34, 35, 36, 37, 38, 39, 40, 41, 42, 43, 44, 45, 46, 47, 48, 49, 50, 51, 52, 53, 54, 55, 56, 57, 58, 59, 60, 61] (by decide +kernel) (by decide +kernel)
set_option maxRecDepth 20000 in
theorem gX6_near_X6_distanceOf : GoodIn wsX6_near (wsV RX6 125 RX6 yX6_distanceOf wsX6_distanceOf) := goodIn_app (goodIn_of _ (by decide +kernel)) ggX6_near_X6_distanceOf
theorem dX6_near_0 : decode cX6_near 0 = .ok (.iconst 0, 1) := by decide +kernel
theorem dX6_near_1 : decode cX6_near 1 = .ok (.istore 4, 2) := by decide +kernel
theorem dX6_near_3 : decode cX6_near 3 = .ok (.iload 4, 2) := by decide +kernel
theorem dX6_near_5 : decode cX6_near 5 = .ok (.aload_n 0, 1) := by decide +kernel
theorem dX6_near_6 : decode cX6_near 6 = .ok (.getfield 92, 3) := by decide +kernel
theorem dX6_near_9 : decode cX6_near 9 = .ok (.if_icmp .ge 51, 3) := by decide +kernel
theorem dX6_near_12 : decode cX6_near 12 = .ok (.aload_n 0, 1) := by decide +kernel
theorem dX6_near_13 : decode cX6_near 13 = .ok (.getfield 50, 3) := by decide +kernel
theorem dX6_near_16 : decode cX6_near 16 = .ok (.iload 4, 2) := by decide +kernel
theorem dX6_near_18 : decode cX6_near 18 = .ok (.iconst 0, 1) := by decide +kernel
theorem dX6_near_19 : decode cX6_near 19 = .ok (.bastore, 1) := by decide +kernel
theorem dX6_near_20 : decode cX6_near 20 = .ok (.aload_n 0, 1) := by decide +kernel
theorem dX6_near_21 : decode cX6_near 21 = .ok (.getfield 54, 3) := by decide +kernel
theorem dX6_near_24 : decode cX6_near 24 = .ok (.iload 4, 2) := by decide +kernel
theorem dX6_near_26 : decode cX6_near 26 = .ok (.aload_n 0, 1) := by decide +kernel
theorem dX6_near_27 : decode cX6_near 27 = .ok (.getfield 38, 3) := by decide +kernel
theorem dX6_near_30 : decode cX6_near 30 = .ok (.iload 4, 2) := by decide +kernel
theorem dX6_near_32 : decode cX6_near 32 = .ok (.iaload, 1) := by decide +kernel
theorem dX6_near_33 : decode cX6_near 33 = .ok (.iconst 1, 1) := by decide +kernel
theorem dX6_near_34 : decode cX6_near 34 = .ok (.if_icmp .ne 18, 3) := by decide +kernel
theorem dX6_near_37 : decode cX6_near 37 = .ok (.aload_n 0, 1) := by decide +kernel
theorem dX6_near_38 : decode cX6_near 38 = .ok (.lload_n 1, 1) := by decide +kernel
theorem dX6_near_39 : decode cX6_near 39 = .ok (.aload_n 0, 1) := by decide +kernel
theorem dX6_near_40 : decode cX6_near 40 = .ok (.getfield 35, 3) := by decide +kernel
theorem dX6_near_43 : decode cX6_near 43 = .ok (.iload 4, 2) := by decide +kernel
theorem dX6_near_45 : decode cX6_near 45 = .ok (.laload, 1) := by decide +kernel
theorem dX6_near_46 : decode cX6_near 46 = .ok (.invokevirtual 125, 3) := by decide +kernel
theorem dX6_near_49 : decode cX6_near 49 = .ok (.goto 4, 3) := by decide +kernel
theorem dX6_near_52 : decode cX6_near 52 = .ok (.iconst 0, 1) := by decide +kernel
theorem dX6_near_53 : decode cX6_near 53 = .ok (.iastore, 1) := by decide +kernel
theorem dX6_near_54 : decode cX6_near 54 = .ok (.iinc 4 1, 3) := by decide +kernel
theorem dX6_near_57 : decode cX6_near 57 = .ok (.goto (-54), 3) := by decide +kernel
theorem dX6_near_60 : decode cX6_near 60 = .ok (.aload_n 0, 1) := by decide +kernel
theorem dX6_near_61 : decode cX6_near 61 = .ok (.iconst 0, 1) := by decide +kernel
theorem dX6_near_62 : decode cX6_near 62 = .ok (.putfield 139, 3) := by decide +kernel
theorem dX6_near_65 : decode cX6_near 65 = .ok (.lconst 0, 1) := by decide +kernel
theorem dX6_near_66 : decode cX6_near 66 = .ok (.lstore 4, 2) := by decide +kernel
theorem dX6_near_68 : decode cX6_near 68 = .ok (.iconst 0, 1) := by decide +kernel
theorem dX6_near_69 : decode cX6_near 69 = .ok (.istore 6, 2) := by decide +kernel
theorem dX6_near_71 : decode cX6_near 71 = .ok (.iload 6, 2) := by decide +kernel
theorem dX6_near_73 : decode cX6_near 73 = .ok (.iload_n 3, 1) := by decide +kernel
theorem dX6_near_74 : decode cX6_near 74 = .ok (.if_icmp .ge 119, 3) := by decide +kernel
theorem dX6_near_77 : decode cX6_near 77 = .ok (.bipush (-2), 2) := by decide +kernel
theorem dX6_near_79 : decode cX6_near 79 = .ok (.istore 7, 2) := by decide +kernel
theorem dX6_near_81 : decode cX6_near 81 = .ok (.iconst 0, 1) := by decide +kernel
theorem dX6_near_82 : decode cX6_near 82 = .ok (.istore 8, 2) := by decide +kernel
theorem dX6_near_84 : decode cX6_near 84 = .ok (.iload 8, 2) := by decide +kernel
theorem dX6_near_86 : decode cX6_near 86 = .ok (.aload_n 0, 1) := by decide +kernel
theorem dX6_near_87 : decode cX6_near 87 = .ok (.getfield 92, 3) := by decide +kernel
theorem dX6_near_90 : decode cX6_near 90 = .ok (.if_icmp .ge 61, 3) := by decide +kernel
theorem dX6_near_93 : decode cX6_near 93 = .ok (.aload_n 0, 1) := by decide +kernel
theorem dX6_near_94 : decode cX6_near 94 = .ok (.getfield 38, 3) := by decide +kernel
theorem dX6_near_97 : decode cX6_near 97 = .ok (.iload 8, 2) := by decide +kernel
theorem dX6_near_99 : decode cX6_near 99 = .ok (.iaload, 1) := by decide +kernel
theorem dX6_near_100 : decode cX6_near 100 = .ok (.iconst 1, 1) := by decide +kernel
theorem dX6_near_101 : decode cX6_near 101 = .ok (.if_icmp .ne 40, 3) := by decide +kernel
theorem dX6_near_104 : decode cX6_near 104 = .ok (.aload_n 0, 1) := by decide +kernel
theorem dX6_near_105 : decode cX6_near 105 = .ok (.getfield 50, 3) := by decide +kernel
theorem dX6_near_108 : decode cX6_near 108 = .ok (.iload 8, 2) := by decide +kernel
theorem dX6_near_110 : decode cX6_near 110 = .ok (.baload, 1) := by decide +kernel
theorem dX6_near_111 : decode cX6_near 111 = .ok (.ifCond .ne 30, 3) := by decide +kernel
theorem dX6_near_114 : decode cX6_near 114 = .ok (.iload 7, 2) := by decide +kernel
theorem dX6_near_116 : decode cX6_near 116 = .ok (.ifCond .lt 20, 3) := by decide +kernel
theorem dX6_near_119 : decode cX6_near 119 = .ok (.aload_n 0, 1) := by decide +kernel
theorem dX6_near_120 : decode cX6_near 120 = .ok (.getfield 54, 3) := by decide +kernel
theorem dX6_near_123 : decode cX6_near 123 = .ok (.iload 8, 2) := by decide +kernel
theorem dX6_near_125 : decode cX6_near 125 = .ok (.iaload, 1) := by decide +kernel
theorem dX6_near_126 : decode cX6_near 126 = .ok (.aload_n 0, 1) := by decide +kernel
theorem dX6_near_127 : decode cX6_near 127 = .ok (.getfield 54, 3) := by decide +kernel
theorem dX6_near_130 : decode cX6_near 130 = .ok (.iload 7, 2) := by decide +kernel
theorem dX6_near_132 : decode cX6_near 132 = .ok (.iaload, 1) := by decide +kernel
theorem dX6_near_133 : decode cX6_near 133 = .ok (.if_icmp .ge 8, 3) := by decide +kernel
theorem dX6_near_136 : decode cX6_near 136 = .ok (.iload 8, 2) := by decide +kernel
theorem dX6_near_138 : decode cX6_near 138 = .ok (.goto 5, 3) := by decide +kernel
theorem dX6_near_141 : decode cX6_near 141 = .ok (.iload 7, 2) := by decide +kernel
theorem dX6_near_143 : decode cX6_near 143 = .ok (.istore 7, 2) := by decide +kernel
theorem dX6_near_145 : decode cX6_near 145 = .ok (.iinc 8 1, 3) := by decide +kernel
theorem dX6_near_148 : decode cX6_near 148 = .ok (.goto (-64), 3) := by decide +kernel
theorem dX6_near_151 : decode cX6_near 151 = .ok (.iload 7, 2) := by decide +kernel
theorem dX6_near_153 : decode cX6_near 153 = .ok (.ifCond .lt 34, 3) := by decide +kernel
theorem dX6_near_156 : decode cX6_near 156 = .ok (.aload_n 0, 1) := by decide +kernel
theorem dX6_near_157 : decode cX6_near 157 = .ok (.getfield 50, 3) := by decide +kernel
theorem dX6_near_160 : decode cX6_near 160 = .ok (.iload 7, 2) := by decide +kernel
theorem dX6_near_162 : decode cX6_near 162 = .ok (.iconst 1, 1) := by decide +kernel
theorem dX6_near_163 : decode cX6_near 163 = .ok (.bastore, 1) := by decide +kernel
theorem dX6_near_164 : decode cX6_near 164 = .ok (.aload_n 0, 1) := by decide +kernel
theorem dX6_near_165 : decode cX6_near 165 = .ok (.dup, 1) := by decide +kernel
theorem dX6_near_166 : decode cX6_near 166 = .ok (.getfield 139, 3) := by decide +kernel
theorem dX6_near_169 : decode cX6_near 169 = .ok (.iconst 1, 1) := by decide +kernel
theorem dX6_near_170 : decode cX6_near 170 = .ok (.iadd, 1) := by decide +kernel
theorem dX6_near_171 : decode cX6_near 171 = .ok (.putfield 139, 3) := by decide +kernel
theorem dX6_near_174 : decode cX6_near 174 = .ok (.lload 4, 2) := by decide +kernel
theorem dX6_near_176 : decode cX6_near 176 = .ok (.aload_n 0, 1) := by decide +kernel
theorem dX6_near_177 : decode cX6_near 177 = .ok (.getfield 41, 3) := by decide +kernel
theorem dX6_near_180 : decode cX6_near 180 = .ok (.iload 7, 2) := by decide +kernel
theorem dX6_near_182 : decode cX6_near 182 = .ok (.iaload, 1) := by decide +kernel
theorem dX6_near_183 : decode cX6_near 183 = .ok (.i2l, 1) := by decide +kernel
theorem dX6_near_184 : decode cX6_near 184 = .ok (.ladd, 1) := by decide +kernel
theorem dX6_near_185 : decode cX6_near 185 = .ok (.lstore 4, 2) := by decide +kernel
theorem dX6_near_187 : decode cX6_near 187 = .ok (.iinc 6 1, 3) := by decide +kernel
theorem dX6_near_190 : decode cX6_near 190 = .ok (.goto (-119), 3) := by decide +kernel
theorem dX6_near_193 : decode cX6_near 193 = .ok (.lload 4, 2) := by decide +kernel
theorem dX6_near_195 : decode cX6_near 195 = .ok (.lreturn, 1) := by decide +kernel
set_option maxRecDepth 20000 in
theorem ggX6_guess_X6_in : GoodIn wsX6_guess wsX6_in := goodIn_r _ [8] (by decide +kernel) (by decide +kernel)
set_option maxRecDepth 20000 in
theorem gX6_guess_X6_in : GoodIn wsX6_guess (va_wsS RX6 80 yX6_in wsX6_in) := goodIn_app (goodIn_of _ (by decide +kernel)) ggX6_guess_X6_in
set_option maxRecDepth 20000 in
theorem ggX6_guess_X6_hash : GoodIn wsX6_guess wsX6_hash := goodIn_r _ [11, 12, 13, 14] (by decide +kernel) (by decide +kernel)
set_option maxRecDepth 20000 in
theorem gX6_guess_X6_hash : GoodIn wsX6_guess (va_wsS RX6 4 yX6_hash wsX6_hash) := goodIn_app (goodIn_of _ (by decide +kernel)) ggX6_guess_X6_hash
set_option maxRecDepth 20000 in
theorem ggX6_guess_X6_points : GoodIn wsX6_guess wsX6_points := goodIn_r _ [18, 19, 20, 21, 59, 60, 61, 62, 63, 64, 65, 66, 67, 68, 69, 70, 71, 72, 73, 74, 75, 76, 77, 78, 79, 80, 81, 82, 83, 84, 85, 86, 87, 88, 89] (by decide +kernel) (by decide +kernel)
set_option maxRecDepth 20000 in
theorem gX6_guess_X6_points : GoodIn wsX6_guess (wsV RX6 106 RX6 yX6_points wsX6_points) := goodIn_app (goodIn_of _ (by decide +kernel)) ggX6_guess_X6_points
set_option maxRecDepth 20000 in
theorem ggX6_guess_X6_pick : GoodIn wsX6_guess wsX6_pick := goodIn_r _ [24, 25, 9, 10, 7, 11, 12, 13, 14] (by decide +kernel) (by decide +kernel)
set_option maxRecDepth 20000 in
theorem gX6_guess_X6_pick : GoodIn wsX6_guess (va_wsS RX6 131 yX6_pick wsX6_pick) := goodIn_app (goodIn_of _ (by decide +kernel)) ggX6_guess_X6_pick
set_option maxRecDepth 20000 in
theorem ggX6_guess_X6_near : GoodIn wsX6_guess wsX6_near := goodIn_r _ [29, 3, 30, 31, 32, 33, 4, 34, 35, 36, 37, 7, 38, 19, 39, 40, 41, 42, 43, 44, 45, 46, 47, 48, 20, 49, 50, 51, 52, 53, 21, 59, 60, 61, 62, 63, 64, 65, 66, 67, 68, 69, 70, 71, 72, 73, 74, 75, 76, 77, 78, 79, 80, 81, 82, 83, 84, 85, 86, 87, 88, 89] (by decide +kernel) (by decide +kernel)
set_option maxRecDepth 20000 in
theorem gX6_guess_X6_near : GoodIn wsX6_guess (wsV RX6 146 RX6 yX6_near wsX6_near) := goodIn_app (goodIn_of _ (by decide +kernel)) ggX6_guess_X6_near
set_option maxRecDepth 20000 in
theorem ggX6_guess_X6_add : GoodIn wsX6_guess wsX6_add := goodIn_r _ [57, 33, 3, 32, 34, 58, 59, 60, 61, 62, 63, 64, 65, 66, 67, 68, 69, 70, 71, 72, 73, 74, 75, 76, 77, 78, 79, 80, 81, 82, 83, 84, 85, 86, 87, 88, 89] (by decide +kernel) (by decide +kernel)
set_option maxRecDepth 20000 in
theorem gX6_guess_X6_add : GoodIn wsX6_guess (wsV RX6 135 RX6 yX6_add wsX6_add) := goodIn_app (goodIn_of _ (by decide +kernel)) ggX6_guess_X6_add
theorem dX6_guess_0 : decode cX6_guess 0 = .ok (.iload_n 2, 1) := by decide +kernel
theorem dX6_guess_1 : decode cX6_guess 1 = .ok (.i2l, 1) := by decide +kernel
theorem dX6_guess_2 : decode cX6_guess 2 = .ok (.lconst 1, 1) := by decide +kernel
theorem dX6_guess_3 : decode cX6_guess 3 = .ok (.ldc2_w 142, 3) := by decide +kernel
theorem dX6_guess_6 : decode cX6_guess 6 = .ok (.invokestatic 80, 3) := by decide +kernel
theorem dX6_guess_9 : decode cX6_guess 9 = .ok (.ifCond .eq 15, 3) := by decide +kernel
theorem dX6_guess_12 : decode cX6_guess 12 = .ok (.iload_n 3, 1) := by decide +kernel
theorem dX6_guess_13 : decode cX6_guess 13 = .ok (.i2l, 1) := by decide +kernel
theorem dX6_guess_14 : decode cX6_guess 14 = .ok (.lconst 1, 1) := by decide +kernel
theorem dX6_guess_15 : decode cX6_guess 15 = .ok (.ldc2_w 144, 3) := by decide +kernel
theorem dX6_guess_18 : decode cX6_guess 18 = .ok (.invokestatic 80, 3) := by decide +kernel
theorem dX6_guess_21 : decode cX6_guess 21 = .ok (.ifCond .ne 5, 3) := by decide +kernel
theorem dX6_guess_24 : decode cX6_guess 24 = .ok (.iconst (-1), 1) := by decide +kernel
theorem dX6_guess_25 : decode cX6_guess 25 = .ok (.ireturn, 1) := by decide +kernel
theorem dX6_guess_26 : decode cX6_guess 26 = .ok (.aload_n 0, 1) := by decide +kernel
theorem dX6_guess_27 : decode cX6_guess 27 = .ok (.getfield 92, 3) := by decide +kernel
theorem dX6_guess_30 : decode cX6_guess 30 = .ok (.bipush 60, 2) := by decide +kernel
theorem dX6_guess_32 : decode cX6_guess 32 = .ok (.if_icmp .ne 6, 3) := by decide +kernel
theorem dX6_guess_35 : decode cX6_guess 35 = .ok (.bipush (-4), 2) := by decide +kernel
theorem dX6_guess_37 : decode cX6_guess 37 = .ok (.ireturn, 1) := by decide +kernel
theorem dX6_guess_38 : decode cX6_guess 38 = .ok (.iload_n 1, 1) := by decide +kernel
theorem dX6_guess_39 : decode cX6_guess 39 = .ok (.iconst 0, 1) := by decide +kernel
theorem dX6_guess_40 : decode cX6_guess 40 = .ok (.invokestatic 4, 3) := by decide +kernel
theorem dX6_guess_43 : decode cX6_guess 43 = .ok (.aload_n 0, 1) := by decide +kernel
theorem dX6_guess_44 : decode cX6_guess 44 = .ok (.invokevirtual 106, 3) := by decide +kernel
theorem dX6_guess_47 : decode cX6_guess 47 = .ok (.invokestatic 131, 3) := by decide +kernel
theorem dX6_guess_50 : decode cX6_guess 50 = .ok (.lstore 4, 2) := by decide +kernel
theorem dX6_guess_52 : decode cX6_guess 52 = .ok (.aload_n 0, 1) := by decide +kernel
theorem dX6_guess_53 : decode cX6_guess 53 = .ok (.lload 4, 2) := by decide +kernel
theorem dX6_guess_55 : decode cX6_guess 55 = .ok (.iload_n 3, 1) := by decide +kernel
theorem dX6_guess_56 : decode cX6_guess 56 = .ok (.invokevirtual 146, 3) := by decide +kernel
theorem dX6_guess_59 : decode cX6_guess 59 = .ok (.lstore 6, 2) := by decide +kernel
theorem dX6_guess_61 : decode cX6_guess 61 = .ok (.iconst 1, 1) := by decide +kernel
theorem dX6_guess_62 : decode cX6_guess 62 = .ok (.istore 8, 2) := by decide +kernel
theorem dX6_guess_64 : decode cX6_guess 64 = .ok (.iload 8, 2) := by decide +kernel
theorem dX6_guess_66 : decode cX6_guess 66 = .ok (.iload_n 2, 1) := by decide +kernel
theorem dX6_guess_67 : decode cX6_guess 67 = .ok (.if_icmp .ge 56, 3) := by decide +kernel
theorem dX6_guess_70 : decode cX6_guess 70 = .ok (.aload_n 0, 1) := by decide +kernel
theorem dX6_guess_71 : decode cX6_guess 71 = .ok (.getfield 139, 3) := by decide +kernel
theorem dX6_guess_74 : decode cX6_guess 74 = .ok (.ifCond .le 49, 3) := by decide +kernel
theorem dX6_guess_77 : decode cX6_guess 77 = .ok (.iload_n 1, 1) := by decide +kernel
theorem dX6_guess_78 : decode cX6_guess 78 = .ok (.iload 8, 2) := by decide +kernel
theorem dX6_guess_80 : decode cX6_guess 80 = .ok (.invokestatic 4, 3) := by decide +kernel
theorem dX6_guess_83 : decode cX6_guess 83 = .ok (.aload_n 0, 1) := by decide +kernel
theorem dX6_guess_84 : decode cX6_guess 84 = .ok (.invokevirtual 106, 3) := by decide +kernel
theorem dX6_guess_87 : decode cX6_guess 87 = .ok (.invokestatic 131, 3) := by decide +kernel
theorem dX6_guess_90 : decode cX6_guess 90 = .ok (.lstore 9, 2) := by decide +kernel
theorem dX6_guess_92 : decode cX6_guess 92 = .ok (.aload_n 0, 1) := by decide +kernel
theorem dX6_guess_93 : decode cX6_guess 93 = .ok (.lload 9, 2) := by decide +kernel
theorem dX6_guess_95 : decode cX6_guess 95 = .ok (.iload_n 3, 1) := by decide +kernel
theorem dX6_guess_96 : decode cX6_guess 96 = .ok (.invokevirtual 146, 3) := by decide +kernel
theorem dX6_guess_99 : decode cX6_guess 99 = .ok (.lstore 11, 2) := by decide +kernel
theorem dX6_guess_101 : decode cX6_guess 101 = .ok (.lload 11, 2) := by decide +kernel
theorem dX6_guess_103 : decode cX6_guess 103 = .ok (.lload 6, 2) := by decide +kernel
theorem dX6_guess_105 : decode cX6_guess 105 = .ok (.lcmp, 1) := by decide +kernel
theorem dX6_guess_106 : decode cX6_guess 106 = .ok (.ifCond .le 11, 3) := by decide +kernel
theorem dX6_guess_109 : decode cX6_guess 109 = .ok (.lload 11, 2) := by decide +kernel
theorem dX6_guess_111 : decode cX6_guess 111 = .ok (.lstore 6, 2) := by decide +kernel
theorem dX6_guess_113 : decode cX6_guess 113 = .ok (.lload 9, 2) := by decide +kernel
theorem dX6_guess_115 : decode cX6_guess 115 = .ok (.lstore 4, 2) := by decide +kernel
theorem dX6_guess_117 : decode cX6_guess 117 = .ok (.iinc 8 1, 3) := by decide +kernel
theorem dX6_guess_120 : decode cX6_guess 120 = .ok (.goto (-56), 3) := by decide +kernel
theorem dX6_guess_123 : decode cX6_guess 123 = .ok (.aload_n 0, 1) := by decide +kernel
theorem dX6_guess_124 : decode cX6_guess 124 = .ok (.lload 4, 2) := by decide +kernel
theorem dX6_guess_126 : decode cX6_guess 126 = .ok (.invokevirtual 135, 3) := by decide +kernel
theorem dX6_guess_129 : decode cX6_guess 129 = .ok (.ireturn, 1) := by decide +kernel
theorem dX6_divisor_0 : decode cX6_divisor 0 = .ok (.lload_n 0, 1) := by decide +kernel
theorem dX6_divisor_1 : decode cX6_divisor 1 = .ok (.lconst 0, 1) := by decide +kernel
theorem dX6_divisor_2 : decode cX6_divisor 2 = .ok (.lcmp, 1) := by decide +kernel
theorem dX6_divisor_3 : decode cX6_divisor 3 = .ok (.ifCond .ge 8, 3) := by decide +kernel
theorem dX6_divisor_6 : decode cX6_divisor 6 = .ok (.lload_n 0, 1) := by decide +kernel
theorem dX6_divisor_7 : decode cX6_divisor 7 = .ok (.lneg, 1) := by decide +kernel
theorem dX6_divisor_8 : decode cX6_divisor 8 = .ok (.goto 4, 3) := by decide +kernel
theorem dX6_divisor_11 : decode cX6_divisor 11 = .ok (.lload_n 0, 1) := by decide +kernel
theorem dX6_divisor_12 : decode cX6_divisor 12 = .ok (.lstore 4, 2) := by decide +kernel
theorem dX6_divisor_14 : decode cX6_divisor 14 = .ok (.lload_n 2, 1) := by decide +kernel
theorem dX6_divisor_15 : decode cX6_divisor 15 = .ok (.lstore 6, 2) := by decide +kernel
theorem dX6_divisor_17 : decode cX6_divisor 17 = .ok (.lload 6, 2) := by decide +kernel
theorem dX6_divisor_19 : decode cX6_divisor 19 = .ok (.lconst 0, 1) := by decide +kernel
theorem dX6_divisor_20 : decode cX6_divisor 20 = .ok (.lcmp, 1) := by decide +kernel
theorem dX6_divisor_21 : decode cX6_divisor 21 = .ok (.ifCond .eq 21, 3) := by decide +kernel
theorem dX6_divisor_24 : decode cX6_divisor 24 = .ok (.lload 4, 2) := by decide +kernel
theorem dX6_divisor_26 : decode cX6_divisor 26 = .ok (.lload 6, 2) := by decide +kernel
theorem dX6_divisor_28 : decode cX6_divisor 28 = .ok (.lrem, 1) := by decide +kernel
theorem dX6_divisor_29 : decode cX6_divisor 29 = .ok (.lstore 8, 2) := by decide +kernel
theorem dX6_divisor_31 : decode cX6_divisor 31 = .ok (.lload 6, 2) := by decide +kernel
theorem dX6_divisor_33 : decode cX6_divisor 33 = .ok (.lstore 4, 2) := by decide +kernel
theorem dX6_divisor_35 : decode cX6_divisor 35 = .ok (.lload 8, 2) := by decide +kernel
theorem dX6_divisor_37 : decode cX6_divisor 37 = .ok (.lstore 6, 2) := by decide +kernel
theorem dX6_divisor_39 : decode cX6_divisor 39 = .ok (.goto (-22), 3) := by decide +kernel
theorem dX6_divisor_42 : decode cX6_divisor 42 = .ok (.lload 4, 2) := by decide +kernel
theorem dX6_divisor_44 : decode cX6_divisor 44 = .ok (.lreturn, 1) := by decide +kernel
set_option maxRecDepth 20000 in
theorem ggX6_forecast_X6_noPoint : GoodIn wsX6_forecast wsX6_noPoint := goodIn_r _ [9, 10, 11, 12, 8, 13, 14, 15, 16, 17, 18, 19, 52, 53, 54, 55, 56, 57, 58, 59, 60, 61, 62, 63, 64, 65, 66, 67, 68, 69, 70, 71, 72, 73, 74, 75, 76, 77, 78, 79, 80, 81, 82] (by decide +kernel) (by decide +kernel)
set_option maxRecDepth 20000 in
theorem gX6_forecast_X6_noPoint : GoodIn wsX6_forecast (wsV RX6 110 RX6 yX6_noPoint wsX6_noPoint) := goodIn_app (goodIn_of _ (by decide +kernel)) ggX6_forecast_X6_noPoint
set_option maxRecDepth 20000 in
theorem ggX6_forecast_X6_in : GoodIn wsX6_forecast wsX6_in := goodIn_r _ [19] (by decide +kernel) (by decide +kernel)
set_option maxRecDepth 20000 in
theorem gX6_forecast_X6_in : GoodIn wsX6_forecast (va_wsS RX6 80 yX6_in wsX6_in) := goodIn_app (goodIn_of _ (by decide +kernel)) ggX6_forecast_X6_in
set_option maxRecDepth 20000 in
theorem ggX6_forecast_X6_near : GoodIn wsX6_forecast wsX6_near := goodIn_r _ [23, 24, 25, 26, 27, 28, 3, 29, 30, 31, 32, 8, 33, 14, 34, 35, 36, 37, 38, 39, 40, 41, 42, 43, 15, 44, 45, 46, 47, 48, 16, 52, 53, 54, 55, 56, 57, 58, 59, 60, 61, 62, 63, 64, 65, 66, 67, 68, 69, 70, 71, 72, 73, 74, 75, 76, 77, 78, 79, 80, 81, 82] (by decide +kernel) (by decide +kernel)
set_option maxRecDepth 20000 in
theorem gX6_forecast_X6_near : GoodIn wsX6_forecast (wsV RX6 146 RX6 yX6_near wsX6_near) := goodIn_app (goodIn_of _ (by decide +kernel)) ggX6_forecast_X6_near
set_option maxRecDepth 20000 in
theorem ggX6_forecast_X6_divisor : GoodIn wsX6_forecast wsX6_divisor := goodIn_r _ [51] (by decide +kernel) (by decide +kernel)
set_option maxRecDepth 20000 in
theorem gX6_forecast_X6_divisor : GoodIn wsX6_forecast (va_wsS RX6 154 yX6_divisor wsX6_divisor) := goodIn_app (goodIn_of _ (by decide +kernel)) ggX6_forecast_X6_divisor
theorem dX6_forecast_0 : decode cX6_forecast 0 = .ok (.aload_n 0, 1) := by decide +kernel
theorem dX6_forecast_1 : decode cX6_forecast 1 = .ok (.lload_n 1, 1) := by decide +kernel
theorem dX6_forecast_2 : decode cX6_forecast 2 = .ok (.invokevirtual 110, 3) := by decide +kernel
theorem dX6_forecast_5 : decode cX6_forecast 5 = .ok (.ifCond .ne 26, 3) := by decide +kernel
theorem dX6_forecast_8 : decode cX6_forecast 8 = .ok (.iload_n 3, 1) := by decide +kernel
theorem dX6_forecast_9 : decode cX6_forecast 9 = .ok (.i2l, 1) := by decide +kernel
theorem dX6_forecast_10 : decode cX6_forecast 10 = .ok (.lconst 1, 1) := by decide +kernel
theorem dX6_forecast_11 : decode cX6_forecast 11 = .ok (.ldc2_w 144, 3) := by decide +kernel
theorem dX6_forecast_14 : decode cX6_forecast 14 = .ok (.invokestatic 80, 3) := by decide +kernel
theorem dX6_forecast_17 : decode cX6_forecast 17 = .ok (.ifCond .eq 14, 3) := by decide +kernel
theorem dX6_forecast_20 : decode cX6_forecast 20 = .ok (.iload 4, 2) := by decide +kernel
theorem dX6_forecast_22 : decode cX6_forecast 22 = .ok (.i2l, 1) := by decide +kernel
theorem dX6_forecast_23 : decode cX6_forecast 23 = .ok (.lconst 0, 1) := by decide +kernel
theorem dX6_forecast_24 : decode cX6_forecast 24 = .ok (.lconst 1, 1) := by decide +kernel
theorem dX6_forecast_25 : decode cX6_forecast 25 = .ok (.invokestatic 80, 3) := by decide +kernel
theorem dX6_forecast_28 : decode cX6_forecast 28 = .ok (.ifCond .ne 7, 3) := by decide +kernel
theorem dX6_forecast_31 : decode cX6_forecast 31 = .ok (.ldc2_w 150, 3) := by decide +kernel
theorem dX6_forecast_34 : decode cX6_forecast 34 = .ok (.lreturn, 1) := by decide +kernel
theorem dX6_forecast_35 : decode cX6_forecast 35 = .ok (.aload_n 0, 1) := by decide +kernel
theorem dX6_forecast_36 : decode cX6_forecast 36 = .ok (.lload_n 1, 1) := by decide +kernel
theorem dX6_forecast_37 : decode cX6_forecast 37 = .ok (.iload_n 3, 1) := by decide +kernel
theorem dX6_forecast_38 : decode cX6_forecast 38 = .ok (.invokevirtual 146, 3) := by decide +kernel
theorem dX6_forecast_41 : decode cX6_forecast 41 = .ok (.lstore 5, 2) := by decide +kernel
theorem dX6_forecast_43 : decode cX6_forecast 43 = .ok (.aload_n 0, 1) := by decide +kernel
theorem dX6_forecast_44 : decode cX6_forecast 44 = .ok (.getfield 139, 3) := by decide +kernel
theorem dX6_forecast_47 : decode cX6_forecast 47 = .ok (.ifCond .ne 7, 3) := by decide +kernel
theorem dX6_forecast_50 : decode cX6_forecast 50 = .ok (.ldc2_w 152, 3) := by decide +kernel
theorem dX6_forecast_53 : decode cX6_forecast 53 = .ok (.lreturn, 1) := by decide +kernel
theorem dX6_forecast_54 : decode cX6_forecast 54 = .ok (.lload 5, 2) := by decide +kernel
theorem dX6_forecast_56 : decode cX6_forecast 56 = .ok (.aload_n 0, 1) := by decide +kernel
theorem dX6_forecast_57 : decode cX6_forecast 57 = .ok (.getfield 139, 3) := by decide +kernel
theorem dX6_forecast_60 : decode cX6_forecast 60 = .ok (.i2l, 1) := by decide +kernel
theorem dX6_forecast_61 : decode cX6_forecast 61 = .ok (.invokestatic 154, 3) := by decide +kernel
theorem dX6_forecast_64 : decode cX6_forecast 64 = .ok (.lstore 7, 2) := by decide +kernel
theorem dX6_forecast_66 : decode cX6_forecast 66 = .ok (.iload 4, 2) := by decide +kernel
theorem dX6_forecast_68 : decode cX6_forecast 68 = .ok (.ifCond .ne 11, 3) := by decide +kernel
theorem dX6_forecast_71 : decode cX6_forecast 71 = .ok (.lload 5, 2) := by decide +kernel
theorem dX6_forecast_73 : decode cX6_forecast 73 = .ok (.lload 7, 2) := by decide +kernel
theorem dX6_forecast_75 : decode cX6_forecast 75 = .ok (.ldiv, 1) := by decide +kernel
theorem dX6_forecast_76 : decode cX6_forecast 76 = .ok (.goto 11, 3) := by decide +kernel
theorem dX6_forecast_79 : decode cX6_forecast 79 = .ok (.aload_n 0, 1) := by decide +kernel
theorem dX6_forecast_80 : decode cX6_forecast 80 = .ok (.getfield 139, 3) := by decide +kernel
theorem dX6_forecast_83 : decode cX6_forecast 83 = .ok (.i2l, 1) := by decide +kernel
theorem dX6_forecast_84 : decode cX6_forecast 84 = .ok (.lload 7, 2) := by decide +kernel
theorem dX6_forecast_86 : decode cX6_forecast 86 = .ok (.ldiv, 1) := by decide +kernel
theorem dX6_forecast_87 : decode cX6_forecast 87 = .ok (.lreturn, 1) := by decide +kernel
set_option maxRecDepth 20000 in
theorem ggX6_noTrial_X6_in : GoodIn wsX6_noTrial wsX6_in := goodIn_r _ [5] (by decide +kernel) (by decide +kernel)
set_option maxRecDepth 20000 in
theorem gX6_noTrial_X6_in : GoodIn wsX6_noTrial (va_wsS RX6 80 yX6_in wsX6_in) := goodIn_app (goodIn_of _ (by decide +kernel)) ggX6_noTrial_X6_in
theorem dX6_noTrial_0 : decode cX6_noTrial 0 = .ok (.iload_n 1, 1) := by decide +kernel
theorem dX6_noTrial_1 : decode cX6_noTrial 1 = .ok (.i2l, 1) := by decide +kernel
theorem dX6_noTrial_2 : decode cX6_noTrial 2 = .ok (.lconst 0, 1) := by decide +kernel
theorem dX6_noTrial_3 : decode cX6_noTrial 3 = .ok (.aload_n 0, 1) := by decide +kernel
theorem dX6_noTrial_4 : decode cX6_noTrial 4 = .ok (.getfield 92, 3) := by decide +kernel
theorem dX6_noTrial_7 : decode cX6_noTrial 7 = .ok (.iconst 1, 1) := by decide +kernel
theorem dX6_noTrial_8 : decode cX6_noTrial 8 = .ok (.isub, 1) := by decide +kernel
theorem dX6_noTrial_9 : decode cX6_noTrial 9 = .ok (.i2l, 1) := by decide +kernel
theorem dX6_noTrial_10 : decode cX6_noTrial 10 = .ok (.invokestatic 80, 3) := by decide +kernel
theorem dX6_noTrial_13 : decode cX6_noTrial 13 = .ok (.ifCond .ne 7, 3) := by decide +kernel
theorem dX6_noTrial_16 : decode cX6_noTrial 16 = .ok (.iconst 1, 1) := by decide +kernel
theorem dX6_noTrial_17 : decode cX6_noTrial 17 = .ok (.goto 4, 3) := by decide +kernel
theorem dX6_noTrial_20 : decode cX6_noTrial 20 = .ok (.iconst 0, 1) := by decide +kernel
theorem dX6_noTrial_21 : decode cX6_noTrial 21 = .ok (.ireturn, 1) := by decide +kernel
set_option maxRecDepth 20000 in
theorem ggX6_isScore_X6_in : GoodIn wsX6_isScore wsX6_in := goodIn_r _ [6] (by decide +kernel) (by decide +kernel)
set_option maxRecDepth 20000 in
theorem gX6_isScore_X6_in : GoodIn wsX6_isScore (va_wsS RX6 80 yX6_in wsX6_in) := goodIn_app (goodIn_of _ (by decide +kernel)) ggX6_isScore_X6_in
theorem dX6_isScore_0 : decode cX6_isScore 0 = .ok (.iload_n 0, 1) := by decide +kernel
theorem dX6_isScore_1 : decode cX6_isScore 1 = .ok (.i2l, 1) := by decide +kernel
theorem dX6_isScore_2 : decode cX6_isScore 2 = .ok (.ldc2_w 158, 3) := by decide +kernel
theorem dX6_isScore_5 : decode cX6_isScore 5 = .ok (.ldc2_w 160, 3) := by decide +kernel
theorem dX6_isScore_8 : decode cX6_isScore 8 = .ok (.invokestatic 80, 3) := by decide +kernel
theorem dX6_isScore_11 : decode cX6_isScore 11 = .ok (.ireturn, 1) := by decide +kernel
set_option maxRecDepth 20000 in
theorem ggX6_score_X6_noTrial : GoodIn wsX6_score wsX6_noTrial := goodIn_r _ [8, 3, 9, 10, 7, 11, 17, 18, 19, 20, 21, 22, 23, 24, 25, 26, 27, 28, 29, 30, 31, 32, 33, 34, 35, 36, 37, 38, 39, 40, 41, 42, 43, 44, 45, 46, 47] (by decide +kernel) (by decide +kernel)
set_option maxRecDepth 20000 in
theorem gX6_score_X6_noTrial : GoodIn wsX6_score (wsV RX6 162 RX6 yX6_noTrial wsX6_noTrial) := goodIn_app (goodIn_of _ (by decide +kernel)) ggX6_score_X6_noTrial
set_option maxRecDepth 20000 in
theorem ggX6_score_X6_isScore : GoodIn wsX6_score wsX6_isScore := goodIn_r _ [14, 15, 16, 9, 10, 7, 11] (by decide +kernel) (by decide +kernel)
set_option maxRecDepth 20000 in
theorem gX6_score_X6_isScore : GoodIn wsX6_score (va_wsS RX6 166 yX6_isScore wsX6_isScore) := goodIn_app (goodIn_of _ (by decide +kernel)) ggX6_score_X6_isScore
theorem dX6_score_0 : decode cX6_score 0 = .ok (.aload_n 0, 1) := by decide +kernel
theorem dX6_score_1 : decode cX6_score 1 = .ok (.iload_n 1, 1) := by decide +kernel
theorem dX6_score_2 : decode cX6_score 2 = .ok (.invokevirtual 162, 3) := by decide +kernel
theorem dX6_score_5 : decode cX6_score 5 = .ok (.ifCond .ne 14, 3) := by decide +kernel
theorem dX6_score_8 : decode cX6_score 8 = .ok (.iload_n 3, 1) := by decide +kernel
theorem dX6_score_9 : decode cX6_score 9 = .ok (.ifCond .eq 12, 3) := by decide +kernel
theorem dX6_score_12 : decode cX6_score 12 = .ok (.iload_n 2, 1) := by decide +kernel
theorem dX6_score_13 : decode cX6_score 13 = .ok (.invokestatic 166, 3) := by decide +kernel
theorem dX6_score_16 : decode cX6_score 16 = .ok (.ifCond .ne 5, 3) := by decide +kernel
theorem dX6_score_19 : decode cX6_score 19 = .ok (.iconst (-1), 1) := by decide +kernel
theorem dX6_score_20 : decode cX6_score 20 = .ok (.ireturn, 1) := by decide +kernel
theorem dX6_score_21 : decode cX6_score 21 = .ok (.aload_n 0, 1) := by decide +kernel
theorem dX6_score_22 : decode cX6_score 22 = .ok (.getfield 38, 3) := by decide +kernel
theorem dX6_score_25 : decode cX6_score 25 = .ok (.iload_n 1, 1) := by decide +kernel
theorem dX6_score_26 : decode cX6_score 26 = .ok (.iaload, 1) := by decide +kernel
theorem dX6_score_27 : decode cX6_score 27 = .ok (.ifCond .eq 6, 3) := by decide +kernel
theorem dX6_score_30 : decode cX6_score 30 = .ok (.bipush (-3), 2) := by decide +kernel
theorem dX6_score_32 : decode cX6_score 32 = .ok (.ireturn, 1) := by decide +kernel
theorem dX6_score_33 : decode cX6_score 33 = .ok (.aload_n 0, 1) := by decide +kernel
theorem dX6_score_34 : decode cX6_score 34 = .ok (.getfield 38, 3) := by decide +kernel
theorem dX6_score_37 : decode cX6_score 37 = .ok (.iload_n 1, 1) := by decide +kernel
theorem dX6_score_38 : decode cX6_score 38 = .ok (.iload_n 3, 1) := by decide +kernel
theorem dX6_score_39 : decode cX6_score 39 = .ok (.ifCond .eq 7, 3) := by decide +kernel
theorem dX6_score_42 : decode cX6_score 42 = .ok (.iconst 1, 1) := by decide +kernel
theorem dX6_score_43 : decode cX6_score 43 = .ok (.goto 4, 3) := by decide +kernel
end
section
theorem dX6_score_46 : decode cX6_score 46 = .ok (.iconst 2, 1) := by decide +kernel
theorem dX6_score_47 : decode cX6_score 47 = .ok (.iastore, 1) := by decide +kernel
theorem dX6_score_48 : decode cX6_score 48 = .ok (.aload_n 0, 1) := by decide +kernel
theorem dX6_score_49 : decode cX6_score 49 = .ok (.getfield 41, 3) := by decide +kernel
theorem dX6_score_52 : decode cX6_score 52 = .ok (.iload_n 1, 1) := by decide +kernel
theorem dX6_score_53 : decode cX6_score 53 = .ok (.iload_n 3, 1) := by decide +kernel
theorem dX6_score_54 : decode cX6_score 54 = .ok (.ifCond .eq 7, 3) := by decide +kernel
theorem dX6_score_57 : decode cX6_score 57 = .ok (.iload_n 2, 1) := by decide +kernel
theorem dX6_score_58 : decode cX6_score 58 = .ok (.goto 4, 3) := by decide +kernel
theorem dX6_score_61 : decode cX6_score 61 = .ok (.iconst 0, 1) := by decide +kernel
theorem dX6_score_62 : decode cX6_score 62 = .ok (.iastore, 1) := by decide +kernel
theorem dX6_score_63 : decode cX6_score 63 = .ok (.iconst 0, 1) := by decide +kernel
theorem dX6_score_64 : decode cX6_score 64 = .ok (.istore 4, 2) := by decide +kernel
theorem dX6_score_66 : decode cX6_score 66 = .ok (.iconst 0, 1) := by decide +kernel
theorem dX6_score_67 : decode cX6_score 67 = .ok (.istore 5, 2) := by decide +kernel
theorem dX6_score_69 : decode cX6_score 69 = .ok (.iload 5, 2) := by decide +kernel
theorem dX6_score_71 : decode cX6_score 71 = .ok (.aload_n 0, 1) := by decide +kernel
theorem dX6_score_72 : decode cX6_score 72 = .ok (.getfield 92, 3) := by decide +kernel
theorem dX6_score_75 : decode cX6_score 75 = .ok (.if_icmp .ge 30, 3) := by decide +kernel
theorem dX6_score_78 : decode cX6_score 78 = .ok (.iload 4, 2) := by decide +kernel
theorem dX6_score_80 : decode cX6_score 80 = .ok (.aload_n 0, 1) := by decide +kernel
theorem dX6_score_81 : decode cX6_score 81 = .ok (.getfield 38, 3) := by decide +kernel
theorem dX6_score_84 : decode cX6_score 84 = .ok (.iload 5, 2) := by decide +kernel
theorem dX6_score_86 : decode cX6_score 86 = .ok (.iaload, 1) := by decide +kernel
theorem dX6_score_87 : decode cX6_score 87 = .ok (.iconst 1, 1) := by decide +kernel
theorem dX6_score_88 : decode cX6_score 88 = .ok (.if_icmp .ne 7, 3) := by decide +kernel
theorem dX6_score_91 : decode cX6_score 91 = .ok (.iconst 1, 1) := by decide +kernel
theorem dX6_score_92 : decode cX6_score 92 = .ok (.goto 4, 3) := by decide +kernel
theorem dX6_score_95 : decode cX6_score 95 = .ok (.iconst 0, 1) := by decide +kernel
theorem dX6_score_96 : decode cX6_score 96 = .ok (.iadd, 1) := by decide +kernel
theorem dX6_score_97 : decode cX6_score 97 = .ok (.istore 4, 2) := by decide +kernel
theorem dX6_score_99 : decode cX6_score 99 = .ok (.iinc 5 1, 3) := by decide +kernel
theorem dX6_score_102 : decode cX6_score 102 = .ok (.goto (-33), 3) := by decide +kernel
theorem dX6_score_105 : decode cX6_score 105 = .ok (.iload 4, 2) := by decide +kernel
theorem dX6_score_107 : decode cX6_score 107 = .ok (.ireturn, 1) := by decide +kernel
theorem dX6_prunes_0 : decode cX6_prunes 0 = .ok (.iconst 0, 1) := by decide +kernel
theorem dX6_prunes_1 : decode cX6_prunes 1 = .ok (.istore 5, 2) := by decide +kernel
theorem dX6_prunes_3 : decode cX6_prunes 3 = .ok (.iconst 0, 1) := by decide +kernel
theorem dX6_prunes_4 : decode cX6_prunes 4 = .ok (.istore 6, 2) := by decide +kernel
theorem dX6_prunes_6 : decode cX6_prunes 6 = .ok (.iload 6, 2) := by decide +kernel
theorem dX6_prunes_8 : decode cX6_prunes 8 = .ok (.aload_n 0, 1) := by decide +kernel
theorem dX6_prunes_9 : decode cX6_prunes 9 = .ok (.getfield 92, 3) := by decide +kernel
theorem dX6_prunes_12 : decode cX6_prunes 12 = .ok (.if_icmp .ge 36, 3) := by decide +kernel
theorem dX6_prunes_15 : decode cX6_prunes 15 = .ok (.iload 5, 2) := by decide +kernel
theorem dX6_prunes_17 : decode cX6_prunes 17 = .ok (.iload 6, 2) := by decide +kernel
theorem dX6_prunes_19 : decode cX6_prunes 19 = .ok (.iload_n 1, 1) := by decide +kernel
theorem dX6_prunes_20 : decode cX6_prunes 20 = .ok (.if_icmp .eq 18, 3) := by decide +kernel
theorem dX6_prunes_23 : decode cX6_prunes 23 = .ok (.aload_n 0, 1) := by decide +kernel
theorem dX6_prunes_24 : decode cX6_prunes 24 = .ok (.getfield 44, 3) := by decide +kernel
theorem dX6_prunes_27 : decode cX6_prunes 27 = .ok (.iload 6, 2) := by decide +kernel
theorem dX6_prunes_29 : decode cX6_prunes 29 = .ok (.iaload, 1) := by decide +kernel
theorem dX6_prunes_30 : decode cX6_prunes 30 = .ok (.iload_n 2, 1) := by decide +kernel
theorem dX6_prunes_31 : decode cX6_prunes 31 = .ok (.if_icmp .le 7, 3) := by decide +kernel
theorem dX6_prunes_34 : decode cX6_prunes 34 = .ok (.iconst 1, 1) := by decide +kernel
theorem dX6_prunes_35 : decode cX6_prunes 35 = .ok (.goto 4, 3) := by decide +kernel
theorem dX6_prunes_38 : decode cX6_prunes 38 = .ok (.iconst 0, 1) := by decide +kernel
theorem dX6_prunes_39 : decode cX6_prunes 39 = .ok (.iadd, 1) := by decide +kernel
theorem dX6_prunes_40 : decode cX6_prunes 40 = .ok (.istore 5, 2) := by decide +kernel
theorem dX6_prunes_42 : decode cX6_prunes 42 = .ok (.iinc 6 1, 3) := by decide +kernel
theorem dX6_prunes_45 : decode cX6_prunes 45 = .ok (.goto (-39), 3) := by decide +kernel
theorem dX6_prunes_48 : decode cX6_prunes 48 = .ok (.iload 4, 2) := by decide +kernel
theorem dX6_prunes_50 : decode cX6_prunes 50 = .ok (.ifCond .eq 10, 3) := by decide +kernel
theorem dX6_prunes_53 : decode cX6_prunes 53 = .ok (.iload 5, 2) := by decide +kernel
theorem dX6_prunes_55 : decode cX6_prunes 55 = .ok (.iload 4, 2) := by decide +kernel
theorem dX6_prunes_57 : decode cX6_prunes 57 = .ok (.if_icmp .ge 5, 3) := by decide +kernel
theorem dX6_prunes_60 : decode cX6_prunes 60 = .ok (.iconst 0, 1) := by decide +kernel
theorem dX6_prunes_61 : decode cX6_prunes 61 = .ok (.ireturn, 1) := by decide +kernel
theorem dX6_prunes_62 : decode cX6_prunes 62 = .ok (.iconst 0, 1) := by decide +kernel
theorem dX6_prunes_63 : decode cX6_prunes 63 = .ok (.istore 6, 2) := by decide +kernel
theorem dX6_prunes_65 : decode cX6_prunes 65 = .ok (.iconst 0, 1) := by decide +kernel
theorem dX6_prunes_66 : decode cX6_prunes 66 = .ok (.istore 7, 2) := by decide +kernel
theorem dX6_prunes_68 : decode cX6_prunes 68 = .ok (.iload 7, 2) := by decide +kernel
theorem dX6_prunes_70 : decode cX6_prunes 70 = .ok (.aload_n 0, 1) := by decide +kernel
theorem dX6_prunes_71 : decode cX6_prunes 71 = .ok (.getfield 92, 3) := by decide +kernel
theorem dX6_prunes_74 : decode cX6_prunes 74 = .ok (.if_icmp .ge 52, 3) := by decide +kernel
theorem dX6_prunes_77 : decode cX6_prunes 77 = .ok (.iload 6, 2) := by decide +kernel
theorem dX6_prunes_79 : decode cX6_prunes 79 = .ok (.iload 7, 2) := by decide +kernel
theorem dX6_prunes_81 : decode cX6_prunes 81 = .ok (.iload_n 1, 1) := by decide +kernel
theorem dX6_prunes_82 : decode cX6_prunes 82 = .ok (.if_icmp .eq 34, 3) := by decide +kernel
theorem dX6_prunes_85 : decode cX6_prunes 85 = .ok (.aload_n 0, 1) := by decide +kernel
theorem dX6_prunes_86 : decode cX6_prunes 86 = .ok (.getfield 44, 3) := by decide +kernel
theorem dX6_prunes_89 : decode cX6_prunes 89 = .ok (.iload 7, 2) := by decide +kernel
theorem dX6_prunes_91 : decode cX6_prunes 91 = .ok (.iaload, 1) := by decide +kernel
theorem dX6_prunes_92 : decode cX6_prunes 92 = .ok (.iload_n 2, 1) := by decide +kernel
theorem dX6_prunes_93 : decode cX6_prunes 93 = .ok (.if_icmp .le 23, 3) := by decide +kernel
theorem dX6_prunes_96 : decode cX6_prunes 96 = .ok (.aload_n 0, 1) := by decide +kernel
theorem dX6_prunes_97 : decode cX6_prunes 97 = .ok (.getfield 47, 3) := by decide +kernel
theorem dX6_prunes_100 : decode cX6_prunes 100 = .ok (.bipush 20, 2) := by decide +kernel
theorem dX6_prunes_102 : decode cX6_prunes 102 = .ok (.iload 7, 2) := by decide +kernel
theorem dX6_prunes_104 : decode cX6_prunes 104 = .ok (.imul, 1) := by decide +kernel
theorem dX6_prunes_105 : decode cX6_prunes 105 = .ok (.iload_n 2, 1) := by decide +kernel
theorem dX6_prunes_106 : decode cX6_prunes 106 = .ok (.iadd, 1) := by decide +kernel
theorem dX6_prunes_107 : decode cX6_prunes 107 = .ok (.iaload, 1) := by decide +kernel
theorem dX6_prunes_108 : decode cX6_prunes 108 = .ok (.iload_n 3, 1) := by decide +kernel
theorem dX6_prunes_109 : decode cX6_prunes 109 = .ok (.if_icmp .le 7, 3) := by decide +kernel
theorem dX6_prunes_112 : decode cX6_prunes 112 = .ok (.iconst 1, 1) := by decide +kernel
theorem dX6_prunes_113 : decode cX6_prunes 113 = .ok (.goto 4, 3) := by decide +kernel
theorem dX6_prunes_116 : decode cX6_prunes 116 = .ok (.iconst 0, 1) := by decide +kernel
theorem dX6_prunes_117 : decode cX6_prunes 117 = .ok (.iadd, 1) := by decide +kernel
theorem dX6_prunes_118 : decode cX6_prunes 118 = .ok (.istore 6, 2) := by decide +kernel
theorem dX6_prunes_120 : decode cX6_prunes 120 = .ok (.iinc 7 1, 3) := by decide +kernel
theorem dX6_prunes_123 : decode cX6_prunes 123 = .ok (.goto (-55), 3) := by decide +kernel
theorem dX6_prunes_126 : decode cX6_prunes 126 = .ok (.iload 5, 2) := by decide +kernel
theorem dX6_prunes_128 : decode cX6_prunes 128 = .ok (.iload 6, 2) := by decide +kernel
theorem dX6_prunes_130 : decode cX6_prunes 130 = .ok (.isub, 1) := by decide +kernel
theorem dX6_prunes_131 : decode cX6_prunes 131 = .ok (.iload 5, 2) := by decide +kernel
theorem dX6_prunes_133 : decode cX6_prunes 133 = .ok (.iconst 1, 1) := by decide +kernel
theorem dX6_prunes_134 : decode cX6_prunes 134 = .ok (.isub, 1) := by decide +kernel
theorem dX6_prunes_135 : decode cX6_prunes 135 = .ok (.iconst 2, 1) := by decide +kernel
theorem dX6_prunes_136 : decode cX6_prunes 136 = .ok (.idiv, 1) := by decide +kernel
theorem dX6_prunes_137 : decode cX6_prunes 137 = .ok (.if_icmp .gt 7, 3) := by decide +kernel
theorem dX6_prunes_140 : decode cX6_prunes 140 = .ok (.iconst 1, 1) := by decide +kernel
theorem dX6_prunes_141 : decode cX6_prunes 141 = .ok (.goto 4, 3) := by decide +kernel
theorem dX6_prunes_144 : decode cX6_prunes 144 = .ok (.iconst 0, 1) := by decide +kernel
theorem dX6_prunes_145 : decode cX6_prunes 145 = .ok (.ireturn, 1) := by decide +kernel
set_option maxRecDepth 20000 in
theorem ggX6_report_X6_noTrial : GoodIn wsX6_report wsX6_noTrial := goodIn_r _ [9, 10, 11, 12, 8, 13, 23, 24, 25, 26, 27, 28, 29, 30, 31, 32, 33, 34, 35, 36, 37, 38, 39, 40, 41, 42, 43, 44, 45, 46, 47, 48, 49, 50, 51, 52, 53] (by decide +kernel) (by decide +kernel)
set_option maxRecDepth 20000 in
theorem gX6_report_X6_noTrial : GoodIn wsX6_report (wsV RX6 162 RX6 yX6_noTrial wsX6_noTrial) := goodIn_app (goodIn_of _ (by decide +kernel)) ggX6_report_X6_noTrial
set_option maxRecDepth 20000 in
theorem ggX6_report_X6_isScore : GoodIn wsX6_report wsX6_isScore := goodIn_r _ [16, 17, 18, 11, 12, 8, 13] (by decide +kernel) (by decide +kernel)
set_option maxRecDepth 20000 in
theorem gX6_report_X6_isScore : GoodIn wsX6_report (va_wsS RX6 166 yX6_isScore wsX6_isScore) := goodIn_app (goodIn_of _ (by decide +kernel)) ggX6_report_X6_isScore
set_option maxRecDepth 20000 in
theorem ggX6_report_X6_in : GoodIn wsX6_report wsX6_in := goodIn_r _ [13] (by decide +kernel) (by decide +kernel)
set_option maxRecDepth 20000 in
theorem gX6_report_X6_in : GoodIn wsX6_report (va_wsS RX6 80 yX6_in wsX6_in) := goodIn_app (goodIn_of _ (by decide +kernel)) ggX6_report_X6_in
set_option maxRecDepth 20000 in
theorem ggX6_report_X6_prunes : GoodIn wsX6_report wsX6_prunes := goodIn_r _ [22, 10, 3, 4, 23, 24, 25, 26, 27, 28, 29, 30, 31, 32, 33, 34, 35, 36, 37, 38, 39, 40, 41, 42, 43, 44, 45, 46, 47, 48, 49, 50, 51, 52, 53] (by decide +kernel) (by decide +kernel)
set_option maxRecDepth 20000 in
theorem gX6_report_X6_prunes : GoodIn wsX6_report (wsV RX6 171 RX6 yX6_prunes wsX6_prunes) := goodIn_app (goodIn_of _ (by decide +kernel)) ggX6_report_X6_prunes
theorem dX6_report_0 : decode cX6_report 0 = .ok (.aload_n 0, 1) := by decide +kernel
theorem dX6_report_1 : decode cX6_report 1 = .ok (.iload_n 1, 1) := by decide +kernel
theorem dX6_report_2 : decode cX6_report 2 = .ok (.invokevirtual 162, 3) := by decide +kernel
theorem dX6_report_5 : decode cX6_report 5 = .ok (.ifCond .ne 22, 3) := by decide +kernel
theorem dX6_report_8 : decode cX6_report 8 = .ok (.iload_n 2, 1) := by decide +kernel
theorem dX6_report_9 : decode cX6_report 9 = .ok (.invokestatic 166, 3) := by decide +kernel
theorem dX6_report_12 : decode cX6_report 12 = .ok (.ifCond .eq 15, 3) := by decide +kernel
theorem dX6_report_15 : decode cX6_report 15 = .ok (.iload_n 3, 1) := by decide +kernel
theorem dX6_report_16 : decode cX6_report 16 = .ok (.i2l, 1) := by decide +kernel
theorem dX6_report_17 : decode cX6_report 17 = .ok (.lconst 0, 1) := by decide +kernel
theorem dX6_report_18 : decode cX6_report 18 = .ok (.ldc2_w 169, 3) := by decide +kernel
theorem dX6_report_21 : decode cX6_report 21 = .ok (.invokestatic 80, 3) := by decide +kernel
theorem dX6_report_24 : decode cX6_report 24 = .ok (.ifCond .ne 5, 3) := by decide +kernel
theorem dX6_report_27 : decode cX6_report 27 = .ok (.iconst (-1), 1) := by decide +kernel
theorem dX6_report_28 : decode cX6_report 28 = .ok (.ireturn, 1) := by decide +kernel
theorem dX6_report_29 : decode cX6_report 29 = .ok (.aload_n 0, 1) := by decide +kernel
theorem dX6_report_30 : decode cX6_report 30 = .ok (.getfield 38, 3) := by decide +kernel
theorem dX6_report_33 : decode cX6_report 33 = .ok (.iload_n 1, 1) := by decide +kernel
theorem dX6_report_34 : decode cX6_report 34 = .ok (.iaload, 1) := by decide +kernel
theorem dX6_report_35 : decode cX6_report 35 = .ok (.ifCond .eq 6, 3) := by decide +kernel
theorem dX6_report_38 : decode cX6_report 38 = .ok (.bipush (-3), 2) := by decide +kernel
theorem dX6_report_40 : decode cX6_report 40 = .ok (.ireturn, 1) := by decide +kernel
theorem dX6_report_41 : decode cX6_report 41 = .ok (.aload_n 0, 1) := by decide +kernel
theorem dX6_report_42 : decode cX6_report 42 = .ok (.getfield 44, 3) := by decide +kernel
theorem dX6_report_45 : decode cX6_report 45 = .ok (.iload_n 1, 1) := by decide +kernel
theorem dX6_report_46 : decode cX6_report 46 = .ok (.iaload, 1) := by decide +kernel
theorem dX6_report_47 : decode cX6_report 47 = .ok (.bipush 20, 2) := by decide +kernel
theorem dX6_report_49 : decode cX6_report 49 = .ok (.if_icmp .ne 6, 3) := by decide +kernel
theorem dX6_report_52 : decode cX6_report 52 = .ok (.bipush (-4), 2) := by decide +kernel
theorem dX6_report_54 : decode cX6_report 54 = .ok (.ireturn, 1) := by decide +kernel
theorem dX6_report_55 : decode cX6_report 55 = .ok (.aload_n 0, 1) := by decide +kernel
theorem dX6_report_56 : decode cX6_report 56 = .ok (.getfield 44, 3) := by decide +kernel
theorem dX6_report_59 : decode cX6_report 59 = .ok (.iload_n 1, 1) := by decide +kernel
theorem dX6_report_60 : decode cX6_report 60 = .ok (.dup2, 1) := by decide +kernel
theorem dX6_report_61 : decode cX6_report 61 = .ok (.iaload, 1) := by decide +kernel
theorem dX6_report_62 : decode cX6_report 62 = .ok (.dup_x2, 1) := by decide +kernel
theorem dX6_report_63 : decode cX6_report 63 = .ok (.iconst 1, 1) := by decide +kernel
theorem dX6_report_64 : decode cX6_report 64 = .ok (.iadd, 1) := by decide +kernel
theorem dX6_report_65 : decode cX6_report 65 = .ok (.iastore, 1) := by decide +kernel
theorem dX6_report_66 : decode cX6_report 66 = .ok (.istore 4, 2) := by decide +kernel
theorem dX6_report_68 : decode cX6_report 68 = .ok (.aload_n 0, 1) := by decide +kernel
theorem dX6_report_69 : decode cX6_report 69 = .ok (.getfield 47, 3) := by decide +kernel
theorem dX6_report_72 : decode cX6_report 72 = .ok (.bipush 20, 2) := by decide +kernel
theorem dX6_report_74 : decode cX6_report 74 = .ok (.iload_n 1, 1) := by decide +kernel
theorem dX6_report_75 : decode cX6_report 75 = .ok (.imul, 1) := by decide +kernel
theorem dX6_report_76 : decode cX6_report 76 = .ok (.iload 4, 2) := by decide +kernel
theorem dX6_report_78 : decode cX6_report 78 = .ok (.iadd, 1) := by decide +kernel
theorem dX6_report_79 : decode cX6_report 79 = .ok (.iload_n 2, 1) := by decide +kernel
theorem dX6_report_80 : decode cX6_report 80 = .ok (.iastore, 1) := by decide +kernel
theorem dX6_report_81 : decode cX6_report 81 = .ok (.aload_n 0, 1) := by decide +kernel
theorem dX6_report_82 : decode cX6_report 82 = .ok (.iload_n 1, 1) := by decide +kernel
theorem dX6_report_83 : decode cX6_report 83 = .ok (.iload 4, 2) := by decide +kernel
theorem dX6_report_85 : decode cX6_report 85 = .ok (.iload_n 2, 1) := by decide +kernel
theorem dX6_report_86 : decode cX6_report 86 = .ok (.iload_n 3, 1) := by decide +kernel
theorem dX6_report_87 : decode cX6_report 87 = .ok (.invokevirtual 171, 3) := by decide +kernel
theorem dX6_report_90 : decode cX6_report 90 = .ok (.ifCond .ne 6, 3) := by decide +kernel
theorem dX6_report_93 : decode cX6_report 93 = .ok (.iload 4, 2) := by decide +kernel
theorem dX6_report_95 : decode cX6_report 95 = .ok (.ireturn, 1) := by decide +kernel
theorem dX6_report_96 : decode cX6_report 96 = .ok (.aload_n 0, 1) := by decide +kernel
theorem dX6_report_97 : decode cX6_report 97 = .ok (.getfield 38, 3) := by decide +kernel
theorem dX6_report_100 : decode cX6_report 100 = .ok (.iload_n 1, 1) := by decide +kernel
theorem dX6_report_101 : decode cX6_report 101 = .ok (.iconst 3, 1) := by decide +kernel
theorem dX6_report_102 : decode cX6_report 102 = .ok (.iastore, 1) := by decide +kernel
theorem dX6_report_103 : decode cX6_report 103 = .ok (.bipush (-10), 2) := by decide +kernel
theorem dX6_report_105 : decode cX6_report 105 = .ok (.iload 4, 2) := by decide +kernel
theorem dX6_report_107 : decode cX6_report 107 = .ok (.isub, 1) := by decide +kernel
theorem dX6_report_108 : decode cX6_report 108 = .ok (.ireturn, 1) := by decide +kernel
set_option maxRecDepth 20000 in
theorem ggX6_told_X6_noTrial : GoodIn wsX6_told wsX6_noTrial := goodIn_r _ [11, 12, 13, 14, 10, 15, 16, 17, 18, 19, 20, 21, 22, 23, 24, 25, 26, 27, 28, 29, 30, 31, 32, 33, 34, 35, 36, 37, 38, 39, 40, 41, 42, 43, 44, 45, 46] (by decide +kernel) (by decide +kernel)
set_option maxRecDepth 20000 in
theorem gX6_told_X6_noTrial : GoodIn wsX6_told (wsV RX6 162 RX6 yX6_noTrial wsX6_noTrial) := goodIn_app (goodIn_of _ (by decide +kernel)) ggX6_told_X6_noTrial
theorem dX6_told_0 : decode cX6_told 0 = .ok (.aload_n 0, 1) := by decide +kernel
theorem dX6_told_1 : decode cX6_told 1 = .ok (.iload_n 1, 1) := by decide +kernel
theorem dX6_told_2 : decode cX6_told 2 = .ok (.invokevirtual 162, 3) := by decide +kernel
theorem dX6_told_5 : decode cX6_told 5 = .ok (.ifCond .eq 5, 3) := by decide +kernel
theorem dX6_told_8 : decode cX6_told 8 = .ok (.iconst (-1), 1) := by decide +kernel
theorem dX6_told_9 : decode cX6_told 9 = .ok (.ireturn, 1) := by decide +kernel
theorem dX6_told_10 : decode cX6_told 10 = .ok (.iload_n 2, 1) := by decide +kernel
theorem dX6_told_11 : decode cX6_told 11 = .ok (.tableswitch 98 0 4 #[33, 40, 47, 54, 83], 33) := by decide +kernel
theorem dX6_told_44 : decode cX6_told 44 = .ok (.aload_n 0, 1) := by decide +kernel
theorem dX6_told_45 : decode cX6_told 45 = .ok (.getfield 38, 3) := by decide +kernel
theorem dX6_told_48 : decode cX6_told 48 = .ok (.iload_n 1, 1) := by decide +kernel
theorem dX6_told_49 : decode cX6_told 49 = .ok (.iaload, 1) := by decide +kernel
theorem dX6_told_50 : decode cX6_told 50 = .ok (.ireturn, 1) := by decide +kernel
theorem dX6_told_51 : decode cX6_told 51 = .ok (.aload_n 0, 1) := by decide +kernel
theorem dX6_told_52 : decode cX6_told 52 = .ok (.getfield 41, 3) := by decide +kernel
theorem dX6_told_55 : decode cX6_told 55 = .ok (.iload_n 1, 1) := by decide +kernel
theorem dX6_told_56 : decode cX6_told 56 = .ok (.iaload, 1) := by decide +kernel
theorem dX6_told_57 : decode cX6_told 57 = .ok (.ireturn, 1) := by decide +kernel
theorem dX6_told_58 : decode cX6_told 58 = .ok (.aload_n 0, 1) := by decide +kernel
theorem dX6_told_59 : decode cX6_told 59 = .ok (.getfield 44, 3) := by decide +kernel
theorem dX6_told_62 : decode cX6_told 62 = .ok (.iload_n 1, 1) := by decide +kernel
theorem dX6_told_63 : decode cX6_told 63 = .ok (.iaload, 1) := by decide +kernel
theorem dX6_told_64 : decode cX6_told 64 = .ok (.ireturn, 1) := by decide +kernel
theorem dX6_told_65 : decode cX6_told 65 = .ok (.aload_n 0, 1) := by decide +kernel
theorem dX6_told_66 : decode cX6_told 66 = .ok (.getfield 57, 3) := by decide +kernel
theorem dX6_told_69 : decode cX6_told 69 = .ok (.iload_n 1, 1) := by decide +kernel
theorem dX6_told_70 : decode cX6_told 70 = .ok (.baload, 1) := by decide +kernel
theorem dX6_told_71 : decode cX6_told 71 = .ok (.ifCond .eq 21, 3) := by decide +kernel
theorem dX6_told_74 : decode cX6_told 74 = .ok (.aload_n 0, 1) := by decide +kernel
theorem dX6_told_75 : decode cX6_told 75 = .ok (.getfield 60, 3) := by decide +kernel
theorem dX6_told_78 : decode cX6_told 78 = .ok (.iload_n 1, 1) := by decide +kernel
theorem dX6_told_79 : decode cX6_told 79 = .ok (.baload, 1) := by decide +kernel
theorem dX6_told_80 : decode cX6_told 80 = .ok (.ifCond .eq 12, 3) := by decide +kernel
theorem dX6_told_83 : decode cX6_told 83 = .ok (.aload_n 0, 1) := by decide +kernel
theorem dX6_told_84 : decode cX6_told 84 = .ok (.getfield 66, 3) := by decide +kernel
theorem dX6_told_87 : decode cX6_told 87 = .ok (.iload_n 1, 1) := by decide +kernel
theorem dX6_told_88 : decode cX6_told 88 = .ok (.iaload, 1) := by decide +kernel
theorem dX6_told_89 : decode cX6_told 89 = .ok (.goto 4, 3) := by decide +kernel
theorem dX6_told_92 : decode cX6_told 92 = .ok (.iconst 0, 1) := by decide +kernel
theorem dX6_told_93 : decode cX6_told 93 = .ok (.ireturn, 1) := by decide +kernel
theorem dX6_told_94 : decode cX6_told 94 = .ok (.aload_n 0, 1) := by decide +kernel
theorem dX6_told_95 : decode cX6_told 95 = .ok (.getfield 57, 3) := by decide +kernel
theorem dX6_told_98 : decode cX6_told 98 = .ok (.iload_n 1, 1) := by decide +kernel
theorem dX6_told_99 : decode cX6_told 99 = .ok (.baload, 1) := by decide +kernel
theorem dX6_told_100 : decode cX6_told 100 = .ok (.ifCond .eq 7, 3) := by decide +kernel
theorem dX6_told_103 : decode cX6_told 103 = .ok (.iconst 1, 1) := by decide +kernel
theorem dX6_told_104 : decode cX6_told 104 = .ok (.goto 4, 3) := by decide +kernel
theorem dX6_told_107 : decode cX6_told 107 = .ok (.iconst 0, 1) := by decide +kernel
theorem dX6_told_108 : decode cX6_told 108 = .ok (.ireturn, 1) := by decide +kernel
theorem dX6_told_109 : decode cX6_told 109 = .ok (.iconst (-1), 1) := by decide +kernel
theorem dX6_told_110 : decode cX6_told 110 = .ok (.ireturn, 1) := by decide +kernel
set_option maxRecDepth 20000 in
theorem ggX6_point_X6_noTrial : GoodIn wsX6_point wsX6_noTrial := goodIn_r _ [7, 8, 9, 10, 6, 11, 12, 13, 14, 15, 16, 17, 18, 19, 20, 21, 22, 23, 24, 25, 26, 27, 28, 29, 30, 31, 32, 33, 34, 35, 36, 37, 38, 39, 40, 41, 42] (by decide +kernel) (by decide +kernel)
set_option maxRecDepth 20000 in
theorem gX6_point_X6_noTrial : GoodIn wsX6_point (wsV RX6 162 RX6 yX6_noTrial wsX6_noTrial) := goodIn_app (goodIn_of _ (by decide +kernel)) ggX6_point_X6_noTrial
theorem dX6_point_0 : decode cX6_point 0 = .ok (.aload_n 0, 1) := by decide +kernel
theorem dX6_point_1 : decode cX6_point 1 = .ok (.iload_n 1, 1) := by decide +kernel
theorem dX6_point_2 : decode cX6_point 2 = .ok (.invokevirtual 162, 3) := by decide +kernel
theorem dX6_point_5 : decode cX6_point 5 = .ok (.ifCond .eq 9, 3) := by decide +kernel
theorem dX6_point_8 : decode cX6_point 8 = .ok (.ldc2_w 84, 3) := by decide +kernel
theorem dX6_point_11 : decode cX6_point 11 = .ok (.goto 9, 3) := by decide +kernel
theorem dX6_point_14 : decode cX6_point 14 = .ok (.aload_n 0, 1) := by decide +kernel
theorem dX6_point_15 : decode cX6_point 15 = .ok (.getfield 35, 3) := by decide +kernel
theorem dX6_point_18 : decode cX6_point 18 = .ok (.iload_n 1, 1) := by decide +kernel
theorem dX6_point_19 : decode cX6_point 19 = .ok (.laload, 1) := by decide +kernel
theorem dX6_point_20 : decode cX6_point 20 = .ok (.lreturn, 1) := by decide +kernel
set_option maxRecDepth 20000 in
theorem ggX6_reported_X6_noTrial : GoodIn wsX6_reported wsX6_noTrial := goodIn_r _ [8, 9, 10, 11, 7, 12, 13, 14, 15, 16, 17, 18, 19, 20, 21, 22, 23, 24, 25, 26, 27, 28, 29, 30, 31, 32, 33, 34, 35, 36, 37, 38, 39, 40, 41, 42, 43] (by decide +kernel) (by decide +kernel)
set_option maxRecDepth 20000 in
theorem gX6_reported_X6_noTrial : GoodIn wsX6_reported (wsV RX6 162 RX6 yX6_noTrial wsX6_noTrial) := goodIn_app (goodIn_of _ (by decide +kernel)) ggX6_reported_X6_noTrial
set_option maxRecDepth 20000 in
theorem ggX6_reported_X6_in : GoodIn wsX6_reported wsX6_in := goodIn_r _ [12] (by decide +kernel) (by decide +kernel)
set_option maxRecDepth 20000 in
theorem gX6_reported_X6_in : GoodIn wsX6_reported (va_wsS RX6 80 yX6_in wsX6_in) := goodIn_app (goodIn_of _ (by decide +kernel)) ggX6_reported_X6_in
theorem dX6_reported_0 : decode cX6_reported 0 = .ok (.aload_n 0, 1) := by decide +kernel
theorem dX6_reported_1 : decode cX6_reported 1 = .ok (.iload_n 1, 1) := by decide +kernel
theorem dX6_reported_2 : decode cX6_reported 2 = .ok (.invokevirtual 162, 3) := by decide +kernel
theorem dX6_reported_5 : decode cX6_reported 5 = .ok (.ifCond .ne 21, 3) := by decide +kernel
theorem dX6_reported_8 : decode cX6_reported 8 = .ok (.iload_n 2, 1) := by decide +kernel
theorem dX6_reported_9 : decode cX6_reported 9 = .ok (.i2l, 1) := by decide +kernel
theorem dX6_reported_10 : decode cX6_reported 10 = .ok (.lconst 0, 1) := by decide +kernel
theorem dX6_reported_11 : decode cX6_reported 11 = .ok (.aload_n 0, 1) := by decide +kernel
theorem dX6_reported_12 : decode cX6_reported 12 = .ok (.getfield 44, 3) := by decide +kernel
theorem dX6_reported_15 : decode cX6_reported 15 = .ok (.iload_n 1, 1) := by decide +kernel
theorem dX6_reported_16 : decode cX6_reported 16 = .ok (.iaload, 1) := by decide +kernel
theorem dX6_reported_17 : decode cX6_reported 17 = .ok (.iconst 1, 1) := by decide +kernel
theorem dX6_reported_18 : decode cX6_reported 18 = .ok (.isub, 1) := by decide +kernel
theorem dX6_reported_19 : decode cX6_reported 19 = .ok (.i2l, 1) := by decide +kernel
theorem dX6_reported_20 : decode cX6_reported 20 = .ok (.invokestatic 80, 3) := by decide +kernel
theorem dX6_reported_23 : decode cX6_reported 23 = .ok (.ifCond .ne 8, 3) := by decide +kernel
theorem dX6_reported_26 : decode cX6_reported 26 = .ok (.ldc 175, 2) := by decide +kernel
theorem dX6_reported_28 : decode cX6_reported 28 = .ok (.goto 14, 3) := by decide +kernel
theorem dX6_reported_31 : decode cX6_reported 31 = .ok (.aload_n 0, 1) := by decide +kernel
theorem dX6_reported_32 : decode cX6_reported 32 = .ok (.getfield 47, 3) := by decide +kernel
theorem dX6_reported_35 : decode cX6_reported 35 = .ok (.bipush 20, 2) := by decide +kernel
theorem dX6_reported_37 : decode cX6_reported 37 = .ok (.iload_n 1, 1) := by decide +kernel
theorem dX6_reported_38 : decode cX6_reported 38 = .ok (.imul, 1) := by decide +kernel
theorem dX6_reported_39 : decode cX6_reported 39 = .ok (.iload_n 2, 1) := by decide +kernel
theorem dX6_reported_40 : decode cX6_reported 40 = .ok (.iadd, 1) := by decide +kernel
theorem dX6_reported_41 : decode cX6_reported 41 = .ok (.iaload, 1) := by decide +kernel
theorem dX6_reported_42 : decode cX6_reported 42 = .ok (.ireturn, 1) := by decide +kernel
theorem dX6_best_0 : decode cX6_best 0 = .ok (.bipush (-2), 2) := by decide +kernel
theorem dX6_best_2 : decode cX6_best 2 = .ok (.istore_n 1, 1) := by decide +kernel
theorem dX6_best_3 : decode cX6_best 3 = .ok (.iconst 0, 1) := by decide +kernel
theorem dX6_best_4 : decode cX6_best 4 = .ok (.istore_n 2, 1) := by decide +kernel
theorem dX6_best_5 : decode cX6_best 5 = .ok (.iload_n 2, 1) := by decide +kernel
theorem dX6_best_6 : decode cX6_best 6 = .ok (.aload_n 0, 1) := by decide +kernel
theorem dX6_best_7 : decode cX6_best 7 = .ok (.getfield 92, 3) := by decide +kernel
theorem dX6_best_10 : decode cX6_best 10 = .ok (.if_icmp .ge 44, 3) := by decide +kernel
theorem dX6_best_13 : decode cX6_best 13 = .ok (.aload_n 0, 1) := by decide +kernel
theorem dX6_best_14 : decode cX6_best 14 = .ok (.getfield 38, 3) := by decide +kernel
theorem dX6_best_17 : decode cX6_best 17 = .ok (.iload_n 2, 1) := by decide +kernel
theorem dX6_best_18 : decode cX6_best 18 = .ok (.iaload, 1) := by decide +kernel
theorem dX6_best_19 : decode cX6_best 19 = .ok (.iconst 1, 1) := by decide +kernel
theorem dX6_best_20 : decode cX6_best 20 = .ok (.if_icmp .ne 26, 3) := by decide +kernel
theorem dX6_best_23 : decode cX6_best 23 = .ok (.iload_n 1, 1) := by decide +kernel
theorem dX6_best_24 : decode cX6_best 24 = .ok (.ifCond .lt 18, 3) := by decide +kernel
theorem dX6_best_27 : decode cX6_best 27 = .ok (.aload_n 0, 1) := by decide +kernel
theorem dX6_best_28 : decode cX6_best 28 = .ok (.getfield 41, 3) := by decide +kernel
theorem dX6_best_31 : decode cX6_best 31 = .ok (.iload_n 2, 1) := by decide +kernel
theorem dX6_best_32 : decode cX6_best 32 = .ok (.iaload, 1) := by decide +kernel
theorem dX6_best_33 : decode cX6_best 33 = .ok (.aload_n 0, 1) := by decide +kernel
theorem dX6_best_34 : decode cX6_best 34 = .ok (.getfield 41, 3) := by decide +kernel
theorem dX6_best_37 : decode cX6_best 37 = .ok (.iload_n 1, 1) := by decide +kernel
theorem dX6_best_38 : decode cX6_best 38 = .ok (.iaload, 1) := by decide +kernel
theorem dX6_best_39 : decode cX6_best 39 = .ok (.if_icmp .le 7, 3) := by decide +kernel
theorem dX6_best_42 : decode cX6_best 42 = .ok (.iload_n 2, 1) := by decide +kernel
theorem dX6_best_43 : decode cX6_best 43 = .ok (.goto 4, 3) := by decide +kernel
theorem dX6_best_46 : decode cX6_best 46 = .ok (.iload_n 1, 1) := by decide +kernel
theorem dX6_best_47 : decode cX6_best 47 = .ok (.istore_n 1, 1) := by decide +kernel
theorem dX6_best_48 : decode cX6_best 48 = .ok (.iinc 2 1, 3) := by decide +kernel
theorem dX6_best_51 : decode cX6_best 51 = .ok (.goto (-46), 3) := by decide +kernel
theorem dX6_best_54 : decode cX6_best 54 = .ok (.iload_n 1, 1) := by decide +kernel
theorem dX6_best_55 : decode cX6_best 55 = .ok (.ireturn, 1) := by decide +kernel
set_option maxRecDepth 20000 in
theorem ggX6_bracket_X6_in : GoodIn wsX6_bracket wsX6_in := goodIn_r _ [16] (by decide +kernel) (by decide +kernel)
set_option maxRecDepth 20000 in
theorem gX6_bracket_X6_in : GoodIn wsX6_bracket (va_wsS RX6 80 yX6_in wsX6_in) := goodIn_app (goodIn_of _ (by decide +kernel)) ggX6_bracket_X6_in
set_option maxRecDepth 20000 in
theorem ggX6_bracket_X6_clear : GoodIn wsX6_bracket wsX6_clear := goodIn_r _ [20, 21, 22, 23, 24, 25, 26, 27, 28, 29, 30, 31, 32, 33, 34, 35, 36, 37, 38, 39, 40, 41, 42, 43, 44, 45, 46, 47, 48, 49, 50, 51, 52, 53, 54] (by decide +kernel) (by decide +kernel)
set_option maxRecDepth 20000 in
theorem gX6_bracket_X6_clear : GoodIn wsX6_bracket (wsV RX6 196 RX6 yX6_clear wsX6_clear) := goodIn_app (goodIn_of _ (by decide +kernel)) ggX6_bracket_X6_clear
theorem dX6_bracket_0 : decode cX6_bracket 0 = .ok (.iload_n 2, 1) := by decide +kernel
theorem dX6_bracket_1 : decode cX6_bracket 1 = .ok (.i2l, 1) := by decide +kernel
theorem dX6_bracket_2 : decode cX6_bracket 2 = .ok (.lconst 1, 1) := by decide +kernel
theorem dX6_bracket_3 : decode cX6_bracket 3 = .ok (.ldc2_w 169, 3) := by decide +kernel
theorem dX6_bracket_6 : decode cX6_bracket 6 = .ok (.invokestatic 80, 3) := by decide +kernel
theorem dX6_bracket_9 : decode cX6_bracket 9 = .ok (.ifCond .eq 46, 3) := by decide +kernel
theorem dX6_bracket_12 : decode cX6_bracket 12 = .ok (.iload_n 1, 1) := by decide +kernel
theorem dX6_bracket_13 : decode cX6_bracket 13 = .ok (.i2l, 1) := by decide +kernel
theorem dX6_bracket_14 : decode cX6_bracket 14 = .ok (.lconst 0, 1) := by decide +kernel
theorem dX6_bracket_15 : decode cX6_bracket 15 = .ok (.aload_n 0, 1) := by decide +kernel
theorem dX6_bracket_16 : decode cX6_bracket 16 = .ok (.getfield 92, 3) := by decide +kernel
theorem dX6_bracket_19 : decode cX6_bracket 19 = .ok (.iload_n 2, 1) := by decide +kernel
theorem dX6_bracket_20 : decode cX6_bracket 20 = .ok (.isub, 1) := by decide +kernel
theorem dX6_bracket_21 : decode cX6_bracket 21 = .ok (.i2l, 1) := by decide +kernel
theorem dX6_bracket_22 : decode cX6_bracket 22 = .ok (.invokestatic 80, 3) := by decide +kernel
theorem dX6_bracket_25 : decode cX6_bracket 25 = .ok (.ifCond .eq 30, 3) := by decide +kernel
theorem dX6_bracket_28 : decode cX6_bracket 28 = .ok (.iload_n 3, 1) := by decide +kernel
theorem dX6_bracket_29 : decode cX6_bracket 29 = .ok (.i2l, 1) := by decide +kernel
theorem dX6_bracket_30 : decode cX6_bracket 30 = .ok (.lconst 1, 1) := by decide +kernel
theorem dX6_bracket_31 : decode cX6_bracket 31 = .ok (.ldc2_w 160, 3) := by decide +kernel
theorem dX6_bracket_34 : decode cX6_bracket 34 = .ok (.invokestatic 80, 3) := by decide +kernel
theorem dX6_bracket_37 : decode cX6_bracket 37 = .ok (.ifCond .eq 18, 3) := by decide +kernel
theorem dX6_bracket_40 : decode cX6_bracket 40 = .ok (.iload 4, 2) := by decide +kernel
theorem dX6_bracket_42 : decode cX6_bracket 42 = .ok (.i2l, 1) := by decide +kernel
theorem dX6_bracket_43 : decode cX6_bracket 43 = .ok (.ldc2_w 129, 3) := by decide +kernel
theorem dX6_bracket_46 : decode cX6_bracket 46 = .ok (.ldc2_w 144, 3) := by decide +kernel
theorem dX6_bracket_49 : decode cX6_bracket 49 = .ok (.invokestatic 80, 3) := by decide +kernel
theorem dX6_bracket_52 : decode cX6_bracket 52 = .ok (.ifCond .ne 5, 3) := by decide +kernel
theorem dX6_bracket_55 : decode cX6_bracket 55 = .ok (.iconst (-1), 1) := by decide +kernel
theorem dX6_bracket_56 : decode cX6_bracket 56 = .ok (.ireturn, 1) := by decide +kernel
theorem dX6_bracket_57 : decode cX6_bracket 57 = .ok (.aload_n 0, 1) := by decide +kernel
theorem dX6_bracket_58 : decode cX6_bracket 58 = .ok (.iconst 1, 1) := by decide +kernel
theorem dX6_bracket_59 : decode cX6_bracket 59 = .ok (.putfield 176, 3) := by decide +kernel
theorem dX6_bracket_62 : decode cX6_bracket 62 = .ok (.aload_n 0, 1) := by decide +kernel
theorem dX6_bracket_63 : decode cX6_bracket 63 = .ok (.iload_n 3, 1) := by decide +kernel
theorem dX6_bracket_64 : decode cX6_bracket 64 = .ok (.putfield 180, 3) := by decide +kernel
theorem dX6_bracket_67 : decode cX6_bracket 67 = .ok (.aload_n 0, 1) := by decide +kernel
theorem dX6_bracket_68 : decode cX6_bracket 68 = .ok (.iload 4, 2) := by decide +kernel
theorem dX6_bracket_70 : decode cX6_bracket 70 = .ok (.putfield 183, 3) := by decide +kernel
theorem dX6_bracket_73 : decode cX6_bracket 73 = .ok (.aload_n 0, 1) := by decide +kernel
theorem dX6_bracket_74 : decode cX6_bracket 74 = .ok (.iconst 0, 1) := by decide +kernel
theorem dX6_bracket_75 : decode cX6_bracket 75 = .ok (.putfield 186, 3) := by decide +kernel
theorem dX6_bracket_78 : decode cX6_bracket 78 = .ok (.aload_n 0, 1) := by decide +kernel
theorem dX6_bracket_79 : decode cX6_bracket 79 = .ok (.iconst 0, 1) := by decide +kernel
theorem dX6_bracket_80 : decode cX6_bracket 80 = .ok (.putfield 189, 3) := by decide +kernel
theorem dX6_bracket_83 : decode cX6_bracket 83 = .ok (.aload_n 0, 1) := by decide +kernel
theorem dX6_bracket_84 : decode cX6_bracket 84 = .ok (.lconst 0, 1) := by decide +kernel
theorem dX6_bracket_85 : decode cX6_bracket 85 = .ok (.putfield 192, 3) := by decide +kernel
theorem dX6_bracket_88 : decode cX6_bracket 88 = .ok (.iconst 0, 1) := by decide +kernel
theorem dX6_bracket_89 : decode cX6_bracket 89 = .ok (.istore 5, 2) := by decide +kernel
theorem dX6_bracket_91 : decode cX6_bracket 91 = .ok (.iload 5, 2) := by decide +kernel
theorem dX6_bracket_93 : decode cX6_bracket 93 = .ok (.bipush 60, 2) := by decide +kernel
theorem dX6_bracket_95 : decode cX6_bracket 95 = .ok (.if_icmp .ge 41, 3) := by decide +kernel
theorem dX6_bracket_98 : decode cX6_bracket 98 = .ok (.aload_n 0, 1) := by decide +kernel
theorem dX6_bracket_99 : decode cX6_bracket 99 = .ok (.getfield 57, 3) := by decide +kernel
theorem dX6_bracket_102 : decode cX6_bracket 102 = .ok (.iload 5, 2) := by decide +kernel
theorem dX6_bracket_104 : decode cX6_bracket 104 = .ok (.iload 5, 2) := by decide +kernel
theorem dX6_bracket_106 : decode cX6_bracket 106 = .ok (.iload_n 1, 1) := by decide +kernel
theorem dX6_bracket_107 : decode cX6_bracket 107 = .ok (.if_icmp .lt 15, 3) := by decide +kernel
theorem dX6_bracket_110 : decode cX6_bracket 110 = .ok (.iload 5, 2) := by decide +kernel
theorem dX6_bracket_112 : decode cX6_bracket 112 = .ok (.iload_n 1, 1) := by decide +kernel
theorem dX6_bracket_113 : decode cX6_bracket 113 = .ok (.iload_n 2, 1) := by decide +kernel
theorem dX6_bracket_114 : decode cX6_bracket 114 = .ok (.iadd, 1) := by decide +kernel
theorem dX6_bracket_115 : decode cX6_bracket 115 = .ok (.if_icmp .ge 7, 3) := by decide +kernel
theorem dX6_bracket_118 : decode cX6_bracket 118 = .ok (.iconst 1, 1) := by decide +kernel
theorem dX6_bracket_119 : decode cX6_bracket 119 = .ok (.goto 4, 3) := by decide +kernel
theorem dX6_bracket_122 : decode cX6_bracket 122 = .ok (.iconst 0, 1) := by decide +kernel
theorem dX6_bracket_123 : decode cX6_bracket 123 = .ok (.bastore, 1) := by decide +kernel
theorem dX6_bracket_124 : decode cX6_bracket 124 = .ok (.aload_n 0, 1) := by decide +kernel
theorem dX6_bracket_125 : decode cX6_bracket 125 = .ok (.iload 5, 2) := by decide +kernel
theorem dX6_bracket_127 : decode cX6_bracket 127 = .ok (.invokevirtual 196, 3) := by decide +kernel
theorem dX6_bracket_130 : decode cX6_bracket 130 = .ok (.iinc 5 1, 3) := by decide +kernel
theorem dX6_bracket_133 : decode cX6_bracket 133 = .ok (.goto (-42), 3) := by decide +kernel
theorem dX6_bracket_136 : decode cX6_bracket 136 = .ok (.iconst 1, 1) := by decide +kernel
theorem dX6_bracket_137 : decode cX6_bracket 137 = .ok (.ireturn, 1) := by decide +kernel
theorem dX6_clear_0 : decode cX6_clear 0 = .ok (.aload_n 0, 1) := by decide +kernel
theorem dX6_clear_1 : decode cX6_clear 1 = .ok (.getfield 60, 3) := by decide +kernel
theorem dX6_clear_4 : decode cX6_clear 4 = .ok (.iload_n 1, 1) := by decide +kernel
theorem dX6_clear_5 : decode cX6_clear 5 = .ok (.iconst 0, 1) := by decide +kernel
theorem dX6_clear_6 : decode cX6_clear 6 = .ok (.bastore, 1) := by decide +kernel
theorem dX6_clear_7 : decode cX6_clear 7 = .ok (.aload_n 0, 1) := by decide +kernel
theorem dX6_clear_8 : decode cX6_clear 8 = .ok (.getfield 63, 3) := by decide +kernel
theorem dX6_clear_11 : decode cX6_clear 11 = .ok (.iload_n 1, 1) := by decide +kernel
theorem dX6_clear_12 : decode cX6_clear 12 = .ok (.iconst 0, 1) := by decide +kernel
theorem dX6_clear_13 : decode cX6_clear 13 = .ok (.bastore, 1) := by decide +kernel
theorem dX6_clear_14 : decode cX6_clear 14 = .ok (.aload_n 0, 1) := by decide +kernel
theorem dX6_clear_15 : decode cX6_clear 15 = .ok (.getfield 66, 3) := by decide +kernel
theorem dX6_clear_18 : decode cX6_clear 18 = .ok (.iload_n 1, 1) := by decide +kernel
theorem dX6_clear_19 : decode cX6_clear 19 = .ok (.iconst 0, 1) := by decide +kernel
theorem dX6_clear_20 : decode cX6_clear 20 = .ok (.iastore, 1) := by decide +kernel
theorem dX6_clear_21 : decode cX6_clear 21 = .ok (.return_, 1) := by decide +kernel
theorem dX6_open_0 : decode cX6_open 0 = .ok (.iconst 0, 1) := by decide +kernel
theorem dX6_open_1 : decode cX6_open 1 = .ok (.istore_n 1, 1) := by decide +kernel
theorem dX6_open_2 : decode cX6_open 2 = .ok (.iconst 0, 1) := by decide +kernel
theorem dX6_open_3 : decode cX6_open 3 = .ok (.istore_n 2, 1) := by decide +kernel
theorem dX6_open_4 : decode cX6_open 4 = .ok (.iload_n 2, 1) := by decide +kernel
theorem dX6_open_5 : decode cX6_open 5 = .ok (.bipush 60, 2) := by decide +kernel
theorem dX6_open_7 : decode cX6_open 7 = .ok (.if_icmp .ge 44, 3) := by decide +kernel
theorem dX6_open_10 : decode cX6_open 10 = .ok (.iload_n 1, 1) := by decide +kernel
theorem dX6_open_11 : decode cX6_open 11 = .ok (.aload_n 0, 1) := by decide +kernel
theorem dX6_open_12 : decode cX6_open 12 = .ok (.getfield 57, 3) := by decide +kernel
theorem dX6_open_15 : decode cX6_open 15 = .ok (.iload_n 2, 1) := by decide +kernel
theorem dX6_open_16 : decode cX6_open 16 = .ok (.baload, 1) := by decide +kernel
theorem dX6_open_17 : decode cX6_open 17 = .ok (.ifCond .eq 25, 3) := by decide +kernel
theorem dX6_open_20 : decode cX6_open 20 = .ok (.aload_n 0, 1) := by decide +kernel
theorem dX6_open_21 : decode cX6_open 21 = .ok (.getfield 60, 3) := by decide +kernel
theorem dX6_open_24 : decode cX6_open 24 = .ok (.iload_n 2, 1) := by decide +kernel
theorem dX6_open_25 : decode cX6_open 25 = .ok (.baload, 1) := by decide +kernel
theorem dX6_open_26 : decode cX6_open 26 = .ok (.ifCond .ne 16, 3) := by decide +kernel
theorem dX6_open_29 : decode cX6_open 29 = .ok (.aload_n 0, 1) := by decide +kernel
theorem dX6_open_30 : decode cX6_open 30 = .ok (.getfield 63, 3) := by decide +kernel
theorem dX6_open_33 : decode cX6_open 33 = .ok (.iload_n 2, 1) := by decide +kernel
theorem dX6_open_34 : decode cX6_open 34 = .ok (.baload, 1) := by decide +kernel
theorem dX6_open_35 : decode cX6_open 35 = .ok (.ifCond .ne 7, 3) := by decide +kernel
theorem dX6_open_38 : decode cX6_open 38 = .ok (.iconst 1, 1) := by decide +kernel
theorem dX6_open_39 : decode cX6_open 39 = .ok (.goto 4, 3) := by decide +kernel
theorem dX6_open_42 : decode cX6_open 42 = .ok (.iconst 0, 1) := by decide +kernel
theorem dX6_open_43 : decode cX6_open 43 = .ok (.iadd, 1) := by decide +kernel
theorem dX6_open_44 : decode cX6_open 44 = .ok (.istore_n 1, 1) := by decide +kernel
theorem dX6_open_45 : decode cX6_open 45 = .ok (.iinc 2 1, 3) := by decide +kernel
theorem dX6_open_48 : decode cX6_open 48 = .ok (.goto (-44), 3) := by decide +kernel
theorem dX6_open_51 : decode cX6_open 51 = .ok (.iload_n 1, 1) := by decide +kernel
theorem dX6_open_52 : decode cX6_open 52 = .ok (.ireturn, 1) := by decide +kernel
theorem dX6_inside_0 : decode cX6_inside 0 = .ok (.iconst 0, 1) := by decide +kernel
theorem dX6_inside_1 : decode cX6_inside 1 = .ok (.istore_n 1, 1) := by decide +kernel
theorem dX6_inside_2 : decode cX6_inside 2 = .ok (.iconst 0, 1) := by decide +kernel
theorem dX6_inside_3 : decode cX6_inside 3 = .ok (.istore_n 2, 1) := by decide +kernel
theorem dX6_inside_4 : decode cX6_inside 4 = .ok (.iload_n 2, 1) := by decide +kernel
theorem dX6_inside_5 : decode cX6_inside 5 = .ok (.bipush 60, 2) := by decide +kernel
theorem dX6_inside_7 : decode cX6_inside 7 = .ok (.if_icmp .ge 26, 3) := by decide +kernel
theorem dX6_inside_10 : decode cX6_inside 10 = .ok (.iload_n 1, 1) := by decide +kernel
theorem dX6_inside_11 : decode cX6_inside 11 = .ok (.aload_n 0, 1) := by decide +kernel
theorem dX6_inside_12 : decode cX6_inside 12 = .ok (.getfield 57, 3) := by decide +kernel
theorem dX6_inside_15 : decode cX6_inside 15 = .ok (.iload_n 2, 1) := by decide +kernel
theorem dX6_inside_16 : decode cX6_inside 16 = .ok (.baload, 1) := by decide +kernel
theorem dX6_inside_17 : decode cX6_inside 17 = .ok (.ifCond .eq 7, 3) := by decide +kernel
theorem dX6_inside_20 : decode cX6_inside 20 = .ok (.iconst 1, 1) := by decide +kernel
theorem dX6_inside_21 : decode cX6_inside 21 = .ok (.goto 4, 3) := by decide +kernel
theorem dX6_inside_24 : decode cX6_inside 24 = .ok (.iconst 0, 1) := by decide +kernel
theorem dX6_inside_25 : decode cX6_inside 25 = .ok (.iadd, 1) := by decide +kernel
theorem dX6_inside_26 : decode cX6_inside 26 = .ok (.istore_n 1, 1) := by decide +kernel
theorem dX6_inside_27 : decode cX6_inside 27 = .ok (.iinc 2 1, 3) := by decide +kernel
theorem dX6_inside_30 : decode cX6_inside 30 = .ok (.goto (-26), 3) := by decide +kernel
theorem dX6_inside_33 : decode cX6_inside 33 = .ok (.iload_n 1, 1) := by decide +kernel
theorem dX6_inside_34 : decode cX6_inside 34 = .ok (.ireturn, 1) := by decide +kernel
set_option maxRecDepth 20000 in
theorem ggX6_result_X6_noTrial : GoodIn wsX6_result wsX6_noTrial := goodIn_r _ [12, 13, 14, 15, 11, 16, 26, 27, 28, 29, 30, 31, 32, 33, 34, 35, 36, 37, 38, 39, 40, 41, 42, 43, 44, 45, 46, 47, 48, 49, 50, 51, 52, 53, 54, 55, 56] (by decide +kernel) (by decide +kernel)
set_option maxRecDepth 20000 in
theorem gX6_result_X6_noTrial : GoodIn wsX6_result (wsV RX6 162 RX6 yX6_noTrial wsX6_noTrial) := goodIn_app (goodIn_of _ (by decide +kernel)) ggX6_result_X6_noTrial
set_option maxRecDepth 20000 in
theorem ggX6_result_X6_isScore : GoodIn wsX6_result wsX6_isScore := goodIn_r _ [19, 20, 21, 14, 15, 11, 16] (by decide +kernel) (by decide +kernel)
set_option maxRecDepth 20000 in
theorem gX6_result_X6_isScore : GoodIn wsX6_result (va_wsS RX6 166 yX6_isScore wsX6_isScore) := goodIn_app (goodIn_of _ (by decide +kernel)) ggX6_result_X6_isScore
set_option maxRecDepth 20000 in
theorem ggX6_result_X6_open : GoodIn wsX6_result wsX6_open := goodIn_r _ [25, 2, 3, 4, 26, 27, 28, 29, 30, 31, 32, 33, 34, 35, 36, 37, 38, 39, 40, 41, 42, 43, 44, 45, 46, 47, 48, 49, 50, 51, 52, 53, 54, 55, 56] (by decide +kernel) (by decide +kernel)
set_option maxRecDepth 20000 in
theorem gX6_result_X6_open : GoodIn wsX6_result (wsV RX6 200 RX6 yX6_open wsX6_open) := goodIn_app (goodIn_of _ (by decide +kernel)) ggX6_result_X6_open
theorem dX6_result_0 : decode cX6_result 0 = .ok (.aload_n 0, 1) := by decide +kernel
theorem dX6_result_1 : decode cX6_result 1 = .ok (.iload_n 1, 1) := by decide +kernel
theorem dX6_result_2 : decode cX6_result 2 = .ok (.invokevirtual 162, 3) := by decide +kernel
theorem dX6_result_5 : decode cX6_result 5 = .ok (.ifCond .ne 14, 3) := by decide +kernel
theorem dX6_result_8 : decode cX6_result 8 = .ok (.iload_n 3, 1) := by decide +kernel
theorem dX6_result_9 : decode cX6_result 9 = .ok (.ifCond .eq 12, 3) := by decide +kernel
theorem dX6_result_12 : decode cX6_result 12 = .ok (.iload_n 2, 1) := by decide +kernel
theorem dX6_result_13 : decode cX6_result 13 = .ok (.invokestatic 166, 3) := by decide +kernel
theorem dX6_result_16 : decode cX6_result 16 = .ok (.ifCond .ne 5, 3) := by decide +kernel
theorem dX6_result_19 : decode cX6_result 19 = .ok (.iconst (-1), 1) := by decide +kernel
theorem dX6_result_20 : decode cX6_result 20 = .ok (.ireturn, 1) := by decide +kernel
theorem dX6_result_21 : decode cX6_result 21 = .ok (.aload_n 0, 1) := by decide +kernel
theorem dX6_result_22 : decode cX6_result 22 = .ok (.getfield 176, 3) := by decide +kernel
theorem dX6_result_25 : decode cX6_result 25 = .ok (.ifCond .eq 30, 3) := by decide +kernel
theorem dX6_result_28 : decode cX6_result 28 = .ok (.aload_n 0, 1) := by decide +kernel
theorem dX6_result_29 : decode cX6_result 29 = .ok (.getfield 57, 3) := by decide +kernel
theorem dX6_result_32 : decode cX6_result 32 = .ok (.iload_n 1, 1) := by decide +kernel
theorem dX6_result_33 : decode cX6_result 33 = .ok (.baload, 1) := by decide +kernel
theorem dX6_result_34 : decode cX6_result 34 = .ok (.ifCond .eq 21, 3) := by decide +kernel
theorem dX6_result_37 : decode cX6_result 37 = .ok (.aload_n 0, 1) := by decide +kernel
theorem dX6_result_38 : decode cX6_result 38 = .ok (.getfield 60, 3) := by decide +kernel
theorem dX6_result_41 : decode cX6_result 41 = .ok (.iload_n 1, 1) := by decide +kernel
theorem dX6_result_42 : decode cX6_result 42 = .ok (.baload, 1) := by decide +kernel
theorem dX6_result_43 : decode cX6_result 43 = .ok (.ifCond .ne 12, 3) := by decide +kernel
theorem dX6_result_46 : decode cX6_result 46 = .ok (.aload_n 0, 1) := by decide +kernel
theorem dX6_result_47 : decode cX6_result 47 = .ok (.getfield 63, 3) := by decide +kernel
theorem dX6_result_50 : decode cX6_result 50 = .ok (.iload_n 1, 1) := by decide +kernel
theorem dX6_result_51 : decode cX6_result 51 = .ok (.baload, 1) := by decide +kernel
theorem dX6_result_52 : decode cX6_result 52 = .ok (.ifCond .eq 6, 3) := by decide +kernel
theorem dX6_result_55 : decode cX6_result 55 = .ok (.bipush (-3), 2) := by decide +kernel
theorem dX6_result_57 : decode cX6_result 57 = .ok (.ireturn, 1) := by decide +kernel
theorem dX6_result_58 : decode cX6_result 58 = .ok (.aload_n 0, 1) := by decide +kernel
theorem dX6_result_59 : decode cX6_result 59 = .ok (.getfield 60, 3) := by decide +kernel
theorem dX6_result_62 : decode cX6_result 62 = .ok (.iload_n 1, 1) := by decide +kernel
theorem dX6_result_63 : decode cX6_result 63 = .ok (.iload_n 3, 1) := by decide +kernel
theorem dX6_result_64 : decode cX6_result 64 = .ok (.bastore, 1) := by decide +kernel
theorem dX6_result_65 : decode cX6_result 65 = .ok (.aload_n 0, 1) := by decide +kernel
theorem dX6_result_66 : decode cX6_result 66 = .ok (.getfield 63, 3) := by decide +kernel
theorem dX6_result_69 : decode cX6_result 69 = .ok (.iload_n 1, 1) := by decide +kernel
theorem dX6_result_70 : decode cX6_result 70 = .ok (.iload_n 3, 1) := by decide +kernel
theorem dX6_result_71 : decode cX6_result 71 = .ok (.ifCond .ne 7, 3) := by decide +kernel
theorem dX6_result_74 : decode cX6_result 74 = .ok (.iconst 1, 1) := by decide +kernel
theorem dX6_result_75 : decode cX6_result 75 = .ok (.goto 4, 3) := by decide +kernel
theorem dX6_result_78 : decode cX6_result 78 = .ok (.iconst 0, 1) := by decide +kernel
theorem dX6_result_79 : decode cX6_result 79 = .ok (.bastore, 1) := by decide +kernel
theorem dX6_result_80 : decode cX6_result 80 = .ok (.aload_n 0, 1) := by decide +kernel
theorem dX6_result_81 : decode cX6_result 81 = .ok (.getfield 66, 3) := by decide +kernel
theorem dX6_result_84 : decode cX6_result 84 = .ok (.iload_n 1, 1) := by decide +kernel
theorem dX6_result_85 : decode cX6_result 85 = .ok (.iload_n 3, 1) := by decide +kernel
theorem dX6_result_86 : decode cX6_result 86 = .ok (.ifCond .eq 7, 3) := by decide +kernel
theorem dX6_result_89 : decode cX6_result 89 = .ok (.iload_n 2, 1) := by decide +kernel
theorem dX6_result_90 : decode cX6_result 90 = .ok (.goto 4, 3) := by decide +kernel
theorem dX6_result_93 : decode cX6_result 93 = .ok (.iconst 0, 1) := by decide +kernel
theorem dX6_result_94 : decode cX6_result 94 = .ok (.iastore, 1) := by decide +kernel
theorem dX6_result_95 : decode cX6_result 95 = .ok (.aload_n 0, 1) := by decide +kernel
theorem dX6_result_96 : decode cX6_result 96 = .ok (.dup, 1) := by decide +kernel
theorem dX6_result_97 : decode cX6_result 97 = .ok (.getfield 192, 3) := by decide +kernel
theorem dX6_result_100 : decode cX6_result 100 = .ok (.aload_n 0, 1) := by decide +kernel
theorem dX6_result_101 : decode cX6_result 101 = .ok (.getfield 180, 3) := by decide +kernel
theorem dX6_result_104 : decode cX6_result 104 = .ok (.i2l, 1) := by decide +kernel
theorem dX6_result_105 : decode cX6_result 105 = .ok (.ladd, 1) := by decide +kernel
theorem dX6_result_106 : decode cX6_result 106 = .ok (.putfield 192, 3) := by decide +kernel
theorem dX6_result_109 : decode cX6_result 109 = .ok (.aload_n 0, 1) := by decide +kernel
theorem dX6_result_110 : decode cX6_result 110 = .ok (.invokevirtual 200, 3) := by decide +kernel
theorem dX6_result_113 : decode cX6_result 113 = .ok (.ireturn, 1) := by decide +kernel
set_option maxRecDepth 20000 in
theorem ggX6_halve_X6_open : GoodIn wsX6_halve wsX6_open := goodIn_r _ [16, 5, 6, 17, 26, 27, 28, 29, 30, 31, 32, 33, 34, 35, 36, 37, 38, 39, 40, 41, 42, 43, 44, 45, 46, 47, 48, 49, 50, 51, 52, 53, 54, 55, 56] (by decide +kernel) (by decide +kernel)
set_option maxRecDepth 20000 in
theorem gX6_halve_X6_open : GoodIn wsX6_halve (wsV RX6 200 RX6 yX6_open wsX6_open) := goodIn_app (goodIn_of _ (by decide +kernel)) ggX6_halve_X6_open
set_option maxRecDepth 20000 in
theorem ggX6_halve_X6_inside : GoodIn wsX6_halve wsX6_inside := goodIn_r _ [21, 5, 26, 27, 28, 29, 30, 31, 32, 33, 34, 35, 36, 37, 38, 39, 40, 41, 42, 43, 44, 45, 46, 47, 48, 49, 50, 51, 52, 53, 54, 55, 56] (by decide +kernel) (by decide +kernel)
set_option maxRecDepth 20000 in
theorem gX6_halve_X6_inside : GoodIn wsX6_halve (wsV RX6 204 RX6 yX6_inside wsX6_inside) := goodIn_app (goodIn_of _ (by decide +kernel)) ggX6_halve_X6_inside
set_option maxRecDepth 20000 in
theorem ggX6_halve_X6_clear : GoodIn wsX6_halve wsX6_clear := goodIn_r _ [25, 6, 17, 7, 26, 27, 28, 29, 30, 31, 32, 33, 34, 35, 36, 37, 38, 39, 40, 41, 42, 43, 44, 45, 46, 47, 48, 49, 50, 51, 52, 53, 54, 55, 56] (by decide +kernel) (by decide +kernel)
set_option maxRecDepth 20000 in
theorem gX6_halve_X6_clear : GoodIn wsX6_halve (wsV RX6 196 RX6 yX6_clear wsX6_clear) := goodIn_app (goodIn_of _ (by decide +kernel)) ggX6_halve_X6_clear
theorem dX6_halve_0 : decode cX6_halve 0 = .ok (.aload_n 0, 1) := by decide +kernel
theorem dX6_halve_1 : decode cX6_halve 1 = .ok (.getfield 176, 3) := by decide +kernel
theorem dX6_halve_4 : decode cX6_halve 4 = .ok (.ifCond .eq 17, 3) := by decide +kernel
theorem dX6_halve_7 : decode cX6_halve 7 = .ok (.aload_n 0, 1) := by decide +kernel
theorem dX6_halve_8 : decode cX6_halve 8 = .ok (.getfield 189, 3) := by decide +kernel
theorem dX6_halve_11 : decode cX6_halve 11 = .ok (.ifCond .ne 10, 3) := by decide +kernel
theorem dX6_halve_14 : decode cX6_halve 14 = .ok (.aload_n 0, 1) := by decide +kernel
theorem dX6_halve_15 : decode cX6_halve 15 = .ok (.invokevirtual 200, 3) := by decide +kernel
theorem dX6_halve_18 : decode cX6_halve 18 = .ok (.ifCond .le 6, 3) := by decide +kernel
theorem dX6_halve_21 : decode cX6_halve 21 = .ok (.bipush (-3), 2) := by decide +kernel
theorem dX6_halve_23 : decode cX6_halve 23 = .ok (.ireturn, 1) := by decide +kernel
theorem dX6_halve_24 : decode cX6_halve 24 = .ok (.aload_n 0, 1) := by decide +kernel
theorem dX6_halve_25 : decode cX6_halve 25 = .ok (.invokevirtual 204, 3) := by decide +kernel
theorem dX6_halve_28 : decode cX6_halve 28 = .ok (.aload_n 0, 1) := by decide +kernel
theorem dX6_halve_29 : decode cX6_halve 29 = .ok (.getfield 183, 3) := by decide +kernel
theorem dX6_halve_32 : decode cX6_halve 32 = .ok (.idiv, 1) := by decide +kernel
theorem dX6_halve_33 : decode cX6_halve 33 = .ok (.istore_n 1, 1) := by decide +kernel
theorem dX6_halve_34 : decode cX6_halve 34 = .ok (.iload_n 1, 1) := by decide +kernel
theorem dX6_halve_35 : decode cX6_halve 35 = .ok (.iconst 1, 1) := by decide +kernel
theorem dX6_halve_36 : decode cX6_halve 36 = .ok (.if_icmp .ge 7, 3) := by decide +kernel
theorem dX6_halve_39 : decode cX6_halve 39 = .ok (.iconst 1, 1) := by decide +kernel
theorem dX6_halve_40 : decode cX6_halve 40 = .ok (.goto 4, 3) := by decide +kernel
theorem dX6_halve_43 : decode cX6_halve 43 = .ok (.iload_n 1, 1) := by decide +kernel
theorem dX6_halve_44 : decode cX6_halve 44 = .ok (.istore_n 1, 1) := by decide +kernel
theorem dX6_halve_45 : decode cX6_halve 45 = .ok (.iconst 0, 1) := by decide +kernel
theorem dX6_halve_46 : decode cX6_halve 46 = .ok (.istore_n 2, 1) := by decide +kernel
theorem dX6_halve_47 : decode cX6_halve 47 = .ok (.iload_n 2, 1) := by decide +kernel
theorem dX6_halve_48 : decode cX6_halve 48 = .ok (.bipush 60, 2) := by decide +kernel
theorem dX6_halve_50 : decode cX6_halve 50 = .ok (.if_icmp .ge 16, 3) := by decide +kernel
theorem dX6_halve_53 : decode cX6_halve 53 = .ok (.aload_n 0, 1) := by decide +kernel
theorem dX6_halve_54 : decode cX6_halve 54 = .ok (.getfield 50, 3) := by decide +kernel
theorem dX6_halve_57 : decode cX6_halve 57 = .ok (.iload_n 2, 1) := by decide +kernel
theorem dX6_halve_58 : decode cX6_halve 58 = .ok (.iconst 0, 1) := by decide +kernel
theorem dX6_halve_59 : decode cX6_halve 59 = .ok (.bastore, 1) := by decide +kernel
theorem dX6_halve_60 : decode cX6_halve 60 = .ok (.iinc 2 1, 3) := by decide +kernel
theorem dX6_halve_63 : decode cX6_halve 63 = .ok (.goto (-16), 3) := by decide +kernel
theorem dX6_halve_66 : decode cX6_halve 66 = .ok (.iconst 0, 1) := by decide +kernel
theorem dX6_halve_67 : decode cX6_halve 67 = .ok (.istore_n 2, 1) := by decide +kernel
theorem dX6_halve_68 : decode cX6_halve 68 = .ok (.iload_n 2, 1) := by decide +kernel
theorem dX6_halve_69 : decode cX6_halve 69 = .ok (.iload_n 1, 1) := by decide +kernel
theorem dX6_halve_70 : decode cX6_halve 70 = .ok (.if_icmp .ge 96, 3) := by decide +kernel
theorem dX6_halve_73 : decode cX6_halve 73 = .ok (.bipush (-2), 2) := by decide +kernel
theorem dX6_halve_75 : decode cX6_halve 75 = .ok (.istore_n 3, 1) := by decide +kernel
theorem dX6_halve_76 : decode cX6_halve 76 = .ok (.iconst 0, 1) := by decide +kernel
theorem dX6_halve_77 : decode cX6_halve 77 = .ok (.istore 4, 2) := by decide +kernel
theorem dX6_halve_79 : decode cX6_halve 79 = .ok (.iload 4, 2) := by decide +kernel
theorem dX6_halve_81 : decode cX6_halve 81 = .ok (.bipush 60, 2) := by decide +kernel
theorem dX6_halve_83 : decode cX6_halve 83 = .ok (.if_icmp .ge 66, 3) := by decide +kernel
theorem dX6_halve_86 : decode cX6_halve 86 = .ok (.aload_n 0, 1) := by decide +kernel
theorem dX6_halve_87 : decode cX6_halve 87 = .ok (.getfield 57, 3) := by decide +kernel
theorem dX6_halve_90 : decode cX6_halve 90 = .ok (.iload 4, 2) := by decide +kernel
theorem dX6_halve_92 : decode cX6_halve 92 = .ok (.baload, 1) := by decide +kernel
theorem dX6_halve_93 : decode cX6_halve 93 = .ok (.ifCond .eq 48, 3) := by decide +kernel
theorem dX6_halve_96 : decode cX6_halve 96 = .ok (.aload_n 0, 1) := by decide +kernel
theorem dX6_halve_97 : decode cX6_halve 97 = .ok (.getfield 60, 3) := by decide +kernel
theorem dX6_halve_100 : decode cX6_halve 100 = .ok (.iload 4, 2) := by decide +kernel
theorem dX6_halve_102 : decode cX6_halve 102 = .ok (.baload, 1) := by decide +kernel
theorem dX6_halve_103 : decode cX6_halve 103 = .ok (.ifCond .eq 38, 3) := by decide +kernel
theorem dX6_halve_106 : decode cX6_halve 106 = .ok (.aload_n 0, 1) := by decide +kernel
theorem dX6_halve_107 : decode cX6_halve 107 = .ok (.getfield 50, 3) := by decide +kernel
theorem dX6_halve_110 : decode cX6_halve 110 = .ok (.iload 4, 2) := by decide +kernel
theorem dX6_halve_112 : decode cX6_halve 112 = .ok (.baload, 1) := by decide +kernel
theorem dX6_halve_113 : decode cX6_halve 113 = .ok (.ifCond .ne 28, 3) := by decide +kernel
theorem dX6_halve_116 : decode cX6_halve 116 = .ok (.iload_n 3, 1) := by decide +kernel
theorem dX6_halve_117 : decode cX6_halve 117 = .ok (.ifCond .lt 19, 3) := by decide +kernel
theorem dX6_halve_120 : decode cX6_halve 120 = .ok (.aload_n 0, 1) := by decide +kernel
theorem dX6_halve_121 : decode cX6_halve 121 = .ok (.getfield 66, 3) := by decide +kernel
theorem dX6_halve_124 : decode cX6_halve 124 = .ok (.iload 4, 2) := by decide +kernel
theorem dX6_halve_126 : decode cX6_halve 126 = .ok (.iaload, 1) := by decide +kernel
theorem dX6_halve_127 : decode cX6_halve 127 = .ok (.aload_n 0, 1) := by decide +kernel
theorem dX6_halve_128 : decode cX6_halve 128 = .ok (.getfield 66, 3) := by decide +kernel
theorem dX6_halve_131 : decode cX6_halve 131 = .ok (.iload_n 3, 1) := by decide +kernel
theorem dX6_halve_132 : decode cX6_halve 132 = .ok (.iaload, 1) := by decide +kernel
theorem dX6_halve_133 : decode cX6_halve 133 = .ok (.if_icmp .le 8, 3) := by decide +kernel
theorem dX6_halve_136 : decode cX6_halve 136 = .ok (.iload 4, 2) := by decide +kernel
theorem dX6_halve_138 : decode cX6_halve 138 = .ok (.goto 4, 3) := by decide +kernel
theorem dX6_halve_141 : decode cX6_halve 141 = .ok (.iload_n 3, 1) := by decide +kernel
theorem dX6_halve_142 : decode cX6_halve 142 = .ok (.istore_n 3, 1) := by decide +kernel
theorem dX6_halve_143 : decode cX6_halve 143 = .ok (.iinc 4 1, 3) := by decide +kernel
theorem dX6_halve_146 : decode cX6_halve 146 = .ok (.goto (-67), 3) := by decide +kernel
theorem dX6_halve_149 : decode cX6_halve 149 = .ok (.iload_n 3, 1) := by decide +kernel
theorem dX6_halve_150 : decode cX6_halve 150 = .ok (.ifCond .lt 10, 3) := by decide +kernel
theorem dX6_halve_153 : decode cX6_halve 153 = .ok (.aload_n 0, 1) := by decide +kernel
theorem dX6_halve_154 : decode cX6_halve 154 = .ok (.getfield 50, 3) := by decide +kernel
theorem dX6_halve_157 : decode cX6_halve 157 = .ok (.iload_n 3, 1) := by decide +kernel
theorem dX6_halve_158 : decode cX6_halve 158 = .ok (.iconst 1, 1) := by decide +kernel
theorem dX6_halve_159 : decode cX6_halve 159 = .ok (.bastore, 1) := by decide +kernel
theorem dX6_halve_160 : decode cX6_halve 160 = .ok (.iinc 2 1, 3) := by decide +kernel
theorem dX6_halve_163 : decode cX6_halve 163 = .ok (.goto (-95), 3) := by decide +kernel
theorem dX6_halve_166 : decode cX6_halve 166 = .ok (.iconst 0, 1) := by decide +kernel
theorem dX6_halve_167 : decode cX6_halve 167 = .ok (.istore_n 2, 1) := by decide +kernel
theorem dX6_halve_168 : decode cX6_halve 168 = .ok (.iload_n 2, 1) := by decide +kernel
theorem dX6_halve_169 : decode cX6_halve 169 = .ok (.bipush 60, 2) := by decide +kernel
theorem dX6_halve_171 : decode cX6_halve 171 = .ok (.if_icmp .ge 26, 3) := by decide +kernel
theorem dX6_halve_174 : decode cX6_halve 174 = .ok (.aload_n 0, 1) := by decide +kernel
theorem dX6_halve_175 : decode cX6_halve 175 = .ok (.getfield 57, 3) := by decide +kernel
theorem dX6_halve_178 : decode cX6_halve 178 = .ok (.iload_n 2, 1) := by decide +kernel
theorem dX6_halve_179 : decode cX6_halve 179 = .ok (.aload_n 0, 1) := by decide +kernel
theorem dX6_halve_180 : decode cX6_halve 180 = .ok (.getfield 50, 3) := by decide +kernel
theorem dX6_halve_183 : decode cX6_halve 183 = .ok (.iload_n 2, 1) := by decide +kernel
theorem dX6_halve_184 : decode cX6_halve 184 = .ok (.baload, 1) := by decide +kernel
theorem dX6_halve_185 : decode cX6_halve 185 = .ok (.bastore, 1) := by decide +kernel
theorem dX6_halve_186 : decode cX6_halve 186 = .ok (.aload_n 0, 1) := by decide +kernel
theorem dX6_halve_187 : decode cX6_halve 187 = .ok (.iload_n 2, 1) := by decide +kernel
theorem dX6_halve_188 : decode cX6_halve 188 = .ok (.invokevirtual 196, 3) := by decide +kernel
theorem dX6_halve_191 : decode cX6_halve 191 = .ok (.iinc 2 1, 3) := by decide +kernel
theorem dX6_halve_194 : decode cX6_halve 194 = .ok (.goto (-26), 3) := by decide +kernel
theorem dX6_halve_197 : decode cX6_halve 197 = .ok (.aload_n 0, 1) := by decide +kernel
theorem dX6_halve_198 : decode cX6_halve 198 = .ok (.getfield 180, 3) := by decide +kernel
theorem dX6_halve_201 : decode cX6_halve 201 = .ok (.i2l, 1) := by decide +kernel
theorem dX6_halve_202 : decode cX6_halve 202 = .ok (.aload_n 0, 1) := by decide +kernel
theorem dX6_halve_203 : decode cX6_halve 203 = .ok (.getfield 183, 3) := by decide +kernel
theorem dX6_halve_206 : decode cX6_halve 206 = .ok (.i2l, 1) := by decide +kernel
theorem dX6_halve_207 : decode cX6_halve 207 = .ok (.lmul, 1) := by decide +kernel
theorem dX6_halve_208 : decode cX6_halve 208 = .ok (.lstore_n 2, 1) := by decide +kernel
theorem dX6_halve_209 : decode cX6_halve 209 = .ok (.aload_n 0, 1) := by decide +kernel
theorem dX6_halve_210 : decode cX6_halve 210 = .ok (.lload_n 2, 1) := by decide +kernel
theorem dX6_halve_211 : decode cX6_halve 211 = .ok (.ldc2_w 207, 3) := by decide +kernel
theorem dX6_halve_214 : decode cX6_halve 214 = .ok (.lcmp, 1) := by decide +kernel
theorem dX6_halve_215 : decode cX6_halve 215 = .ok (.ifCond .le 8, 3) := by decide +kernel
theorem dX6_halve_218 : decode cX6_halve 218 = .ok (.ldc 209, 2) := by decide +kernel
theorem dX6_halve_220 : decode cX6_halve 220 = .ok (.goto 5, 3) := by decide +kernel
theorem dX6_halve_223 : decode cX6_halve 223 = .ok (.lload_n 2, 1) := by decide +kernel
theorem dX6_halve_224 : decode cX6_halve 224 = .ok (.l2i, 1) := by decide +kernel
theorem dX6_halve_225 : decode cX6_halve 225 = .ok (.putfield 180, 3) := by decide +kernel
theorem dX6_halve_228 : decode cX6_halve 228 = .ok (.aload_n 0, 1) := by decide +kernel
theorem dX6_halve_229 : decode cX6_halve 229 = .ok (.dup, 1) := by decide +kernel
theorem dX6_halve_230 : decode cX6_halve 230 = .ok (.getfield 186, 3) := by decide +kernel
theorem dX6_halve_233 : decode cX6_halve 233 = .ok (.iconst 1, 1) := by decide +kernel
theorem dX6_halve_234 : decode cX6_halve 234 = .ok (.iadd, 1) := by decide +kernel
theorem dX6_halve_235 : decode cX6_halve 235 = .ok (.putfield 186, 3) := by decide +kernel
theorem dX6_halve_238 : decode cX6_halve 238 = .ok (.aload_n 0, 1) := by decide +kernel
theorem dX6_halve_239 : decode cX6_halve 239 = .ok (.aload_n 0, 1) := by decide +kernel
theorem dX6_halve_240 : decode cX6_halve 240 = .ok (.invokevirtual 204, 3) := by decide +kernel
theorem dX6_halve_243 : decode cX6_halve 243 = .ok (.iconst 2, 1) := by decide +kernel
theorem dX6_halve_244 : decode cX6_halve 244 = .ok (.if_icmp .ge 7, 3) := by decide +kernel
theorem dX6_halve_247 : decode cX6_halve 247 = .ok (.iconst 1, 1) := by decide +kernel
theorem dX6_halve_248 : decode cX6_halve 248 = .ok (.goto 4, 3) := by decide +kernel
theorem dX6_halve_251 : decode cX6_halve 251 = .ok (.iconst 0, 1) := by decide +kernel
theorem dX6_halve_252 : decode cX6_halve 252 = .ok (.putfield 189, 3) := by decide +kernel
theorem dX6_halve_255 : decode cX6_halve 255 = .ok (.aload_n 0, 1) := by decide +kernel
theorem dX6_halve_256 : decode cX6_halve 256 = .ok (.invokevirtual 204, 3) := by decide +kernel
theorem dX6_halve_259 : decode cX6_halve 259 = .ok (.ireturn, 1) := by decide +kernel
set_option maxRecDepth 20000 in
theorem ggX6_round_X6_in : GoodIn wsX6_round wsX6_in := goodIn_r _ [9] (by decide +kernel) (by decide +kernel)
set_option maxRecDepth 20000 in
theorem gX6_round_X6_in : GoodIn wsX6_round (va_wsS RX6 80 yX6_in wsX6_in) := goodIn_app (goodIn_of _ (by decide +kernel)) ggX6_round_X6_in
set_option maxRecDepth 20000 in
theorem ggX6_round_X6_inside : GoodIn wsX6_round wsX6_inside := goodIn_r _ [13, 14, 15, 16, 17, 18, 19, 20, 21, 22, 23, 24, 25, 26, 27, 28, 29, 30, 31, 32, 33, 34, 35, 36, 37, 38, 39, 40, 41, 42, 43, 44, 45] (by decide +kernel) (by decide +kernel)
set_option maxRecDepth 20000 in
theorem gX6_round_X6_inside : GoodIn wsX6_round (wsV RX6 204 RX6 yX6_inside wsX6_inside) := goodIn_app (goodIn_of _ (by decide +kernel)) ggX6_round_X6_inside
theorem dX6_round_0 : decode cX6_round 0 = .ok (.iload_n 1, 1) := by decide +kernel
theorem dX6_round_1 : decode cX6_round 1 = .ok (.i2l, 1) := by decide +kernel
theorem dX6_round_2 : decode cX6_round 2 = .ok (.lconst 0, 1) := by decide +kernel
theorem dX6_round_3 : decode cX6_round 3 = .ok (.ldc2_w 210, 3) := by decide +kernel
theorem dX6_round_6 : decode cX6_round 6 = .ok (.invokestatic 80, 3) := by decide +kernel
theorem dX6_round_9 : decode cX6_round 9 = .ok (.ifCond .ne 5, 3) := by decide +kernel
theorem dX6_round_12 : decode cX6_round 12 = .ok (.iconst (-1), 1) := by decide +kernel
theorem dX6_round_13 : decode cX6_round 13 = .ok (.ireturn, 1) := by decide +kernel
theorem dX6_round_14 : decode cX6_round 14 = .ok (.aload_n 0, 1) := by decide +kernel
theorem dX6_round_15 : decode cX6_round 15 = .ok (.getfield 176, 3) := by decide +kernel
theorem dX6_round_18 : decode cX6_round 18 = .ok (.ifCond .ne 6, 3) := by decide +kernel
theorem dX6_round_21 : decode cX6_round 21 = .ok (.bipush (-2), 2) := by decide +kernel
theorem dX6_round_23 : decode cX6_round 23 = .ok (.ireturn, 1) := by decide +kernel
theorem dX6_round_24 : decode cX6_round 24 = .ok (.iload_n 1, 1) := by decide +kernel
theorem dX6_round_25 : decode cX6_round 25 = .ok (.ifCond .ne 10, 3) := by decide +kernel
theorem dX6_round_28 : decode cX6_round 28 = .ok (.aload_n 0, 1) := by decide +kernel
theorem dX6_round_29 : decode cX6_round 29 = .ok (.invokevirtual 204, 3) := by decide +kernel
theorem dX6_round_32 : decode cX6_round 32 = .ok (.goto 39, 3) := by decide +kernel
theorem dX6_round_35 : decode cX6_round 35 = .ok (.iload_n 1, 1) := by decide +kernel
theorem dX6_round_36 : decode cX6_round 36 = .ok (.iconst 1, 1) := by decide +kernel
theorem dX6_round_37 : decode cX6_round 37 = .ok (.if_icmp .ne 10, 3) := by decide +kernel
theorem dX6_round_40 : decode cX6_round 40 = .ok (.aload_n 0, 1) := by decide +kernel
theorem dX6_round_41 : decode cX6_round 41 = .ok (.getfield 186, 3) := by decide +kernel
theorem dX6_round_44 : decode cX6_round 44 = .ok (.goto 27, 3) := by decide +kernel
theorem dX6_round_47 : decode cX6_round 47 = .ok (.iload_n 1, 1) := by decide +kernel
theorem dX6_round_48 : decode cX6_round 48 = .ok (.iconst 2, 1) := by decide +kernel
theorem dX6_round_49 : decode cX6_round 49 = .ok (.if_icmp .ne 10, 3) := by decide +kernel
theorem dX6_round_52 : decode cX6_round 52 = .ok (.aload_n 0, 1) := by decide +kernel
theorem dX6_round_53 : decode cX6_round 53 = .ok (.getfield 180, 3) := by decide +kernel
theorem dX6_round_56 : decode cX6_round 56 = .ok (.goto 15, 3) := by decide +kernel
theorem dX6_round_59 : decode cX6_round 59 = .ok (.aload_n 0, 1) := by decide +kernel
theorem dX6_round_60 : decode cX6_round 60 = .ok (.getfield 189, 3) := by decide +kernel
theorem dX6_round_63 : decode cX6_round 63 = .ok (.ifCond .eq 7, 3) := by decide +kernel
theorem dX6_round_66 : decode cX6_round 66 = .ok (.iconst 1, 1) := by decide +kernel
theorem dX6_round_67 : decode cX6_round 67 = .ok (.goto 4, 3) := by decide +kernel
theorem dX6_round_70 : decode cX6_round 70 = .ok (.iconst 0, 1) := by decide +kernel
theorem dX6_round_71 : decode cX6_round 71 = .ok (.ireturn, 1) := by decide +kernel
theorem dX6_cost_0 : decode cX6_cost 0 = .ok (.aload_n 0, 1) := by decide +kernel
theorem dX6_cost_1 : decode cX6_cost 1 = .ok (.getfield 192, 3) := by decide +kernel
theorem dX6_cost_4 : decode cX6_cost 4 = .ok (.lreturn, 1) := by decide +kernel
set_option maxRecDepth 20000 in
theorem ggX6_plan_X6_in : GoodIn wsX6_plan wsX6_in := goodIn_r _ [8] (by decide +kernel) (by decide +kernel)
set_option maxRecDepth 20000 in
theorem gX6_plan_X6_in : GoodIn wsX6_plan (va_wsS RX6 80 yX6_in wsX6_in) := goodIn_app (goodIn_of _ (by decide +kernel)) ggX6_plan_X6_in
theorem dX6_plan_0 : decode cX6_plan 0 = .ok (.iload_n 1, 1) := by decide +kernel
theorem dX6_plan_1 : decode cX6_plan 1 = .ok (.i2l, 1) := by decide +kernel
theorem dX6_plan_2 : decode cX6_plan 2 = .ok (.lconst 1, 1) := by decide +kernel
theorem dX6_plan_3 : decode cX6_plan 3 = .ok (.ldc2_w 160, 3) := by decide +kernel
theorem dX6_plan_6 : decode cX6_plan 6 = .ok (.invokestatic 80, 3) := by decide +kernel
theorem dX6_plan_9 : decode cX6_plan 9 = .ok (.ifCond .eq 37, 3) := by decide +kernel
theorem dX6_plan_12 : decode cX6_plan 12 = .ok (.iload_n 2, 1) := by decide +kernel
theorem dX6_plan_13 : decode cX6_plan 13 = .ok (.i2l, 1) := by decide +kernel
theorem dX6_plan_14 : decode cX6_plan 14 = .ok (.ldc2_w 129, 3) := by decide +kernel
theorem dX6_plan_17 : decode cX6_plan 17 = .ok (.ldc2_w 144, 3) := by decide +kernel
theorem dX6_plan_20 : decode cX6_plan 20 = .ok (.invokestatic 80, 3) := by decide +kernel
theorem dX6_plan_23 : decode cX6_plan 23 = .ok (.ifCond .eq 23, 3) := by decide +kernel
theorem dX6_plan_26 : decode cX6_plan 26 = .ok (.iload 4, 2) := by decide +kernel
theorem dX6_plan_28 : decode cX6_plan 28 = .ok (.i2l, 1) := by decide +kernel
theorem dX6_plan_29 : decode cX6_plan 29 = .ok (.lconst 0, 1) := by decide +kernel
theorem dX6_plan_30 : decode cX6_plan 30 = .ok (.iload_n 3, 1) := by decide +kernel
theorem dX6_plan_31 : decode cX6_plan 31 = .ok (.iconst (-1), 1) := by decide +kernel
theorem dX6_plan_32 : decode cX6_plan 32 = .ok (.if_icmp .ne 7, 3) := by decide +kernel
theorem dX6_plan_35 : decode cX6_plan 35 = .ok (.lconst 0, 1) := by decide +kernel
theorem dX6_plan_36 : decode cX6_plan 36 = .ok (.goto 4, 3) := by decide +kernel
theorem dX6_plan_39 : decode cX6_plan 39 = .ok (.lconst 1, 1) := by decide +kernel
theorem dX6_plan_40 : decode cX6_plan 40 = .ok (.invokestatic 80, 3) := by decide +kernel
theorem dX6_plan_43 : decode cX6_plan 43 = .ok (.ifCond .ne 5, 3) := by decide +kernel
theorem dX6_plan_46 : decode cX6_plan 46 = .ok (.iconst (-1), 1) := by decide +kernel
theorem dX6_plan_47 : decode cX6_plan 47 = .ok (.ireturn, 1) := by decide +kernel
theorem dX6_plan_48 : decode cX6_plan 48 = .ok (.iconst 0, 1) := by decide +kernel
theorem dX6_plan_49 : decode cX6_plan 49 = .ok (.istore 5, 2) := by decide +kernel
theorem dX6_plan_51 : decode cX6_plan 51 = .ok (.iload_n 2, 1) := by decide +kernel
theorem dX6_plan_52 : decode cX6_plan 52 = .ok (.i2l, 1) := by decide +kernel
theorem dX6_plan_53 : decode cX6_plan 53 = .ok (.lstore 6, 2) := by decide +kernel
theorem dX6_plan_55 : decode cX6_plan 55 = .ok (.lload 6, 2) := by decide +kernel
theorem dX6_plan_57 : decode cX6_plan 57 = .ok (.iload_n 1, 1) := by decide +kernel
theorem dX6_plan_58 : decode cX6_plan 58 = .ok (.i2l, 1) := by decide +kernel
theorem dX6_plan_59 : decode cX6_plan 59 = .ok (.lcmp, 1) := by decide +kernel
theorem dX6_plan_60 : decode cX6_plan 60 = .ok (.ifCond .gt 16, 3) := by decide +kernel
theorem dX6_plan_63 : decode cX6_plan 63 = .ok (.lload 6, 2) := by decide +kernel
theorem dX6_plan_65 : decode cX6_plan 65 = .ok (.iload_n 2, 1) := by decide +kernel
theorem dX6_plan_66 : decode cX6_plan 66 = .ok (.i2l, 1) := by decide +kernel
theorem dX6_plan_67 : decode cX6_plan 67 = .ok (.lmul, 1) := by decide +kernel
theorem dX6_plan_68 : decode cX6_plan 68 = .ok (.lstore 6, 2) := by decide +kernel
theorem dX6_plan_70 : decode cX6_plan 70 = .ok (.iinc 5 1, 3) := by decide +kernel
theorem dX6_plan_73 : decode cX6_plan 73 = .ok (.goto (-18), 3) := by decide +kernel
theorem dX6_plan_76 : decode cX6_plan 76 = .ok (.iload_n 3, 1) := by decide +kernel
theorem dX6_plan_77 : decode cX6_plan 77 = .ok (.i2l, 1) := by decide +kernel
theorem dX6_plan_78 : decode cX6_plan 78 = .ok (.ldc2_w 84, 3) := by decide +kernel
theorem dX6_plan_81 : decode cX6_plan 81 = .ok (.iload 5, 2) := by decide +kernel
theorem dX6_plan_83 : decode cX6_plan 83 = .ok (.i2l, 1) := by decide +kernel
theorem dX6_plan_84 : decode cX6_plan 84 = .ok (.invokestatic 80, 3) := by decide +kernel
theorem dX6_plan_87 : decode cX6_plan 87 = .ok (.ifCond .ne 5, 3) := by decide +kernel
theorem dX6_plan_90 : decode cX6_plan 90 = .ok (.iconst (-1), 1) := by decide +kernel
theorem dX6_plan_91 : decode cX6_plan 91 = .ok (.ireturn, 1) := by decide +kernel
theorem dX6_plan_92 : decode cX6_plan 92 = .ok (.lconst 1, 1) := by decide +kernel
theorem dX6_plan_93 : decode cX6_plan 93 = .ok (.lstore 6, 2) := by decide +kernel
theorem dX6_plan_95 : decode cX6_plan 95 = .ok (.iconst 0, 1) := by decide +kernel
theorem dX6_plan_96 : decode cX6_plan 96 = .ok (.istore 8, 2) := by decide +kernel
theorem dX6_plan_98 : decode cX6_plan 98 = .ok (.iload 8, 2) := by decide +kernel
theorem dX6_plan_100 : decode cX6_plan 100 = .ok (.iload_n 3, 1) := by decide +kernel
theorem dX6_plan_101 : decode cX6_plan 101 = .ok (.if_icmp .ge 16, 3) := by decide +kernel
theorem dX6_plan_104 : decode cX6_plan 104 = .ok (.lload 6, 2) := by decide +kernel
theorem dX6_plan_106 : decode cX6_plan 106 = .ok (.iload_n 2, 1) := by decide +kernel
theorem dX6_plan_107 : decode cX6_plan 107 = .ok (.i2l, 1) := by decide +kernel
theorem dX6_plan_108 : decode cX6_plan 108 = .ok (.lmul, 1) := by decide +kernel
theorem dX6_plan_109 : decode cX6_plan 109 = .ok (.lstore 6, 2) := by decide +kernel
theorem dX6_plan_111 : decode cX6_plan 111 = .ok (.iinc 8 1, 3) := by decide +kernel
theorem dX6_plan_114 : decode cX6_plan 114 = .ok (.goto (-16), 3) := by decide +kernel
theorem dX6_plan_117 : decode cX6_plan 117 = .ok (.iload_n 3, 1) := by decide +kernel
theorem dX6_plan_118 : decode cX6_plan 118 = .ok (.ifCond .ge 8, 3) := by decide +kernel
theorem dX6_plan_121 : decode cX6_plan 121 = .ok (.iload 5, 2) := by decide +kernel
theorem dX6_plan_123 : decode cX6_plan 123 = .ok (.goto 34, 3) := by decide +kernel
theorem dX6_plan_126 : decode cX6_plan 126 = .ok (.iload 4, 2) := by decide +kernel
theorem dX6_plan_128 : decode cX6_plan 128 = .ok (.ifCond .ne 23, 3) := by decide +kernel
theorem dX6_plan_131 : decode cX6_plan 131 = .ok (.iload 5, 2) := by decide +kernel
theorem dX6_plan_133 : decode cX6_plan 133 = .ok (.iconst 1, 1) := by decide +kernel
theorem dX6_plan_134 : decode cX6_plan 134 = .ok (.iadd, 1) := by decide +kernel
theorem dX6_plan_135 : decode cX6_plan 135 = .ok (.i2l, 1) := by decide +kernel
theorem dX6_plan_136 : decode cX6_plan 136 = .ok (.lload 6, 2) := by decide +kernel
theorem dX6_plan_138 : decode cX6_plan 138 = .ok (.lmul, 1) := by decide +kernel
theorem dX6_plan_139 : decode cX6_plan 139 = .ok (.iload_n 3, 1) := by decide +kernel
theorem dX6_plan_140 : decode cX6_plan 140 = .ok (.i2l, 1) := by decide +kernel
theorem dX6_plan_141 : decode cX6_plan 141 = .ok (.ladd, 1) := by decide +kernel
theorem dX6_plan_142 : decode cX6_plan 142 = .ok (.iload_n 3, 1) := by decide +kernel
theorem dX6_plan_143 : decode cX6_plan 143 = .ok (.iconst 1, 1) := by decide +kernel
theorem dX6_plan_144 : decode cX6_plan 144 = .ok (.iadd, 1) := by decide +kernel
theorem dX6_plan_145 : decode cX6_plan 145 = .ok (.i2l, 1) := by decide +kernel
theorem dX6_plan_146 : decode cX6_plan 146 = .ok (.ldiv, 1) := by decide +kernel
theorem dX6_plan_147 : decode cX6_plan 147 = .ok (.l2i, 1) := by decide +kernel
theorem dX6_plan_148 : decode cX6_plan 148 = .ok (.goto 9, 3) := by decide +kernel
theorem dX6_plan_151 : decode cX6_plan 151 = .ok (.iload_n 1, 1) := by decide +kernel
theorem dX6_plan_152 : decode cX6_plan 152 = .ok (.i2l, 1) := by decide +kernel
theorem dX6_plan_153 : decode cX6_plan 153 = .ok (.lload 6, 2) := by decide +kernel
theorem dX6_plan_155 : decode cX6_plan 155 = .ok (.ldiv, 1) := by decide +kernel
theorem dX6_plan_156 : decode cX6_plan 156 = .ok (.l2i, 1) := by decide +kernel
theorem dX6_plan_157 : decode cX6_plan 157 = .ok (.ireturn, 1) := by decide +kernel
set_option maxRecDepth 20000 in
theorem ggX6_folds_X6_in : GoodIn wsX6_folds wsX6_in := goodIn_r _ [13] (by decide +kernel) (by decide +kernel)
set_option maxRecDepth 20000 in
theorem gX6_folds_X6_in : GoodIn wsX6_folds (va_wsS RX6 80 yX6_in wsX6_in) := goodIn_app (goodIn_of _ (by decide +kernel)) ggX6_folds_X6_in
set_option maxRecDepth 20000 in
theorem ggX6_folds_X6_hash : GoodIn wsX6_folds wsX6_hash := goodIn_r _ [16, 17, 18, 19] (by decide +kernel) (by decide +kernel)
set_option maxRecDepth 20000 in
theorem gX6_folds_X6_hash : GoodIn wsX6_folds (va_wsS RX6 4 yX6_hash wsX6_hash) := goodIn_app (goodIn_of _ (by decide +kernel)) ggX6_folds_X6_hash
theorem dX6_folds_0 : decode cX6_folds 0 = .ok (.iload_n 1, 1) := by decide +kernel
theorem dX6_folds_1 : decode cX6_folds 1 = .ok (.i2l, 1) := by decide +kernel
theorem dX6_folds_2 : decode cX6_folds 2 = .ok (.lconst 1, 1) := by decide +kernel
theorem dX6_folds_3 : decode cX6_folds 3 = .ok (.ldc2_w 212, 3) := by decide +kernel
theorem dX6_folds_6 : decode cX6_folds 6 = .ok (.invokestatic 80, 3) := by decide +kernel
theorem dX6_folds_9 : decode cX6_folds 9 = .ok (.ifCond .eq 31, 3) := by decide +kernel
theorem dX6_folds_12 : decode cX6_folds 12 = .ok (.iload_n 2, 1) := by decide +kernel
theorem dX6_folds_13 : decode cX6_folds 13 = .ok (.i2l, 1) := by decide +kernel
theorem dX6_folds_14 : decode cX6_folds 14 = .ok (.ldc2_w 129, 3) := by decide +kernel
theorem dX6_folds_17 : decode cX6_folds 17 = .ok (.ldc2_w 214, 3) := by decide +kernel
theorem dX6_folds_20 : decode cX6_folds 20 = .ok (.invokestatic 80, 3) := by decide +kernel
theorem dX6_folds_23 : decode cX6_folds 23 = .ok (.ifCond .eq 17, 3) := by decide +kernel
theorem dX6_folds_26 : decode cX6_folds 26 = .ok (.iload_n 3, 1) := by decide +kernel
theorem dX6_folds_27 : decode cX6_folds 27 = .ok (.i2l, 1) := by decide +kernel
theorem dX6_folds_28 : decode cX6_folds 28 = .ok (.ldc2_w 129, 3) := by decide +kernel
theorem dX6_folds_31 : decode cX6_folds 31 = .ok (.ldc2_w 214, 3) := by decide +kernel
theorem dX6_folds_34 : decode cX6_folds 34 = .ok (.invokestatic 80, 3) := by decide +kernel
theorem dX6_folds_37 : decode cX6_folds 37 = .ok (.ifCond .ne 5, 3) := by decide +kernel
theorem dX6_folds_40 : decode cX6_folds 40 = .ok (.iconst (-1), 1) := by decide +kernel
theorem dX6_folds_41 : decode cX6_folds 41 = .ok (.ireturn, 1) := by decide +kernel
theorem dX6_folds_42 : decode cX6_folds 42 = .ok (.aload_n 0, 1) := by decide +kernel
theorem dX6_folds_43 : decode cX6_folds 43 = .ok (.iload_n 1, 1) := by decide +kernel
theorem dX6_folds_44 : decode cX6_folds 44 = .ok (.putfield 216, 3) := by decide +kernel
theorem dX6_folds_47 : decode cX6_folds 47 = .ok (.aload_n 0, 1) := by decide +kernel
theorem dX6_folds_48 : decode cX6_folds 48 = .ok (.iload_n 2, 1) := by decide +kernel
theorem dX6_folds_49 : decode cX6_folds 49 = .ok (.putfield 219, 3) := by decide +kernel
theorem dX6_folds_52 : decode cX6_folds 52 = .ok (.aload_n 0, 1) := by decide +kernel
theorem dX6_folds_53 : decode cX6_folds 53 = .ok (.iload_n 3, 1) := by decide +kernel
theorem dX6_folds_54 : decode cX6_folds 54 = .ok (.putfield 222, 3) := by decide +kernel
theorem dX6_folds_57 : decode cX6_folds 57 = .ok (.iconst 0, 1) := by decide +kernel
theorem dX6_folds_58 : decode cX6_folds 58 = .ok (.istore 5, 2) := by decide +kernel
theorem dX6_folds_60 : decode cX6_folds 60 = .ok (.iload 5, 2) := by decide +kernel
theorem dX6_folds_62 : decode cX6_folds 62 = .ok (.iload_n 1, 1) := by decide +kernel
theorem dX6_folds_63 : decode cX6_folds 63 = .ok (.if_icmp .ge 86, 3) := by decide +kernel
theorem dX6_folds_66 : decode cX6_folds 66 = .ok (.aload_n 0, 1) := by decide +kernel
theorem dX6_folds_67 : decode cX6_folds 67 = .ok (.getfield 69, 3) := by decide +kernel
theorem dX6_folds_70 : decode cX6_folds 70 = .ok (.iload 5, 2) := by decide +kernel
theorem dX6_folds_72 : decode cX6_folds 72 = .ok (.iconst 0, 1) := by decide +kernel
theorem dX6_folds_73 : decode cX6_folds 73 = .ok (.iastore, 1) := by decide +kernel
theorem dX6_folds_74 : decode cX6_folds 74 = .ok (.iconst 0, 1) := by decide +kernel
theorem dX6_folds_75 : decode cX6_folds 75 = .ok (.istore 6, 2) := by decide +kernel
theorem dX6_folds_77 : decode cX6_folds 77 = .ok (.iload 6, 2) := by decide +kernel
theorem dX6_folds_79 : decode cX6_folds 79 = .ok (.iload_n 1, 1) := by decide +kernel
theorem dX6_folds_80 : decode cX6_folds 80 = .ok (.if_icmp .ge 63, 3) := by decide +kernel
theorem dX6_folds_83 : decode cX6_folds 83 = .ok (.iload 4, 2) := by decide +kernel
theorem dX6_folds_85 : decode cX6_folds 85 = .ok (.iload 5, 2) := by decide +kernel
theorem dX6_folds_87 : decode cX6_folds 87 = .ok (.invokestatic 4, 3) := by decide +kernel
theorem dX6_folds_90 : decode cX6_folds 90 = .ok (.istore 7, 2) := by decide +kernel
theorem dX6_folds_92 : decode cX6_folds 92 = .ok (.iload 4, 2) := by decide +kernel
theorem dX6_folds_94 : decode cX6_folds 94 = .ok (.iload 6, 2) := by decide +kernel
theorem dX6_folds_96 : decode cX6_folds 96 = .ok (.invokestatic 4, 3) := by decide +kernel
theorem dX6_folds_99 : decode cX6_folds 99 = .ok (.istore 8, 2) := by decide +kernel
theorem dX6_folds_101 : decode cX6_folds 101 = .ok (.aload_n 0, 1) := by decide +kernel
theorem dX6_folds_102 : decode cX6_folds 102 = .ok (.getfield 69, 3) := by decide +kernel
theorem dX6_folds_105 : decode cX6_folds 105 = .ok (.iload 5, 2) := by decide +kernel
theorem dX6_folds_107 : decode cX6_folds 107 = .ok (.dup2, 1) := by decide +kernel
theorem dX6_folds_108 : decode cX6_folds 108 = .ok (.iaload, 1) := by decide +kernel
theorem dX6_folds_109 : decode cX6_folds 109 = .ok (.iload 8, 2) := by decide +kernel
theorem dX6_folds_111 : decode cX6_folds 111 = .ok (.iload 7, 2) := by decide +kernel
theorem dX6_folds_113 : decode cX6_folds 113 = .ok (.if_icmp .lt 17, 3) := by decide +kernel
theorem dX6_folds_116 : decode cX6_folds 116 = .ok (.iload 8, 2) := by decide +kernel
theorem dX6_folds_118 : decode cX6_folds 118 = .ok (.iload 7, 2) := by decide +kernel
theorem dX6_folds_120 : decode cX6_folds 120 = .ok (.if_icmp .ne 14, 3) := by decide +kernel
theorem dX6_folds_123 : decode cX6_folds 123 = .ok (.iload 6, 2) := by decide +kernel
theorem dX6_folds_125 : decode cX6_folds 125 = .ok (.iload 5, 2) := by decide +kernel
theorem dX6_folds_127 : decode cX6_folds 127 = .ok (.if_icmp .ge 7, 3) := by decide +kernel
theorem dX6_folds_130 : decode cX6_folds 130 = .ok (.iconst 1, 1) := by decide +kernel
theorem dX6_folds_131 : decode cX6_folds 131 = .ok (.goto 4, 3) := by decide +kernel
theorem dX6_folds_134 : decode cX6_folds 134 = .ok (.iconst 0, 1) := by decide +kernel
theorem dX6_folds_135 : decode cX6_folds 135 = .ok (.iadd, 1) := by decide +kernel
theorem dX6_folds_136 : decode cX6_folds 136 = .ok (.iastore, 1) := by decide +kernel
theorem dX6_folds_137 : decode cX6_folds 137 = .ok (.iinc 6 1, 3) := by decide +kernel
theorem dX6_folds_140 : decode cX6_folds 140 = .ok (.goto (-63), 3) := by decide +kernel
theorem dX6_folds_143 : decode cX6_folds 143 = .ok (.iinc 5 1, 3) := by decide +kernel
theorem dX6_folds_146 : decode cX6_folds 146 = .ok (.goto (-86), 3) := by decide +kernel
theorem dX6_folds_149 : decode cX6_folds 149 = .ok (.iconst 0, 1) := by decide +kernel
theorem dX6_folds_150 : decode cX6_folds 150 = .ok (.istore 5, 2) := by decide +kernel
theorem dX6_folds_152 : decode cX6_folds 152 = .ok (.iload 5, 2) := by decide +kernel
theorem dX6_folds_154 : decode cX6_folds 154 = .ok (.sipush 6000, 3) := by decide +kernel
theorem dX6_folds_157 : decode cX6_folds 157 = .ok (.if_icmp .ge 17, 3) := by decide +kernel
theorem dX6_folds_160 : decode cX6_folds 160 = .ok (.aload_n 0, 1) := by decide +kernel
theorem dX6_folds_161 : decode cX6_folds 161 = .ok (.getfield 75, 3) := by decide +kernel
theorem dX6_folds_164 : decode cX6_folds 164 = .ok (.iload 5, 2) := by decide +kernel
theorem dX6_folds_166 : decode cX6_folds 166 = .ok (.iconst 0, 1) := by decide +kernel
theorem dX6_folds_167 : decode cX6_folds 167 = .ok (.iastore, 1) := by decide +kernel
theorem dX6_folds_168 : decode cX6_folds 168 = .ok (.iinc 5 1, 3) := by decide +kernel
theorem dX6_folds_171 : decode cX6_folds 171 = .ok (.goto (-19), 3) := by decide +kernel
theorem dX6_folds_174 : decode cX6_folds 174 = .ok (.iconst 0, 1) := by decide +kernel
theorem dX6_folds_175 : decode cX6_folds 175 = .ok (.istore 5, 2) := by decide +kernel
theorem dX6_folds_177 : decode cX6_folds 177 = .ok (.iload 5, 2) := by decide +kernel
theorem dX6_folds_179 : decode cX6_folds 179 = .ok (.bipush 10, 2) := by decide +kernel
theorem dX6_folds_181 : decode cX6_folds 181 = .ok (.if_icmp .ge 17, 3) := by decide +kernel
theorem dX6_folds_184 : decode cX6_folds 184 = .ok (.aload_n 0, 1) := by decide +kernel
theorem dX6_folds_185 : decode cX6_folds 185 = .ok (.getfield 72, 3) := by decide +kernel
theorem dX6_folds_188 : decode cX6_folds 188 = .ok (.iload 5, 2) := by decide +kernel
theorem dX6_folds_190 : decode cX6_folds 190 = .ok (.iconst 0, 1) := by decide +kernel
theorem dX6_folds_191 : decode cX6_folds 191 = .ok (.bastore, 1) := by decide +kernel
theorem dX6_folds_192 : decode cX6_folds 192 = .ok (.iinc 5 1, 3) := by decide +kernel
theorem dX6_folds_195 : decode cX6_folds 195 = .ok (.goto (-18), 3) := by decide +kernel
theorem dX6_folds_198 : decode cX6_folds 198 = .ok (.iconst 1, 1) := by decide +kernel
theorem dX6_folds_199 : decode cX6_folds 199 = .ok (.ireturn, 1) := by decide +kernel
theorem dX6_outerOf_0 : decode cX6_outerOf 0 = .ok (.aload_n 0, 1) := by decide +kernel
theorem dX6_outerOf_1 : decode cX6_outerOf 1 = .ok (.getfield 69, 3) := by decide +kernel
theorem dX6_outerOf_4 : decode cX6_outerOf 4 = .ok (.iload_n 1, 1) := by decide +kernel
theorem dX6_outerOf_5 : decode cX6_outerOf 5 = .ok (.iaload, 1) := by decide +kernel
theorem dX6_outerOf_6 : decode cX6_outerOf 6 = .ok (.aload_n 0, 1) := by decide +kernel
theorem dX6_outerOf_7 : decode cX6_outerOf 7 = .ok (.getfield 219, 3) := by decide +kernel
theorem dX6_outerOf_10 : decode cX6_outerOf 10 = .ok (.irem, 1) := by decide +kernel
theorem dX6_outerOf_11 : decode cX6_outerOf 11 = .ok (.ireturn, 1) := by decide +kernel
theorem dX6_innerOf_0 : decode cX6_innerOf 0 = .ok (.aload_n 0, 1) := by decide +kernel
theorem dX6_innerOf_1 : decode cX6_innerOf 1 = .ok (.getfield 69, 3) := by decide +kernel
theorem dX6_innerOf_4 : decode cX6_innerOf 4 = .ok (.iload_n 1, 1) := by decide +kernel
theorem dX6_innerOf_5 : decode cX6_innerOf 5 = .ok (.iaload, 1) := by decide +kernel
theorem dX6_innerOf_6 : decode cX6_innerOf 6 = .ok (.aload_n 0, 1) := by decide +kernel
theorem dX6_innerOf_7 : decode cX6_innerOf 7 = .ok (.getfield 219, 3) := by decide +kernel
theorem dX6_innerOf_10 : decode cX6_innerOf 10 = .ok (.idiv, 1) := by decide +kernel
theorem dX6_innerOf_11 : decode cX6_innerOf 11 = .ok (.aload_n 0, 1) := by decide +kernel
theorem dX6_innerOf_12 : decode cX6_innerOf 12 = .ok (.getfield 222, 3) := by decide +kernel
theorem dX6_innerOf_15 : decode cX6_innerOf 15 = .ok (.irem, 1) := by decide +kernel
theorem dX6_innerOf_16 : decode cX6_innerOf 16 = .ok (.ireturn, 1) := by decide +kernel
set_option maxRecDepth 20000 in
theorem ggX6_fold_X6_in : GoodIn wsX6_fold wsX6_in := goodIn_r _ [5] (by decide +kernel) (by decide +kernel)
set_option maxRecDepth 20000 in
theorem gX6_fold_X6_in : GoodIn wsX6_fold (va_wsS RX6 80 yX6_in wsX6_in) := goodIn_app (goodIn_of _ (by decide +kernel)) ggX6_fold_X6_in
set_option maxRecDepth 20000 in
theorem ggX6_fold_X6_outerOf : GoodIn wsX6_fold wsX6_outerOf := goodIn_r _ [9, 10, 11, 17, 18, 19, 20, 21, 22, 23, 24, 25, 26, 27, 28, 29, 30, 31, 32, 33, 34, 35, 36, 37, 38, 39, 40, 41, 42, 43, 44, 45, 46, 47] (by decide +kernel) (by decide +kernel)
set_option maxRecDepth 20000 in
theorem gX6_fold_X6_outerOf : GoodIn wsX6_fold (wsV RX6 225 RX6 yX6_outerOf wsX6_outerOf) := goodIn_app (goodIn_of _ (by decide +kernel)) ggX6_fold_X6_outerOf
set_option maxRecDepth 20000 in
theorem ggX6_fold_X6_innerOf : GoodIn wsX6_fold wsX6_innerOf := goodIn_r _ [15, 10, 11, 16, 17, 18, 19, 20, 21, 22, 23, 24, 25, 26, 27, 28, 29, 30, 31, 32, 33, 34, 35, 36, 37, 38, 39, 40, 41, 42, 43, 44, 45, 46, 47] (by decide +kernel) (by decide +kernel)
set_option maxRecDepth 20000 in
theorem gX6_fold_X6_innerOf : GoodIn wsX6_fold (wsV RX6 229 RX6 yX6_innerOf wsX6_innerOf) := goodIn_app (goodIn_of _ (by decide +kernel)) ggX6_fold_X6_innerOf
theorem dX6_fold_0 : decode cX6_fold 0 = .ok (.iload_n 1, 1) := by decide +kernel
theorem dX6_fold_1 : decode cX6_fold 1 = .ok (.i2l, 1) := by decide +kernel
theorem dX6_fold_2 : decode cX6_fold 2 = .ok (.lconst 0, 1) := by decide +kernel
theorem dX6_fold_3 : decode cX6_fold 3 = .ok (.aload_n 0, 1) := by decide +kernel
theorem dX6_fold_4 : decode cX6_fold 4 = .ok (.getfield 216, 3) := by decide +kernel
theorem dX6_fold_7 : decode cX6_fold 7 = .ok (.iconst 1, 1) := by decide +kernel
theorem dX6_fold_8 : decode cX6_fold 8 = .ok (.isub, 1) := by decide +kernel
theorem dX6_fold_9 : decode cX6_fold 9 = .ok (.i2l, 1) := by decide +kernel
theorem dX6_fold_10 : decode cX6_fold 10 = .ok (.invokestatic 80, 3) := by decide +kernel
theorem dX6_fold_13 : decode cX6_fold 13 = .ok (.ifCond .eq 13, 3) := by decide +kernel
theorem dX6_fold_16 : decode cX6_fold 16 = .ok (.iload_n 2, 1) := by decide +kernel
theorem dX6_fold_17 : decode cX6_fold 17 = .ok (.i2l, 1) := by decide +kernel
theorem dX6_fold_18 : decode cX6_fold 18 = .ok (.lconst 0, 1) := by decide +kernel
theorem dX6_fold_19 : decode cX6_fold 19 = .ok (.lconst 1, 1) := by decide +kernel
theorem dX6_fold_20 : decode cX6_fold 20 = .ok (.invokestatic 80, 3) := by decide +kernel
theorem dX6_fold_23 : decode cX6_fold 23 = .ok (.ifCond .ne 7, 3) := by decide +kernel
theorem dX6_fold_26 : decode cX6_fold 26 = .ok (.iconst (-1), 1) := by decide +kernel
theorem dX6_fold_27 : decode cX6_fold 27 = .ok (.goto 20, 3) := by decide +kernel
theorem dX6_fold_30 : decode cX6_fold 30 = .ok (.iload_n 2, 1) := by decide +kernel
theorem dX6_fold_31 : decode cX6_fold 31 = .ok (.ifCond .ne 11, 3) := by decide +kernel
theorem dX6_fold_34 : decode cX6_fold 34 = .ok (.aload_n 0, 1) := by decide +kernel
theorem dX6_fold_35 : decode cX6_fold 35 = .ok (.iload_n 1, 1) := by decide +kernel
theorem dX6_fold_36 : decode cX6_fold 36 = .ok (.invokevirtual 225, 3) := by decide +kernel
theorem dX6_fold_39 : decode cX6_fold 39 = .ok (.goto 8, 3) := by decide +kernel
theorem dX6_fold_42 : decode cX6_fold 42 = .ok (.aload_n 0, 1) := by decide +kernel
theorem dX6_fold_43 : decode cX6_fold 43 = .ok (.iload_n 1, 1) := by decide +kernel
theorem dX6_fold_44 : decode cX6_fold 44 = .ok (.invokevirtual 229, 3) := by decide +kernel
theorem dX6_fold_47 : decode cX6_fold 47 = .ok (.ireturn, 1) := by decide +kernel
set_option maxRecDepth 20000 in
theorem ggX6_use_X6_in : GoodIn wsX6_use wsX6_in := goodIn_r _ [10] (by decide +kernel) (by decide +kernel)
set_option maxRecDepth 20000 in
theorem gX6_use_X6_in : GoodIn wsX6_use (va_wsS RX6 80 yX6_in wsX6_in) := goodIn_app (goodIn_of _ (by decide +kernel)) ggX6_use_X6_in
set_option maxRecDepth 20000 in
theorem ggX6_use_X6_outerOf : GoodIn wsX6_use wsX6_outerOf := goodIn_r _ [14, 15, 2, 20, 21, 22, 23, 24, 25, 26, 27, 28, 29, 30, 31, 32, 33, 34, 35, 36, 37, 38, 39, 40, 41, 42, 43, 44, 45, 46, 47, 48, 49, 50] (by decide +kernel) (by decide +kernel)
set_option maxRecDepth 20000 in
theorem gX6_use_X6_outerOf : GoodIn wsX6_use (wsV RX6 225 RX6 yX6_outerOf wsX6_outerOf) := goodIn_app (goodIn_of _ (by decide +kernel)) ggX6_use_X6_outerOf
set_option maxRecDepth 20000 in
theorem ggX6_use_X6_innerOf : GoodIn wsX6_use wsX6_innerOf := goodIn_r _ [19, 15, 2, 4, 20, 21, 22, 23, 24, 25, 26, 27, 28, 29, 30, 31, 32, 33, 34, 35, 36, 37, 38, 39, 40, 41, 42, 43, 44, 45, 46, 47, 48, 49, 50] (by decide +kernel) (by decide +kernel)
set_option maxRecDepth 20000 in
theorem gX6_use_X6_innerOf : GoodIn wsX6_use (wsV RX6 229 RX6 yX6_innerOf wsX6_innerOf) := goodIn_app (goodIn_of _ (by decide +kernel)) ggX6_use_X6_innerOf
theorem dX6_use_0 : decode cX6_use 0 = .ok (.aload_n 0, 1) := by decide +kernel
theorem dX6_use_1 : decode cX6_use 1 = .ok (.getfield 216, 3) := by decide +kernel
theorem dX6_use_4 : decode cX6_use 4 = .ok (.ifCond .eq 37, 3) := by decide +kernel
theorem dX6_use_7 : decode cX6_use 7 = .ok (.iload_n 1, 1) := by decide +kernel
theorem dX6_use_8 : decode cX6_use 8 = .ok (.i2l, 1) := by decide +kernel
theorem dX6_use_9 : decode cX6_use 9 = .ok (.lconst 0, 1) := by decide +kernel
theorem dX6_use_10 : decode cX6_use 10 = .ok (.aload_n 0, 1) := by decide +kernel
theorem dX6_use_11 : decode cX6_use 11 = .ok (.getfield 219, 3) := by decide +kernel
theorem dX6_use_14 : decode cX6_use 14 = .ok (.iconst 1, 1) := by decide +kernel
theorem dX6_use_15 : decode cX6_use 15 = .ok (.isub, 1) := by decide +kernel
theorem dX6_use_16 : decode cX6_use 16 = .ok (.i2l, 1) := by decide +kernel
theorem dX6_use_17 : decode cX6_use 17 = .ok (.invokestatic 80, 3) := by decide +kernel
theorem dX6_use_20 : decode cX6_use 20 = .ok (.ifCond .eq 21, 3) := by decide +kernel
theorem dX6_use_23 : decode cX6_use 23 = .ok (.iload_n 2, 1) := by decide +kernel
theorem dX6_use_24 : decode cX6_use 24 = .ok (.i2l, 1) := by decide +kernel
theorem dX6_use_25 : decode cX6_use 25 = .ok (.ldc2_w 84, 3) := by decide +kernel
theorem dX6_use_28 : decode cX6_use 28 = .ok (.aload_n 0, 1) := by decide +kernel
theorem dX6_use_29 : decode cX6_use 29 = .ok (.getfield 222, 3) := by decide +kernel
theorem dX6_use_32 : decode cX6_use 32 = .ok (.iconst 1, 1) := by decide +kernel
theorem dX6_use_33 : decode cX6_use 33 = .ok (.isub, 1) := by decide +kernel
theorem dX6_use_34 : decode cX6_use 34 = .ok (.i2l, 1) := by decide +kernel
theorem dX6_use_35 : decode cX6_use 35 = .ok (.invokestatic 80, 3) := by decide +kernel
theorem dX6_use_38 : decode cX6_use 38 = .ok (.ifCond .ne 5, 3) := by decide +kernel
theorem dX6_use_41 : decode cX6_use 41 = .ok (.iconst (-1), 1) := by decide +kernel
theorem dX6_use_42 : decode cX6_use 42 = .ok (.ireturn, 1) := by decide +kernel
theorem dX6_use_43 : decode cX6_use 43 = .ok (.aload_n 0, 1) := by decide +kernel
theorem dX6_use_44 : decode cX6_use 44 = .ok (.getfield 72, 3) := by decide +kernel
theorem dX6_use_47 : decode cX6_use 47 = .ok (.iload_n 1, 1) := by decide +kernel
theorem dX6_use_48 : decode cX6_use 48 = .ok (.baload, 1) := by decide +kernel
theorem dX6_use_49 : decode cX6_use 49 = .ok (.ifCond .eq 6, 3) := by decide +kernel
theorem dX6_use_52 : decode cX6_use 52 = .ok (.bipush (-3), 2) := by decide +kernel
theorem dX6_use_54 : decode cX6_use 54 = .ok (.ireturn, 1) := by decide +kernel
theorem dX6_use_55 : decode cX6_use 55 = .ok (.iconst 0, 1) := by decide +kernel
theorem dX6_use_56 : decode cX6_use 56 = .ok (.istore_n 3, 1) := by decide +kernel
theorem dX6_use_57 : decode cX6_use 57 = .ok (.iconst 0, 1) := by decide +kernel
theorem dX6_use_58 : decode cX6_use 58 = .ok (.istore 4, 2) := by decide +kernel
theorem dX6_use_60 : decode cX6_use 60 = .ok (.iload 4, 2) := by decide +kernel
theorem dX6_use_62 : decode cX6_use 62 = .ok (.aload_n 0, 1) := by decide +kernel
theorem dX6_use_63 : decode cX6_use 63 = .ok (.getfield 216, 3) := by decide +kernel
theorem dX6_use_66 : decode cX6_use 66 = .ok (.if_icmp .ge 136, 3) := by decide +kernel
theorem dX6_use_69 : decode cX6_use 69 = .ok (.bipush 30, 2) := by decide +kernel
theorem dX6_use_71 : decode cX6_use 71 = .ok (.iload 4, 2) := by decide +kernel
theorem dX6_use_73 : decode cX6_use 73 = .ok (.imul, 1) := by decide +kernel
theorem dX6_use_74 : decode cX6_use 74 = .ok (.iconst 3, 1) := by decide +kernel
theorem dX6_use_75 : decode cX6_use 75 = .ok (.iload_n 1, 1) := by decide +kernel
theorem dX6_use_76 : decode cX6_use 76 = .ok (.imul, 1) := by decide +kernel
theorem dX6_use_77 : decode cX6_use 77 = .ok (.iadd, 1) := by decide +kernel
theorem dX6_use_78 : decode cX6_use 78 = .ok (.istore 5, 2) := by decide +kernel
theorem dX6_use_80 : decode cX6_use 80 = .ok (.aload_n 0, 1) := by decide +kernel
theorem dX6_use_81 : decode cX6_use 81 = .ok (.iload 4, 2) := by decide +kernel
theorem dX6_use_83 : decode cX6_use 83 = .ok (.invokevirtual 225, 3) := by decide +kernel
theorem dX6_use_86 : decode cX6_use 86 = .ok (.iload_n 1, 1) := by decide +kernel
theorem dX6_use_87 : decode cX6_use 87 = .ok (.if_icmp .ne 7, 3) := by decide +kernel
theorem dX6_use_90 : decode cX6_use 90 = .ok (.iconst 1, 1) := by decide +kernel
theorem dX6_use_91 : decode cX6_use 91 = .ok (.goto 4, 3) := by decide +kernel
theorem dX6_use_94 : decode cX6_use 94 = .ok (.iconst 0, 1) := by decide +kernel
theorem dX6_use_95 : decode cX6_use 95 = .ok (.istore 6, 2) := by decide +kernel
theorem dX6_use_97 : decode cX6_use 97 = .ok (.iload_n 2, 1) := by decide +kernel
theorem dX6_use_98 : decode cX6_use 98 = .ok (.ifCond .ge 41, 3) := by decide +kernel
theorem dX6_use_101 : decode cX6_use 101 = .ok (.aload_n 0, 1) := by decide +kernel
theorem dX6_use_102 : decode cX6_use 102 = .ok (.getfield 75, 3) := by decide +kernel
theorem dX6_use_105 : decode cX6_use 105 = .ok (.iload 5, 2) := by decide +kernel
theorem dX6_use_107 : decode cX6_use 107 = .ok (.iload 6, 2) := by decide +kernel
theorem dX6_use_109 : decode cX6_use 109 = .ok (.ifCond .eq 7, 3) := by decide +kernel
theorem dX6_use_112 : decode cX6_use 112 = .ok (.iconst 2, 1) := by decide +kernel
theorem dX6_use_113 : decode cX6_use 113 = .ok (.goto 4, 3) := by decide +kernel
theorem dX6_use_116 : decode cX6_use 116 = .ok (.iconst 0, 1) := by decide +kernel
theorem dX6_use_117 : decode cX6_use 117 = .ok (.iadd, 1) := by decide +kernel
theorem dX6_use_118 : decode cX6_use 118 = .ok (.dup2, 1) := by decide +kernel
theorem dX6_use_119 : decode cX6_use 119 = .ok (.iaload, 1) := by decide +kernel
theorem dX6_use_120 : decode cX6_use 120 = .ok (.iconst 1, 1) := by decide +kernel
theorem dX6_use_121 : decode cX6_use 121 = .ok (.iadd, 1) := by decide +kernel
theorem dX6_use_122 : decode cX6_use 122 = .ok (.iastore, 1) := by decide +kernel
theorem dX6_use_123 : decode cX6_use 123 = .ok (.iload_n 3, 1) := by decide +kernel
theorem dX6_use_124 : decode cX6_use 124 = .ok (.iload 6, 2) := by decide +kernel
theorem dX6_use_126 : decode cX6_use 126 = .ok (.ifCond .eq 7, 3) := by decide +kernel
theorem dX6_use_129 : decode cX6_use 129 = .ok (.iconst 1, 1) := by decide +kernel
theorem dX6_use_130 : decode cX6_use 130 = .ok (.goto 4, 3) := by decide +kernel
theorem dX6_use_133 : decode cX6_use 133 = .ok (.iconst 0, 1) := by decide +kernel
theorem dX6_use_134 : decode cX6_use 134 = .ok (.iadd, 1) := by decide +kernel
theorem dX6_use_135 : decode cX6_use 135 = .ok (.istore_n 3, 1) := by decide +kernel
theorem dX6_use_136 : decode cX6_use 136 = .ok (.goto 60, 3) := by decide +kernel
theorem dX6_use_139 : decode cX6_use 139 = .ok (.iload 6, 2) := by decide +kernel
theorem dX6_use_141 : decode cX6_use 141 = .ok (.ifCond .ne 55, 3) := by decide +kernel
theorem dX6_use_144 : decode cX6_use 144 = .ok (.aload_n 0, 1) := by decide +kernel
theorem dX6_use_145 : decode cX6_use 145 = .ok (.iload 4, 2) := by decide +kernel
theorem dX6_use_147 : decode cX6_use 147 = .ok (.invokevirtual 229, 3) := by decide +kernel
theorem dX6_use_150 : decode cX6_use 150 = .ok (.iload_n 2, 1) := by decide +kernel
theorem dX6_use_151 : decode cX6_use 151 = .ok (.if_icmp .ne 7, 3) := by decide +kernel
theorem dX6_use_154 : decode cX6_use 154 = .ok (.iconst 1, 1) := by decide +kernel
theorem dX6_use_155 : decode cX6_use 155 = .ok (.goto 4, 3) := by decide +kernel
theorem dX6_use_158 : decode cX6_use 158 = .ok (.iconst 0, 1) := by decide +kernel
theorem dX6_use_159 : decode cX6_use 159 = .ok (.istore 7, 2) := by decide +kernel
theorem dX6_use_161 : decode cX6_use 161 = .ok (.aload_n 0, 1) := by decide +kernel
theorem dX6_use_162 : decode cX6_use 162 = .ok (.getfield 75, 3) := by decide +kernel
theorem dX6_use_165 : decode cX6_use 165 = .ok (.iload 5, 2) := by decide +kernel
theorem dX6_use_167 : decode cX6_use 167 = .ok (.iload 7, 2) := by decide +kernel
theorem dX6_use_169 : decode cX6_use 169 = .ok (.ifCond .eq 7, 3) := by decide +kernel
theorem dX6_use_172 : decode cX6_use 172 = .ok (.iconst 1, 1) := by decide +kernel
theorem dX6_use_173 : decode cX6_use 173 = .ok (.goto 4, 3) := by decide +kernel
theorem dX6_use_176 : decode cX6_use 176 = .ok (.iconst 0, 1) := by decide +kernel
theorem dX6_use_177 : decode cX6_use 177 = .ok (.iadd, 1) := by decide +kernel
theorem dX6_use_178 : decode cX6_use 178 = .ok (.dup2, 1) := by decide +kernel
theorem dX6_use_179 : decode cX6_use 179 = .ok (.iaload, 1) := by decide +kernel
theorem dX6_use_180 : decode cX6_use 180 = .ok (.iconst 1, 1) := by decide +kernel
theorem dX6_use_181 : decode cX6_use 181 = .ok (.iadd, 1) := by decide +kernel
theorem dX6_use_182 : decode cX6_use 182 = .ok (.iastore, 1) := by decide +kernel
theorem dX6_use_183 : decode cX6_use 183 = .ok (.iload_n 3, 1) := by decide +kernel
theorem dX6_use_184 : decode cX6_use 184 = .ok (.iload 7, 2) := by decide +kernel
theorem dX6_use_186 : decode cX6_use 186 = .ok (.ifCond .eq 7, 3) := by decide +kernel
theorem dX6_use_189 : decode cX6_use 189 = .ok (.iconst 1, 1) := by decide +kernel
theorem dX6_use_190 : decode cX6_use 190 = .ok (.goto 4, 3) := by decide +kernel
theorem dX6_use_193 : decode cX6_use 193 = .ok (.iconst 0, 1) := by decide +kernel
theorem dX6_use_194 : decode cX6_use 194 = .ok (.iadd, 1) := by decide +kernel
theorem dX6_use_195 : decode cX6_use 195 = .ok (.istore_n 3, 1) := by decide +kernel
theorem dX6_use_196 : decode cX6_use 196 = .ok (.iinc 4 1, 3) := by decide +kernel
theorem dX6_use_199 : decode cX6_use 199 = .ok (.goto (-139), 3) := by decide +kernel
theorem dX6_use_202 : decode cX6_use 202 = .ok (.aload_n 0, 1) := by decide +kernel
theorem dX6_use_203 : decode cX6_use 203 = .ok (.getfield 72, 3) := by decide +kernel
theorem dX6_use_206 : decode cX6_use 206 = .ok (.iload_n 1, 1) := by decide +kernel
theorem dX6_use_207 : decode cX6_use 207 = .ok (.iload_n 2, 1) := by decide +kernel
theorem dX6_use_208 : decode cX6_use 208 = .ok (.ifCond .ge 7, 3) := by decide +kernel
theorem dX6_use_211 : decode cX6_use 211 = .ok (.iconst 1, 1) := by decide +kernel
theorem dX6_use_212 : decode cX6_use 212 = .ok (.goto 4, 3) := by decide +kernel
theorem dX6_use_215 : decode cX6_use 215 = .ok (.iconst 0, 1) := by decide +kernel
theorem dX6_use_216 : decode cX6_use 216 = .ok (.bastore, 1) := by decide +kernel
theorem dX6_use_217 : decode cX6_use 217 = .ok (.iload_n 3, 1) := by decide +kernel
theorem dX6_use_218 : decode cX6_use 218 = .ok (.ireturn, 1) := by decide +kernel
set_option maxRecDepth 20000 in
theorem ggX6_used_X6_in : GoodIn wsX6_used wsX6_in := goodIn_r _ [8] (by decide +kernel) (by decide +kernel)
set_option maxRecDepth 20000 in
theorem gX6_used_X6_in : GoodIn wsX6_used (va_wsS RX6 80 yX6_in wsX6_in) := goodIn_app (goodIn_of _ (by decide +kernel)) ggX6_used_X6_in
theorem dX6_used_0 : decode cX6_used 0 = .ok (.iload_n 1, 1) := by decide +kernel
theorem dX6_used_1 : decode cX6_used 1 = .ok (.i2l, 1) := by decide +kernel
theorem dX6_used_2 : decode cX6_used 2 = .ok (.lconst 0, 1) := by decide +kernel
theorem dX6_used_3 : decode cX6_used 3 = .ok (.aload_n 0, 1) := by decide +kernel
theorem dX6_used_4 : decode cX6_used 4 = .ok (.getfield 216, 3) := by decide +kernel
theorem dX6_used_7 : decode cX6_used 7 = .ok (.iconst 1, 1) := by decide +kernel
theorem dX6_used_8 : decode cX6_used 8 = .ok (.isub, 1) := by decide +kernel
theorem dX6_used_9 : decode cX6_used 9 = .ok (.i2l, 1) := by decide +kernel
theorem dX6_used_10 : decode cX6_used 10 = .ok (.invokestatic 80, 3) := by decide +kernel
theorem dX6_used_13 : decode cX6_used 13 = .ok (.ifCond .eq 31, 3) := by decide +kernel
theorem dX6_used_16 : decode cX6_used 16 = .ok (.iload_n 2, 1) := by decide +kernel
theorem dX6_used_17 : decode cX6_used 17 = .ok (.i2l, 1) := by decide +kernel
theorem dX6_used_18 : decode cX6_used 18 = .ok (.lconst 0, 1) := by decide +kernel
theorem dX6_used_19 : decode cX6_used 19 = .ok (.aload_n 0, 1) := by decide +kernel
theorem dX6_used_20 : decode cX6_used 20 = .ok (.getfield 219, 3) := by decide +kernel
theorem dX6_used_23 : decode cX6_used 23 = .ok (.iconst 1, 1) := by decide +kernel
theorem dX6_used_24 : decode cX6_used 24 = .ok (.isub, 1) := by decide +kernel
theorem dX6_used_25 : decode cX6_used 25 = .ok (.i2l, 1) := by decide +kernel
theorem dX6_used_26 : decode cX6_used 26 = .ok (.invokestatic 80, 3) := by decide +kernel
theorem dX6_used_29 : decode cX6_used 29 = .ok (.ifCond .eq 15, 3) := by decide +kernel
theorem dX6_used_32 : decode cX6_used 32 = .ok (.iload_n 3, 1) := by decide +kernel
theorem dX6_used_33 : decode cX6_used 33 = .ok (.i2l, 1) := by decide +kernel
theorem dX6_used_34 : decode cX6_used 34 = .ok (.lconst 0, 1) := by decide +kernel
theorem dX6_used_35 : decode cX6_used 35 = .ok (.ldc2_w 129, 3) := by decide +kernel
theorem dX6_used_38 : decode cX6_used 38 = .ok (.invokestatic 80, 3) := by decide +kernel
theorem dX6_used_41 : decode cX6_used 41 = .ok (.ifCond .ne 7, 3) := by decide +kernel
theorem dX6_used_44 : decode cX6_used 44 = .ok (.iconst (-1), 1) := by decide +kernel
theorem dX6_used_45 : decode cX6_used 45 = .ok (.goto 18, 3) := by decide +kernel
theorem dX6_used_48 : decode cX6_used 48 = .ok (.aload_n 0, 1) := by decide +kernel
theorem dX6_used_49 : decode cX6_used 49 = .ok (.getfield 75, 3) := by decide +kernel
theorem dX6_used_52 : decode cX6_used 52 = .ok (.bipush 30, 2) := by decide +kernel
theorem dX6_used_54 : decode cX6_used 54 = .ok (.iload_n 1, 1) := by decide +kernel
theorem dX6_used_55 : decode cX6_used 55 = .ok (.imul, 1) := by decide +kernel
theorem dX6_used_56 : decode cX6_used 56 = .ok (.iconst 3, 1) := by decide +kernel
theorem dX6_used_57 : decode cX6_used 57 = .ok (.iload_n 2, 1) := by decide +kernel
theorem dX6_used_58 : decode cX6_used 58 = .ok (.imul, 1) := by decide +kernel
theorem dX6_used_59 : decode cX6_used 59 = .ok (.iadd, 1) := by decide +kernel
theorem dX6_used_60 : decode cX6_used 60 = .ok (.iload_n 3, 1) := by decide +kernel
theorem dX6_used_61 : decode cX6_used 61 = .ok (.iadd, 1) := by decide +kernel
theorem dX6_used_62 : decode cX6_used 62 = .ok (.iaload, 1) := by decide +kernel
theorem dX6_used_63 : decode cX6_used 63 = .ok (.ireturn, 1) := by decide +kernel
end
section
theorem dJ9_abs_0f7a4_0 : decode cJ9_abs_0f7a4 0 = .ok (.iload_n 0, 1) := by decide +kernel
theorem dJ9_abs_0f7a4_1 : decode cJ9_abs_0f7a4 1 = .ok (.ifCond .ge 8, 3) := by decide +kernel
theorem dJ9_abs_0f7a4_4 : decode cJ9_abs_0f7a4 4 = .ok (.iload_n 0, 1) := by decide +kernel
theorem dJ9_abs_0f7a4_5 : decode cJ9_abs_0f7a4 5 = .ok (.ineg, 1) := by decide +kernel
theorem dJ9_abs_0f7a4_6 : decode cJ9_abs_0f7a4 6 = .ok (.goto 4, 3) := by decide +kernel
theorem dJ9_abs_0f7a4_9 : decode cJ9_abs_0f7a4 9 = .ok (.iload_n 0, 1) := by decide +kernel
theorem dJ9_abs_0f7a4_10 : decode cJ9_abs_0f7a4 10 = .ok (.ireturn, 1) := by decide +kernel
theorem dJ9_abs_067f4_0 : decode cJ9_abs_067f4 0 = .ok (.lload_n 0, 1) := by decide +kernel
theorem dJ9_abs_067f4_1 : decode cJ9_abs_067f4 1 = .ok (.lconst 0, 1) := by decide +kernel
theorem dJ9_abs_067f4_2 : decode cJ9_abs_067f4 2 = .ok (.lcmp, 1) := by decide +kernel
theorem dJ9_abs_067f4_3 : decode cJ9_abs_067f4 3 = .ok (.ifCond .ge 8, 3) := by decide +kernel
theorem dJ9_abs_067f4_6 : decode cJ9_abs_067f4 6 = .ok (.lload_n 0, 1) := by decide +kernel
theorem dJ9_abs_067f4_7 : decode cJ9_abs_067f4 7 = .ok (.lneg, 1) := by decide +kernel
theorem dJ9_abs_067f4_8 : decode cJ9_abs_067f4 8 = .ok (.goto 4, 3) := by decide +kernel
theorem dJ9_abs_067f4_11 : decode cJ9_abs_067f4 11 = .ok (.lload_n 0, 1) := by decide +kernel
theorem dJ9_abs_067f4_12 : decode cJ9_abs_067f4 12 = .ok (.lreturn, 1) := by decide +kernel
theorem dJ9_max_f86c9_0 : decode cJ9_max_f86c9 0 = .ok (.lload_n 0, 1) := by decide +kernel
theorem dJ9_max_f86c9_1 : decode cJ9_max_f86c9 1 = .ok (.lload_n 2, 1) := by decide +kernel
theorem dJ9_max_f86c9_2 : decode cJ9_max_f86c9 2 = .ok (.lcmp, 1) := by decide +kernel
theorem dJ9_max_f86c9_3 : decode cJ9_max_f86c9 3 = .ok (.ifCond .lt 7, 3) := by decide +kernel
theorem dJ9_max_f86c9_6 : decode cJ9_max_f86c9 6 = .ok (.lload_n 0, 1) := by decide +kernel
theorem dJ9_max_f86c9_7 : decode cJ9_max_f86c9 7 = .ok (.goto 4, 3) := by decide +kernel
theorem dJ9_max_f86c9_10 : decode cJ9_max_f86c9 10 = .ok (.lload_n 2, 1) := by decide +kernel
theorem dJ9_max_f86c9_11 : decode cJ9_max_f86c9 11 = .ok (.lreturn, 1) := by decide +kernel
theorem dJ9_min_7cf53_0 : decode cJ9_min_7cf53 0 = .ok (.iload_n 0, 1) := by decide +kernel
theorem dJ9_min_7cf53_1 : decode cJ9_min_7cf53 1 = .ok (.iload_n 1, 1) := by decide +kernel
theorem dJ9_min_7cf53_2 : decode cJ9_min_7cf53 2 = .ok (.if_icmp .gt 7, 3) := by decide +kernel
theorem dJ9_min_7cf53_5 : decode cJ9_min_7cf53 5 = .ok (.iload_n 0, 1) := by decide +kernel
theorem dJ9_min_7cf53_6 : decode cJ9_min_7cf53 6 = .ok (.goto 4, 3) := by decide +kernel
theorem dJ9_min_7cf53_9 : decode cJ9_min_7cf53 9 = .ok (.iload_n 1, 1) := by decide +kernel
theorem dJ9_min_7cf53_10 : decode cJ9_min_7cf53 10 = .ok (.ireturn, 1) := by decide +kernel
theorem dJ9_min_f86c9_0 : decode cJ9_min_f86c9 0 = .ok (.lload_n 0, 1) := by decide +kernel
theorem dJ9_min_f86c9_1 : decode cJ9_min_f86c9 1 = .ok (.lload_n 2, 1) := by decide +kernel
theorem dJ9_min_f86c9_2 : decode cJ9_min_f86c9 2 = .ok (.lcmp, 1) := by decide +kernel
theorem dJ9_min_f86c9_3 : decode cJ9_min_f86c9 3 = .ok (.ifCond .gt 7, 3) := by decide +kernel
theorem dJ9_min_f86c9_6 : decode cJ9_min_f86c9 6 = .ok (.lload_n 0, 1) := by decide +kernel
theorem dJ9_min_f86c9_7 : decode cJ9_min_f86c9 7 = .ok (.goto 4, 3) := by decide +kernel
theorem dJ9_min_f86c9_10 : decode cJ9_min_f86c9 10 = .ok (.lload_n 2, 1) := by decide +kernel
theorem dJ9_min_f86c9_11 : decode cJ9_min_f86c9 11 = .ok (.lreturn, 1) := by decide +kernel
theorem dJ7_fill_d0a16_0 : decode cJ7_fill_d0a16 0 = .ok (.iconst 0, 1) := by decide +kernel
theorem dJ7_fill_d0a16_1 : decode cJ7_fill_d0a16 1 = .ok (.istore_n 3, 1) := by decide +kernel
theorem dJ7_fill_d0a16_2 : decode cJ7_fill_d0a16 2 = .ok (.aload_n 0, 1) := by decide +kernel
theorem dJ7_fill_d0a16_3 : decode cJ7_fill_d0a16 3 = .ok (.arraylength, 1) := by decide +kernel
theorem dJ7_fill_d0a16_4 : decode cJ7_fill_d0a16 4 = .ok (.istore 4, 2) := by decide +kernel
theorem dJ7_fill_d0a16_6 : decode cJ7_fill_d0a16 6 = .ok (.iload_n 3, 1) := by decide +kernel
theorem dJ7_fill_d0a16_7 : decode cJ7_fill_d0a16 7 = .ok (.iload 4, 2) := by decide +kernel
theorem dJ7_fill_d0a16_9 : decode cJ7_fill_d0a16 9 = .ok (.if_icmp .ge 13, 3) := by decide +kernel
theorem dJ7_fill_d0a16_12 : decode cJ7_fill_d0a16 12 = .ok (.aload_n 0, 1) := by decide +kernel
theorem dJ7_fill_d0a16_13 : decode cJ7_fill_d0a16 13 = .ok (.iload_n 3, 1) := by decide +kernel
theorem dJ7_fill_d0a16_14 : decode cJ7_fill_d0a16 14 = .ok (.lload_n 1, 1) := by decide +kernel
theorem dJ7_fill_d0a16_15 : decode cJ7_fill_d0a16 15 = .ok (.lastore, 1) := by decide +kernel
theorem dJ7_fill_d0a16_16 : decode cJ7_fill_d0a16 16 = .ok (.iinc 3 1, 3) := by decide +kernel
theorem dJ7_fill_d0a16_19 : decode cJ7_fill_d0a16 19 = .ok (.goto (-13), 3) := by decide +kernel
theorem dJ7_fill_d0a16_22 : decode cJ7_fill_d0a16 22 = .ok (.return_, 1) := by decide +kernel
theorem dJ7_fill_53178_0 : decode cJ7_fill_53178 0 = .ok (.iconst 0, 1) := by decide +kernel
theorem dJ7_fill_53178_1 : decode cJ7_fill_53178 1 = .ok (.istore_n 2, 1) := by decide +kernel
theorem dJ7_fill_53178_2 : decode cJ7_fill_53178 2 = .ok (.aload_n 0, 1) := by decide +kernel
theorem dJ7_fill_53178_3 : decode cJ7_fill_53178 3 = .ok (.arraylength, 1) := by decide +kernel
theorem dJ7_fill_53178_4 : decode cJ7_fill_53178 4 = .ok (.istore_n 3, 1) := by decide +kernel
theorem dJ7_fill_53178_5 : decode cJ7_fill_53178 5 = .ok (.iload_n 2, 1) := by decide +kernel
theorem dJ7_fill_53178_6 : decode cJ7_fill_53178 6 = .ok (.iload_n 3, 1) := by decide +kernel
theorem dJ7_fill_53178_7 : decode cJ7_fill_53178 7 = .ok (.if_icmp .ge 13, 3) := by decide +kernel
theorem dJ7_fill_53178_10 : decode cJ7_fill_53178 10 = .ok (.aload_n 0, 1) := by decide +kernel
theorem dJ7_fill_53178_11 : decode cJ7_fill_53178 11 = .ok (.iload_n 2, 1) := by decide +kernel
theorem dJ7_fill_53178_12 : decode cJ7_fill_53178 12 = .ok (.iload_n 1, 1) := by decide +kernel
theorem dJ7_fill_53178_13 : decode cJ7_fill_53178 13 = .ok (.iastore, 1) := by decide +kernel
theorem dJ7_fill_53178_14 : decode cJ7_fill_53178 14 = .ok (.iinc 2 1, 3) := by decide +kernel
theorem dJ7_fill_53178_17 : decode cJ7_fill_53178 17 = .ok (.goto (-12), 3) := by decide +kernel
theorem dJ7_fill_53178_20 : decode cJ7_fill_53178 20 = .ok (.return_, 1) := by decide +kernel
end
