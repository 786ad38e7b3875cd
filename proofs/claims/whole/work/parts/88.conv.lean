/-! from the constructors' world to the uniform one -/
theorem cw_subP {D : va_G} {cl : List vw_C} {ws ws' : va_W} {H : Heap} (h : va_P D cl ws H) (is : List Nat) (hs : is.map (fun i => ws[i]?) = ws'.map some) : va_P D cl ws' H := by
  intro k q hk
  have h1 : some q ∈ ws'.map some := List.mem_map.mpr ⟨q, List.mem_of_getElem? hk, rfl⟩
  rw [← hs] at h1
  obtain ⟨i, -, hi⟩ := List.mem_map.mp h1
  exact h i q hi
def A0 : SA := fun _ _ => 0
def B0 : SB := fun k i => if k = 1 ∧ i = 1 then 1 else 0
theorem inv0 : Inv A0 B0 := by
  have z : ∀ (p : Nat → Bool), (∀ i, p i = false) → nI (cntN p 60) = 0 := fun p hp => by rw [cntN_0 hp]; rfl
  refine ⟨0, fun _ => 0, fun _ => none, fun _ _ => false, fun _ => 0, 0, fun _ => 0, fun _ => 0, fun _ => 0, ⟨⟨by omega, fun i h => by omega, fun i p h => by omega⟩, fun i h => by omega, ⟨rfl, fun i h => by omega, fun i h => by omega, fun i v h => by omega⟩, ⟨rfl, fun i h => by omega, fun i v h => by omega⟩, ⟨rfl, fun i h => by omega, fun i h => by omega, fun i v h => by omega⟩, fun i h => by omega⟩, ⟨by omega, rfl, rfl, rfl, fun i h => by omega, fun i h => by omega, fun i h => by omega, fun i _ _ => ⟨rfl, rfl⟩, fun i h => by omega, fun i s h => by omega, fun i h => by omega⟩, ⟨fun _ => 0, ?_⟩, 0, 0, 0, fun _ => 0, ⟨by omega, rfl, rfl, rfl, rfl, rfl, rfl, Or.inl ⟨rfl, rfl, rfl⟩, fun r h => by omega, fun o h => by omega, fun r o h => by omega⟩⟩
  refine ⟨fun i _ => ⟨by first | exact Nat.zero_lt_succ _ | exact Nat.zero_le _, rfl, rfl, rfl, rfl, rfl⟩, rfl, Or.inl rfl, rfl, Or.inl rfl, (z _ (fun _ => rfl)).symm, (z _ (fun _ => rfl)).symm, rfl, rfl, rfl, rfl, fun h => absurd h (by decide), fun _ _ _ => rfl⟩
def adF (f r12 r17 r18 r27 : Nat → Nat) (k : Nat) : Nat := if k < 48 then f k else if k < 56 then r12 (k - 48) else if k < 116 then r17 (k - 56) else if k < 176 then r18 (k - 116) else r27 (k - 176)
def cvE (g : uG) (fc12 fc17 fc18 fc27 : Nat → Option Nat) (k : Nat) : va_E := if k = 12 then .inl (g.2.2 3, 8, .inr (.inr (.inr (.inr fc12)))) else if k = 17 then .inl (g.2.2 4, 60, .inr (.inr (.inr (.inr fc17)))) else if k = 18 then .inl (g.2.2 4, 60, .inr (.inr (.inr (.inr fc18)))) else if k = 27 then .inl (g.2.2 4, 10, .inr (.inr (.inr (.inr fc27)))) else us g A0 B0 k
abbrev cvL : List Nat := [0, 1, 17, 147, 150, 166, 2, 3, 4, 5, 6, 7, 8, 18, 19, 20, 21, 22, 83, 144, 145, 146, 148, 149, 151, 152, 153, 154, 165, 167, 168, 169, 170, 171, 172, 173, 174, 175, 176, 177, 178, 179, 180, 181, 182, 183, 184, 185, 9, 10, 11, 12, 13, 14, 15, 16, 23, 24, 25, 26, 27, 28, 29, 30, 31, 32, 33, 34, 35, 36, 37, 38, 39, 40, 41, 42, 43, 44, 45, 46, 47, 48, 49, 50, 51, 52, 53, 54, 55, 56, 57, 58, 59, 60, 61, 62, 63, 64, 65, 66, 67, 68, 69, 70, 71, 72, 73, 74, 75, 76, 77, 78, 79, 80, 81, 82, 84, 85, 86, 87, 88, 89, 90, 91, 92, 93, 94, 95, 96, 97, 98, 99, 100, 101, 102, 103, 104, 105, 106, 107, 108, 109, 110, 111, 112, 113, 114, 115, 116, 117, 118, 119, 120, 121, 122, 123, 124, 125, 126, 127, 128, 129, 130, 131, 132, 133, 134, 135, 136, 137, 138, 139, 140, 141, 142, 143, 155, 156, 157, 158, 159, 160, 161, 162, 163, 164]
abbrev cvF : List Nat := [0, 1, 6, 7, 8, 9, 10, 11, 12, 48, 49, 50, 51, 52, 53, 54, 55, 2, 13, 14, 15, 16, 17, 56, 57, 58, 59, 60, 61, 62, 63, 64, 65, 66, 67, 68, 69, 70, 71, 72, 73, 74, 75, 76, 77, 78, 79, 80, 81, 82, 83, 84, 85, 86, 87, 88, 89, 90, 91, 92, 93, 94, 95, 96, 97, 98, 99, 100, 101, 102, 103, 104, 105, 106, 107, 108, 109, 110, 111, 112, 113, 114, 115, 18, 116, 117, 118, 119, 120, 121, 122, 123, 124, 125, 126, 127, 128, 129, 130, 131, 132, 133, 134, 135, 136, 137, 138, 139, 140, 141, 142, 143, 144, 145, 146, 147, 148, 149, 150, 151, 152, 153, 154, 155, 156, 157, 158, 159, 160, 161, 162, 163, 164, 165, 166, 167, 168, 169, 170, 171, 172, 173, 174, 175, 19, 20, 21, 3, 22, 23, 4, 24, 25, 26, 27, 176, 177, 178, 179, 180, 181, 182, 183, 184, 185, 28, 5, 29, 30, 31, 32, 33, 34, 35, 36, 37, 38, 39, 40, 41, 42, 43, 44, 45, 46, 47]
def cvO : List Nat := ((([] : List Nat) ++ (0 :: ((((([] : List Nat) ++ (1 :: (((((((([] : List Nat) ++ [6]) ++ [7]) ++ [8]) ++ [9]) ++ [10]) ++ [11]) ++ (12 :: List.range' 48 8)))) ++ (2 :: (((((((((([] : List Nat) ++ [13]) ++ [14]) ++ [15]) ++ [16]) ++ (17 :: List.range' 56 60)) ++ (18 :: List.range' 116 60)) ++ [19]) ++ [20]) ++ [21]))) ++ (3 :: ((([] : List Nat) ++ [22]) ++ [23]))) ++ (4 :: (((((([] : List Nat) ++ [24]) ++ [25]) ++ [26]) ++ (27 :: List.range' 176 10)) ++ [28]))))) ++ (5 :: (((((((((((((((((((([] : List Nat) ++ [29]) ++ [30]) ++ [31]) ++ [32]) ++ [33]) ++ [34]) ++ [35]) ++ [36]) ++ [37]) ++ [38]) ++ [39]) ++ [40]) ++ [41]) ++ [42]) ++ [43]) ++ [44]) ++ [45]) ++ [46]) ++ [47])))
theorem cvO_eq : cvO = cvF := by decide +kernel
theorem cv_LF : cvL.map (fun i => cvF[i]?) = (List.range 186).map some := by decide +kernel
theorem cv_map (N : Nat → Nat × va_E) : cvL.map (fun i => (cvF.map N)[i]?) = ((List.range 186).map N).map some := by
  have h2 : cvL.map (fun i => (cvF.map N)[i]?) = (cvL.map (fun i => cvF[i]?)).map (Option.map N) := by
    rw [List.map_map]
    exact List.map_congr_left (fun i _ => List.getElem?_map)
  rw [h2, cv_LF, List.map_map, List.map_map]
  exact List.map_congr_left (fun _ _ => rfl)
theorem cv_rows (n s : Nat) {F G : Nat → Nat × va_E} (h : ∀ i, i < n → F i = G (s + i)) : (List.range n).map F = (List.range' s n).map G := by
  rw [List.range'_eq_map_range, List.map_map]
  exact List.map_congr_left (fun i hi => h i (List.mem_range.mp hi))
theorem cv_N (N : Nat → Nat × va_E) : ((([] : va_W) ++ (N 0 :: ((((([] : va_W) ++ (N 1 :: (((((((([] : va_W) ++ [N 6]) ++ [N 7]) ++ [N 8]) ++ [N 9]) ++ [N 10]) ++ [N 11]) ++ (N 12 :: (List.range' 48 8).map N)))) ++ (N 2 :: (((((((((([] : va_W) ++ [N 13]) ++ [N 14]) ++ [N 15]) ++ [N 16]) ++ (N 17 :: (List.range' 56 60).map N)) ++ (N 18 :: (List.range' 116 60).map N)) ++ [N 19]) ++ [N 20]) ++ [N 21]))) ++ (N 3 :: ((([] : va_W) ++ [N 22]) ++ [N 23]))) ++ (N 4 :: (((((([] : va_W) ++ [N 24]) ++ [N 25]) ++ [N 26]) ++ (N 27 :: (List.range' 176 10).map N)) ++ [N 28]))))) ++ (N 5 :: (((((((((((((((((((([] : va_W) ++ [N 29]) ++ [N 30]) ++ [N 31]) ++ [N 32]) ++ [N 33]) ++ [N 34]) ++ [N 35]) ++ [N 36]) ++ [N 37]) ++ [N 38]) ++ [N 39]) ++ [N 40]) ++ [N 41]) ++ [N 42]) ++ [N 43]) ++ [N 44]) ++ [N 45]) ++ [N 46]) ++ [N 47]))) = cvF.map N := by
  rw [← cvO_eq]
  unfold cvO
  simp only [List.map_append, List.map_cons, List.map_nil]
def cvN (g0 : uG) (f r12 r17 r18 r27 : Nat → Nat) (fc12 fc17 fc18 fc27 : Nat → Option Nat) (k : Nat) : Nat × va_E := ((adF f r12 r17 r18 r27) k, cvE (g0.1, (adF f r12 r17 r18 r27), g0.2.2) fc12 fc17 fc18 fc27 k)
theorem cv_r12 (g0 : uG) (f r12 r17 r18 r27 : Nat → Nat) (fc12 fc17 fc18 fc27 : Nat → Option Nat) (i : Nat) (hi : i < 8) : ((fun i => (r12 i, .inl (g0.2.2 1, 30, .inr (.inl (fun _ => 0))))) : Nat → Nat × va_E) i = cvN g0 f r12 r17 r18 r27 fc12 fc17 fc18 fc27 (48 + i) := by
  have h1 : kd (48 + i) = 2 := by unfold kd; rw [if_neg (by omega), if_pos (by omega)]
  have h2 : ulen (48 + i) = 30 := by unfold ulen; rw [if_neg (by omega), if_pos (by omega)]
  have h3 : (adF f r12 r17 r18 r27) (48 + i) = r12 i := by unfold adF; rw [if_neg (by omega), if_pos (by omega), Nat.add_sub_cancel_left]
  have h4 : B0 (48 + i) = fun _ => 0 := by funext j; unfold B0; rw [if_neg (by omega)]
  unfold cvN cvE
  rw [if_neg (by omega), if_neg (by omega), if_neg (by omega), if_neg (by omega)]
  unfold us sh
  rw [h1, h2, h3, h4]
  all_goals rfl
theorem cv_r17 (g0 : uG) (f r12 r17 r18 r27 : Nat → Nat) (fc12 fc17 fc18 fc27 : Nat → Option Nat) (i : Nat) (hi : i < 60) : ((fun i => (r17 i, .inl (g0.2.2 0, 20, .inl (fun _ => 0)))) : Nat → Nat × va_E) i = cvN g0 f r12 r17 r18 r27 fc12 fc17 fc18 fc27 (56 + i) := by
  have h1 : kd (56 + i) = 1 := by unfold kd; rw [if_neg (by omega), if_neg (by omega)]
  have h2 : ulen (56 + i) = 20 := by unfold ulen; rw [if_neg (by omega), if_neg (by omega), if_pos (by omega)]
  have h3 : (adF f r12 r17 r18 r27) (56 + i) = r17 i := by unfold adF; rw [if_neg (by omega), if_neg (by omega), if_pos (by omega), Nat.add_sub_cancel_left]
  have h4 : B0 (56 + i) = fun _ => 0 := by funext j; unfold B0; rw [if_neg (by omega)]
  unfold cvN cvE
  rw [if_neg (by omega), if_neg (by omega), if_neg (by omega), if_neg (by omega)]
  unfold us sh
  rw [h1, h2, h3, h4]
  all_goals rfl
theorem cv_r18 (g0 : uG) (f r12 r17 r18 r27 : Nat → Nat) (fc12 fc17 fc18 fc27 : Nat → Option Nat) (i : Nat) (hi : i < 60) : ((fun i => (r18 i, .inl (g0.2.2 0, 8, .inl (fun _ => 0)))) : Nat → Nat × va_E) i = cvN g0 f r12 r17 r18 r27 fc12 fc17 fc18 fc27 (116 + i) := by
  have h1 : kd (116 + i) = 1 := by unfold kd; rw [if_neg (by omega), if_neg (by omega)]
  have h2 : ulen (116 + i) = 8 := by unfold ulen; rw [if_neg (by omega), if_neg (by omega), if_neg (by omega), if_pos (by omega)]
  have h3 : (adF f r12 r17 r18 r27) (116 + i) = r18 i := by unfold adF; rw [if_neg (by omega), if_neg (by omega), if_neg (by omega), if_pos (by omega), Nat.add_sub_cancel_left]
  have h4 : B0 (116 + i) = fun _ => 0 := by funext j; unfold B0; rw [if_neg (by omega)]
  unfold cvN cvE
  rw [if_neg (by omega), if_neg (by omega), if_neg (by omega), if_neg (by omega)]
  unfold us sh
  rw [h1, h2, h3, h4]
  all_goals rfl
theorem cv_r27 (g0 : uG) (f r12 r17 r18 r27 : Nat → Nat) (fc12 fc17 fc18 fc27 : Nat → Option Nat) (i : Nat) (hi : i < 10) : ((fun i => (r27 i, .inl (g0.2.2 0, 10, .inl (fun _ => 0)))) : Nat → Nat × va_E) i = cvN g0 f r12 r17 r18 r27 fc12 fc17 fc18 fc27 (176 + i) := by
  have h1 : kd (176 + i) = 1 := by unfold kd; rw [if_neg (by omega), if_neg (by omega)]
  have h2 : ulen (176 + i) = 10 := by unfold ulen; rw [if_neg (by omega), if_neg (by omega), if_neg (by omega), if_neg (by omega)]
  have h3 : (adF f r12 r17 r18 r27) (176 + i) = r27 i := by unfold adF; rw [if_neg (by omega), if_neg (by omega), if_neg (by omega), if_neg (by omega), Nat.add_sub_cancel_left]
  have h4 : B0 (176 + i) = fun _ => 0 := by funext j; unfold B0; rw [if_neg (by omega)]
  unfold cvN cvE
  rw [if_neg (by omega), if_neg (by omega), if_neg (by omega), if_neg (by omega)]
  unfold us sh
  rw [h1, h2, h3, h4]
  all_goals rfl
def cvW1 (g0 : uG) (f r12 r17 r18 r27 : Nat → Nat) (fc12 fc17 fc18 fc27 : Nat → Option Nat) : va_W := (((f 1), .inr (2, [.int 0, .long 1, .ref (f 6), .ref (f 7), .ref (f 8), .ref (f 9), .ref (f 10), .ref (f 11), .ref (f 12)])) :: (((((((([] : va_W) ++ [((f 6), .inl (g0.2.2 0, 8, .inl (fun _ => 0)))]) ++ [((f 7), .inl (g0.2.2 0, 8, .inl (fun _ => 0)))]) ++ [((f 8), .inl (g0.2.2 0, 8, .inl (fun _ => 0)))]) ++ [((f 9), .inl (g0.2.2 0, 8, .inl (fun _ => 0)))]) ++ [((f 10), .inl (g0.2.2 0, 8, .inl (fun _ => 0)))]) ++ [((f 11), .inl (g0.2.2 1, 8, .inr (.inl (fun _ => 0))))]) ++ (((f 12), .inl (g0.2.2 3, 8, .inr (.inr (.inr (.inr fc12))))) :: (List.range 8).map (fun i => (r12 i, .inl (g0.2.2 1, 30, .inr (.inl (fun _ => 0))))))))
def cvW2 (g0 : uG) (f r12 r17 r18 r27 : Nat → Nat) (fc12 fc17 fc18 fc27 : Nat → Option Nat) : va_W := (((f 2), .inr (3, [.int 0, .int 0, .ref (f 13), .ref (f 14), .ref (f 15), .ref (f 16), .ref (f 17), .ref (f 1), .ref (f 18), .ref (f 19), .ref (f 20), .ref (f 21)])) :: (((((((((([] : va_W) ++ [((f 13), .inl (g0.2.2 1, 60, .inr (.inl (fun _ => 0))))]) ++ [((f 14), .inl (g0.2.2 0, 60, .inl (fun _ => 0)))]) ++ [((f 15), .inl (g0.2.2 0, 60, .inl (fun _ => 0)))]) ++ [((f 16), .inl (g0.2.2 0, 60, .inl (fun _ => 0)))]) ++ (((f 17), .inl (g0.2.2 4, 60, .inr (.inr (.inr (.inr fc17))))) :: (List.range 60).map (fun i => (r17 i, .inl (g0.2.2 0, 20, .inl (fun _ => 0)))))) ++ (((f 18), .inl (g0.2.2 4, 60, .inr (.inr (.inr (.inr fc18))))) :: (List.range 60).map (fun i => (r18 i, .inl (g0.2.2 0, 8, .inl (fun _ => 0)))))) ++ [((f 19), .inl (g0.2.2 0, 5, .inl (fun _ => 0)))]) ++ [((f 20), .inl (g0.2.2 0, 5, .inl (fun _ => 0)))]) ++ [((f 21), .inl (g0.2.2 0, 60, .inl (fun _ => 0)))]))
def cvW3 (g0 : uG) (f r12 r17 r18 r27 : Nat → Nat) (fc12 fc17 fc18 fc27 : Nat → Option Nat) : va_W := (((f 3), .inr (1, [.int 0, .long 0, .ref (f 22), .ref (f 23), .int 0, .int 0, .int 0, .int 0, .int 0, .int 0])) :: ((([] : va_W) ++ [((f 22), .inl (g0.2.2 0, 60, .inl (fun _ => 0)))]) ++ [((f 23), .inl (g0.2.2 0, 60, .inl (fun _ => 0)))]))
def cvW4 (g0 : uG) (f r12 r17 r18 r27 : Nat → Nat) (fc12 fc17 fc18 fc27 : Nat → Option Nat) : va_W := (((f 4), .inr (0, [.int 0, .int 0, .int 0, .ref (f 24), .ref (f 25), .ref (f 26), .ref (f 27), .ref (f 28)])) :: (((((([] : va_W) ++ [((f 24), .inl (g0.2.2 0, 200, .inl (fun _ => 0)))]) ++ [((f 25), .inl (g0.2.2 0, 200, .inl (fun _ => 0)))]) ++ [((f 26), .inl (g0.2.2 0, 10, .inl (fun _ => 0)))]) ++ (((f 27), .inl (g0.2.2 4, 10, .inr (.inr (.inr (.inr fc27))))) :: (List.range 10).map (fun i => (r27 i, .inl (g0.2.2 0, 10, .inl (fun _ => 0)))))) ++ [((f 28), .inl (g0.2.2 1, 200, .inr (.inl (fun _ => 0))))]))
def cvW6 (g0 : uG) (f r12 r17 r18 r27 : Nat → Nat) (fc12 fc17 fc18 fc27 : Nat → Option Nat) : va_W := (((f 5), .inr (5, [.int 0, .ref (f 29), .ref (f 30), .ref (f 31), .ref (f 32), .ref (f 33), .int 0, .ref (f 34), .ref (f 35), .ref (f 36), .ref (f 37), .ref (f 38), .ref (f 39), .int 0, .ref (f 40), .int 0, .ref (f 41), .ref (f 42), .ref (f 43), .ref (f 44), .int 0, .int 0, .int 0, .int 0, .long 0, .int 0, .int 0, .int 0, .ref (f 45), .ref (f 46), .ref (f 47)])) :: (((((((((((((((((((([] : va_W) ++ [((f 29), .inl (g0.2.2 0, 8, .inl (fun _ => 0)))]) ++ [((f 30), .inl (g0.2.2 0, 8, .inl (fun _ => 0)))]) ++ [((f 31), .inl (g0.2.2 0, 8, .inl (fun _ => 0)))]) ++ [((f 32), .inl (g0.2.2 1, 8, .inr (.inl (fun _ => 0))))]) ++ [((f 33), .inl (g0.2.2 0, 16, .inl (fun _ => 0)))]) ++ [((f 34), .inl (g0.2.2 1, 60, .inr (.inl (fun _ => 0))))]) ++ [((f 35), .inl (g0.2.2 0, 60, .inl (fun _ => 0)))]) ++ [((f 36), .inl (g0.2.2 0, 60, .inl (fun _ => 0)))]) ++ [((f 37), .inl (g0.2.2 0, 60, .inl (fun _ => 0)))]) ++ [((f 38), .inl (g0.2.2 0, 1200, .inl (fun _ => 0)))]) ++ [((f 39), .inl (g0.2.2 2, 60, .inl (fun _ => 0)))]) ++ [((f 40), .inl (g0.2.2 0, 60, .inl (fun _ => 0)))]) ++ [((f 41), .inl (g0.2.2 2, 60, .inl (fun _ => 0)))]) ++ [((f 42), .inl (g0.2.2 2, 60, .inl (fun _ => 0)))]) ++ [((f 43), .inl (g0.2.2 2, 60, .inl (fun _ => 0)))]) ++ [((f 44), .inl (g0.2.2 0, 60, .inl (fun _ => 0)))]) ++ [((f 45), .inl (g0.2.2 0, 200, .inl (fun _ => 0)))]) ++ [((f 46), .inl (g0.2.2 2, 10, .inl (fun _ => 0)))]) ++ [((f 47), .inl (g0.2.2 0, 6000, .inl (fun _ => 0)))]))
def cvW5 (g0 : uG) (f r12 r17 r18 r27 : Nat → Nat) (fc12 fc17 fc18 fc27 : Nat → Option Nat) : va_W := (((f 0), .inr (4, [.ref (f 1), .ref (f 2), .ref (f 3), .ref (f 4)])) :: ((((([] : va_W) ++ (cvW1 g0 f r12 r17 r18 r27 fc12 fc17 fc18 fc27)) ++ (cvW2 g0 f r12 r17 r18 r27 fc12 fc17 fc18 fc27)) ++ (cvW3 g0 f r12 r17 r18 r27 fc12 fc17 fc18 fc27)) ++ (cvW4 g0 f r12 r17 r18 r27 fc12 fc17 fc18 fc27)))
def cvW (g0 : uG) (f r12 r17 r18 r27 : Nat → Nat) (fc12 fc17 fc18 fc27 : Nat → Option Nat) : va_W := (([] : va_W) ++ cvW5 g0 f r12 r17 r18 r27 fc12 fc17 fc18 fc27) ++ cvW6 g0 f r12 r17 r18 r27 fc12 fc17 fc18 fc27
set_option maxHeartbeats 4000000 in
set_option maxRecDepth 100000 in
theorem cv_e1 (g0 : uG) (f r12 r17 r18 r27 : Nat → Nat) (fc12 fc17 fc18 fc27 : Nat → Option Nat) (N : Nat → Nat × va_E) (hN : N = cvN g0 f r12 r17 r18 r27 fc12 fc17 fc18 fc27) : cvW1 g0 f r12 r17 r18 r27 fc12 fc17 fc18 fc27 = (N 1 :: (((((((([] : va_W) ++ [N 6]) ++ [N 7]) ++ [N 8]) ++ [N 9]) ++ [N 10]) ++ [N 11]) ++ (N 12 :: (List.range' 48 8).map N))) := by
  subst hN
  unfold cvW1
  rw [cv_rows 8 48 (cv_r12 g0 f r12 r17 r18 r27 fc12 fc17 fc18 fc27)]
  rfl
set_option maxHeartbeats 4000000 in
set_option maxRecDepth 100000 in
theorem cv_e2 (g0 : uG) (f r12 r17 r18 r27 : Nat → Nat) (fc12 fc17 fc18 fc27 : Nat → Option Nat) (N : Nat → Nat × va_E) (hN : N = cvN g0 f r12 r17 r18 r27 fc12 fc17 fc18 fc27) : cvW2 g0 f r12 r17 r18 r27 fc12 fc17 fc18 fc27 = (N 2 :: (((((((((([] : va_W) ++ [N 13]) ++ [N 14]) ++ [N 15]) ++ [N 16]) ++ (N 17 :: (List.range' 56 60).map N)) ++ (N 18 :: (List.range' 116 60).map N)) ++ [N 19]) ++ [N 20]) ++ [N 21])) := by
  subst hN
  unfold cvW2
  rw [cv_rows 60 56 (cv_r17 g0 f r12 r17 r18 r27 fc12 fc17 fc18 fc27), cv_rows 60 116 (cv_r18 g0 f r12 r17 r18 r27 fc12 fc17 fc18 fc27)]
  rfl
set_option maxHeartbeats 4000000 in
set_option maxRecDepth 100000 in
theorem cv_e3 (g0 : uG) (f r12 r17 r18 r27 : Nat → Nat) (fc12 fc17 fc18 fc27 : Nat → Option Nat) (N : Nat → Nat × va_E) (hN : N = cvN g0 f r12 r17 r18 r27 fc12 fc17 fc18 fc27) : cvW3 g0 f r12 r17 r18 r27 fc12 fc17 fc18 fc27 = (N 3 :: ((([] : va_W) ++ [N 22]) ++ [N 23])) := by
  subst hN
  unfold cvW3
  rfl
set_option maxHeartbeats 4000000 in
set_option maxRecDepth 100000 in
theorem cv_e4 (g0 : uG) (f r12 r17 r18 r27 : Nat → Nat) (fc12 fc17 fc18 fc27 : Nat → Option Nat) (N : Nat → Nat × va_E) (hN : N = cvN g0 f r12 r17 r18 r27 fc12 fc17 fc18 fc27) : cvW4 g0 f r12 r17 r18 r27 fc12 fc17 fc18 fc27 = (N 4 :: (((((([] : va_W) ++ [N 24]) ++ [N 25]) ++ [N 26]) ++ (N 27 :: (List.range' 176 10).map N)) ++ [N 28])) := by
  subst hN
  unfold cvW4
  rw [cv_rows 10 176 (cv_r27 g0 f r12 r17 r18 r27 fc12 fc17 fc18 fc27)]
  rfl
set_option maxHeartbeats 4000000 in
set_option maxRecDepth 100000 in
theorem cv_e6 (g0 : uG) (f r12 r17 r18 r27 : Nat → Nat) (fc12 fc17 fc18 fc27 : Nat → Option Nat) (N : Nat → Nat × va_E) (hN : N = cvN g0 f r12 r17 r18 r27 fc12 fc17 fc18 fc27) : cvW6 g0 f r12 r17 r18 r27 fc12 fc17 fc18 fc27 = (N 5 :: (((((((((((((((((((([] : va_W) ++ [N 29]) ++ [N 30]) ++ [N 31]) ++ [N 32]) ++ [N 33]) ++ [N 34]) ++ [N 35]) ++ [N 36]) ++ [N 37]) ++ [N 38]) ++ [N 39]) ++ [N 40]) ++ [N 41]) ++ [N 42]) ++ [N 43]) ++ [N 44]) ++ [N 45]) ++ [N 46]) ++ [N 47])) := by
  subst hN
  unfold cvW6
  rfl
set_option maxHeartbeats 4000000 in
set_option maxRecDepth 100000 in
theorem cv_all (g0 : uG) (f r12 r17 r18 r27 : Nat → Nat) (fc12 fc17 fc18 fc27 : Nat → Option Nat) : cvW g0 f r12 r17 r18 r27 fc12 fc17 fc18 fc27 = cvF.map (cvN g0 f r12 r17 r18 r27 fc12 fc17 fc18 fc27) := by
  rw [← cv_N (cvN g0 f r12 r17 r18 r27 fc12 fc17 fc18 fc27)]
  unfold cvW cvW5
  rw [cv_e1 g0 f r12 r17 r18 r27 fc12 fc17 fc18 fc27 _ rfl, cv_e2 g0 f r12 r17 r18 r27 fc12 fc17 fc18 fc27 _ rfl, cv_e3 g0 f r12 r17 r18 r27 fc12 fc17 fc18 fc27 _ rfl, cv_e4 g0 f r12 r17 r18 r27 fc12 fc17 fc18 fc27 _ rfl, cv_e6 g0 f r12 r17 r18 r27 fc12 fc17 fc18 fc27 _ rfl]
  rfl
theorem cv_at {g : uG} {fc12 fc17 fc18 fc27 : Nat → Option Nat} {f r12 r17 r18 r27 : Nat → Nat} (eg : g.2.1 = adF f r12 r17 r18 r27) (h12 : ∀ i, i < 8 → fc12 i = some (r12 i)) (h17 : ∀ i, i < 60 → fc17 i = some (r17 i)) (h18 : ∀ i, i < 60 → fc18 i = some (r18 i)) (h27 : ∀ i, i < 10 → fc27 i = some (r27 i)) {H : Heap} (k a : Nat) (h : va_at g.1 vwCl (a, cvE g fc12 fc17 fc18 fc27 k) H) : va_at g.1 vwCl (a, us g A0 B0 k) H := by
  have go : ∀ (n : Nat) (cA : ClassId) (fc fc' : Nat → Option Nat), (∀ i, i < n → fc i = fc' i) → va_at g.1 vwCl (a, .inl (cA, n, .inr (.inr (.inr (.inr fc))))) H → va_at g.1 vwCl (a, .inl (cA, n, .inr (.inr (.inr (.inr fc'))))) H := by
    intro n cA fc fc' hf h
    have h1 : H[a]? = some (arrV cA n (fun j => va_rf (fc j))) := h
    show H[a]? = some (arrV cA n (fun j => va_rf (fc' j)))
    rw [h1, arrV_congr (fun j hj => by rw [hf j hj])]
  unfold cvE at h
  by_cases e12 : k = 12
  · subst e12
    exact go 8 _ fc12 (fun i => some (g.2.1 (48 + i))) (fun i hi => by rw [h12 i hi, eg]; unfold adF; rw [if_neg (by omega), if_pos (by omega), Nat.add_sub_cancel_left]) h
  rw [if_neg e12] at h
  by_cases e17 : k = 17
  · subst e17
    exact go 60 _ fc17 (fun i => some (g.2.1 (56 + i))) (fun i hi => by rw [h17 i hi, eg]; unfold adF; rw [if_neg (by omega), if_neg (by omega), if_pos (by omega), Nat.add_sub_cancel_left]) h
  rw [if_neg e17] at h
  by_cases e18 : k = 18
  · subst e18
    exact go 60 _ fc18 (fun i => some (g.2.1 (116 + i))) (fun i hi => by rw [h18 i hi, eg]; unfold adF; rw [if_neg (by omega), if_neg (by omega), if_neg (by omega), if_pos (by omega), Nat.add_sub_cancel_left]) h
  rw [if_neg e18] at h
  by_cases e27 : k = 27
  · subst e27
    exact go 10 _ fc27 (fun i => some (g.2.1 (176 + i))) (fun i hi => by rw [h27 i hi, eg]; unfold adF; rw [if_neg (by omega), if_neg (by omega), if_neg (by omega), if_neg (by omega), Nat.add_sub_cancel_left]) h
  rw [if_neg e27] at h
  exact h
theorem cv_nd : va_nd cvL = true := by decide +kernel
theorem cv_U {sz : Nat} {H : Heap} (g0 : uG) {f : Nat → Nat} {r12 r17 r18 r27 : Nat → Nat} {fc12 fc17 fc18 fc27 : Nat → Option Nat} (h12 : ∀ i, i < 8 → fc12 i = some (r12 i)) (h17 : ∀ i, i < 60 → fc17 i = some (r17 i)) (h18 : ∀ i, i < 60 → fc18 i = some (r18 i)) (h27 : ∀ i, i < 10 → fc27 i = some (r27 i))
    (hP : va_P g0.1 vwCl (cvW g0 f r12 r17 r18 r27 fc12 fc17 fc18 fc27) H) (hD : va_D (fun q => sz ≤ q) (cvW g0 f r12 r17 r18 r27 fc12 fc17 fc18 fc27)) : UP (g0.1, (adF f r12 r17 r18 r27), g0.2.2) A0 B0 H ∧ (∀ i j : Nat, i < NW → j < NW → (adF f r12 r17 r18 r27) i = (adF f r12 r17 r18 r27) j → i = j) ∧ ∀ q, FA (g0.1, (adF f r12 r17 r18 r27), g0.2.2) q → sz ≤ q := by
  rw [cv_all g0 f r12 r17 r18 r27 fc12 fc17 fc18 fc27] at hP hD
  have hm : cvL.map (fun i => (cvF.map (cvN g0 f r12 r17 r18 r27 fc12 fc17 fc18 fc27))[i]?) = (uw 186 (adF f r12 r17 r18 r27) (cvE (g0.1, (adF f r12 r17 r18 r27), g0.2.2) fc12 fc17 fc18 fc27)).map some := cv_map _
  have hP2 := cw_subP hP cvL hm
  have hD2 := hD.sub cvL cv_nd hm
  clear hm hP hD
  refine ⟨fun k q hk => ?_, fun i j hi hj e => hD2.1 i j _ _ (uw_at hi) (uw_at hj) e, fun q hq => ?_⟩
  · obtain ⟨h1, e1⟩ := uw_get hk
    subst e1
    exact cv_at (f := f) rfl h12 h17 h18 h27 k _ (hP2 k _ (uw_at h1))
  · obtain ⟨k, h1, e1⟩ := hq
    subst e1
    exact hD2.2 k _ (uw_at h1)
