abbrev rmJ7_fill_53178 : Room := { frames := 0, cells := 0, slots := 0, locals := 0 }
def wp_J7_fill_53178_5 (E20 : SA → Prop) (Q : SA → Prop) (v0 : Nat) (v1 : Int32) (v3 : Int32) (B : SB) : Nat → Int32 → SA → Prop
  | 0, _, _ => False
  | n + 1, v2, A =>
    ((v3 ≤ v2 →
      E20 A
    ) ∧ (¬ v3 ≤ v2 →
      (kd v0 = 1 ∧ v0 < NW ∧ vp_in v2 (ulen v0)) ∧
      ∀ v2_8 : Int32, v2_8 = v2 + 1 →
      wp_J7_fill_53178_5 E20 Q v0 v1 v3 B n v2_8 (u2 A v0 v2.toNatClampNeg v1)
    ))
def wp_J7_fill_53178 (a0 : Nat) (a1 : Int32) (A : SA) (B : SB) (Q : SA → Prop) : Prop :=
  ((kd a0 = 1 ∨ kd a0 = 2) ∧ a0 < NW) ∧
  ∀ x_3 : Int32, x_3 = (nI (ulen a0)) →
  ∃ n_9 : Nat, wp_J7_fill_53178_5
    (fun (A_10 : SA) =>
      Q A_10
    )
    Q a0 a1 x_3 B n_9 (0 : Int32) A
abbrev rmX2_hash : Room := { frames := 0, cells := 0, slots := 0, locals := 0 }
def wp_X2_hash (a0 : Int32) (a1 : Int32) (A : SA) (B : SB) (Q : Int32 → Prop) : Prop :=
  ∀ x_1 : Int32, x_1 = (a0 + (a1 * (-1640531527 : Int32))) →
  ∀ x_2 : Int32, x_2 = ((x_1 ^^^ (x_1.toUInt32 >>> ((16 : Int32).toUInt32 &&& Int32.toUInt32 31)).toInt32) * (-2048144789 : Int32)) →
  ∀ x_3 : Int32, x_3 = ((x_2 ^^^ (x_2.toUInt32 >>> ((13 : Int32).toUInt32 &&& Int32.toUInt32 31)).toInt32) * (-1028477387 : Int32)) →
  Q (x_3 ^^^ (x_3.toUInt32 >>> ((16 : Int32).toUInt32 &&& Int32.toUInt32 31)).toInt32)
abbrev rmX0_sortIn : Room := { frames := 1, cells := 0, slots := 0, locals := 60 }
theorem hX0_sortIn_X0 : ∀ w ∈ wsX00, w ∈ wsX0_sortIn := fun w h => List.mem_cons_of_mem _ (List.mem_append_right _ h)
def wp_X0_sortIn_9 (E63 : Int32 → Prop) (Q : SB → Prop) (v1 : Int64) (v3 : Int32) (A : SA) (B : SB) : Nat → Int32 → Int32 → Int32 → Prop
  | 0, _, _, _ => False
  | n + 1, v4, v5, v6 =>
    (((8 : Int32) ≤ v6 →
      E63 v4
    ) ∧ (¬ (8 : Int32) ≤ v6 →
      ((v5 ≤ v4 →
        E63 v4
      ) ∧ (¬ v5 ≤ v4 →
        ∀ x_3 : Int32, x_3 = ((v4 + v5) / (2 : Int32)) →
        vp_in x_3 200 ∧
        ((v1 ≤ (B 28 x_3.toNatClampNeg) →
          ∀ v6_6 : Int32, v6_6 = v6 + 1 →
          wp_X0_sortIn_9 E63 Q v1 v3 A B n v4 x_3 v6_6
        ) ∧ (¬ v1 ≤ (B 28 x_3.toNatClampNeg) →
          ∀ x_7 : Int32, x_7 = (x_3 + (1 : Int32)) →
          ∀ v6_8 : Int32, v6_8 = v6 + 1 →
          wp_X0_sortIn_9 E63 Q v1 v3 A B n x_7 v5 v6_8
        ))
      ))
    ))
def wp_X0_sortIn (a0 : Int64) (a1 : Int32) (A : SA) (B : SB) (Q : SB → Prop) : Prop :=
  ∃ n_9 : Nat, wp_X0_sortIn_9
    (fun (v4_10 : Int32) =>
      (¬ v4_10 < 0 ∧ ¬ (v4_10 + (1 : Int32)) < 0 ∧ ¬ (a1 - v4_10) < 0 ∧ v4_10.toNatClampNeg + (a1 - v4_10).toNatClampNeg ≤ 200 ∧ (v4_10 + (1 : Int32)).toNatClampNeg + (a1 - v4_10).toNatClampNeg ≤ 200) ∧
      vp_in v4_10 200 ∧
      Q (u2L (va_up B 28 (va_cpy (B 28) (B 28) v4_10.toNatClampNeg (v4_10 + (1 : Int32)).toNatClampNeg (a1 - v4_10).toNatClampNeg)) 28 v4_10.toNatClampNeg a0)
    )
    Q a0 a1 A B n_9 (0 : Int32) a1 (0 : Int32)
abbrev rmX5_rest : Room := { frames := 0, cells := 0, slots := 0, locals := 0 }
def wp_X5_rest (a0 : Int64) (a1 : Int64) (A : SA) (B : SB) (Q : Int64 → Prop) : Prop :=
  ((a1 ≤ (0 : Int64) →
    Q (0 : Int64)
  ) ∧ (¬ a1 ≤ (0 : Int64) →
    (¬ a1 = 0) ∧
    Q (a0 - a0 / a1 * a1)
  ))
abbrev rmX5_cut : Room := { frames := 0, cells := 0, slots := 0, locals := 0 }
def wp_X5_cut (a0 : Int64) (a1 : Int64) (A : SA) (B : SB) (Q : Int64 → Prop) : Prop :=
  ((a1 ≤ (0 : Int64) →
    Q (0 : Int64)
  ) ∧ (¬ a1 ≤ (0 : Int64) →
    (¬ a1 = 0) ∧
    Q (a0 / a1)
  ))
abbrev rmX0_make : Room := { frames := 2, cells := 0, slots := 0, locals := 87 }
theorem hX0_make_X0 : ∀ w ∈ wsX00, w ∈ wsX0_make := fun w h => List.mem_cons_of_mem _ (List.mem_append_right _ h)
def wp_X0_make_26 (E50 : SA → Prop) (Q : SA → SB → Prop) (v4 : Int32) (B : SB) : Nat → Int32 → SA → Prop
  | 0, _, _ => False
  | n + 1, v5, A =>
    (((10 : Int32) ≤ v5 →
      E50 A
    ) ∧ (¬ (10 : Int32) ≤ v5 →
      vp_in v5 10 ∧
      wp_J7_fill_53178 (176 + v5.toNatClampNeg) (0 : Int32) A B (fun (A_7 : SA) =>
        ∀ v5_9 : Int32, v5_9 = v5 + 1 →
        wp_X0_make_26 E50 Q v4 B n v5_9 A_7
      )
    ))
def wp_X0_make_53 (E89 : SB → Prop) (Q : SA → SB → Prop) (v4 : Int32) (A : SA) : Nat → Int32 → SB → Prop
  | 0, _, _ => False
  | n + 1, v5, B =>
    (((A 4 0) ≤ v5 →
      E89 B
    ) ∧ (¬ (A 4 0) ≤ v5 →
      wp_X2_hash v4 v5 A B (fun (r_13 : Int32) =>
        wp_X0_sortIn ((r_13.toInt64 <<< ((8 : Int32).toInt64 &&& 63)) ||| v5.toInt64) v5 A B (fun (B_18 : SB) =>
          ∀ v5_19 : Int32, v5_19 = v5 + 1 →
          wp_X0_make_53 E89 Q v4 A n v5_19 B_18
        )
      )
    ))
def wp_X0_make_92 (E167 : SA → Prop) (Q : SA → SB → Prop) (B : SB) : Nat → Int32 → SA → Prop
  | 0, _, _ => False
  | n + 1, v5, A =>
    (((A 4 0) ≤ v5 →
      E167 A
    ) ∧ (¬ (A 4 0) ≤ v5 →
      vp_in v5 200 ∧
      ∀ x_24 : Int32, x_24 = ((B 28 v5.toNatClampNeg).toInt32 &&& (255 : Int32)) →
      wp_X5_rest v5.toInt64 (A 4 1).toInt64 A B (fun (r_25 : Int64) =>
        ∀ x_28 : Int32, x_28 = r_25.toInt32 →
        vp_in x_24 200 ∧
        wp_X5_cut v5.toInt64 (A 4 1).toInt64 (u2 A 24 x_24.toNatClampNeg x_28) B (fun (r_30 : Int64) =>
          wp_X5_rest r_30 (A 4 2).toInt64 (u2 A 24 x_24.toNatClampNeg x_28) B (fun (r_33 : Int64) =>
            ∀ x_36 : Int32, x_36 = r_33.toInt32 →
            vp_in x_24 200 ∧
            ∀ v5_38 : Int32, v5_38 = v5 + 1 →
            wp_X0_make_92 E167 Q B n v5_38 (u2 (u2 A 24 x_24.toNatClampNeg x_28) 25 x_24.toNatClampNeg x_36)
          )
        )
      )
    ))
def wp_X0_make (a0 : Int32) (a1 : Int32) (a2 : Int32) (a3 : Int32) (A : SA) (B : SB) (Q : SA → SB → Prop) : Prop :=
  wp_J7_fill_53178 26 (0 : Int32) (u2 (u2 (u2 A 4 0 a0) 4 1 a1) 4 2 a2) B (fun (A_2 : SA) =>
    ∃ n_10 : Nat, wp_X0_make_26
      (fun (A_11 : SA) =>
        ∃ n_20 : Nat, wp_X0_make_53
          (fun (B_21 : SB) =>
            ∃ n_39 : Nat, wp_X0_make_92
              (fun (A_40 : SA) =>
                Q A_40 B_21
              )
              Q B_21 n_39 (0 : Int32) A_11
          )
          Q a3 A_11 n_20 (0 : Int32) B
      )
      Q a3 B n_10 (0 : Int32) A_2
  )
abbrev rmX0_test : Room := { frames := 0, cells := 0, slots := 0, locals := 0 }
theorem hX0_test_X0 : ∀ w ∈ wsX00, w ∈ wsX0_test := fun w h => List.mem_cons_of_mem _ (List.mem_append_right _ h)
def wp_X0_test_14 (E41 : Int32 → Prop) (Q : Int32 → SA → Prop) (v1 : Int32) (A : SA) (B : SB) : Nat → Int32 → Int32 → Prop
  | 0, _, _ => False
  | n + 1, v2, v3 =>
    (((A 4 0) ≤ v3 →
      E41 v2
    ) ∧ (¬ (A 4 0) ≤ v3 →
      vp_in v3 200 ∧
      ((¬ (A 24 v3.toNatClampNeg) = v1 →
        ∀ v3_7 : Int32, v3_7 = v3 + 1 →
        wp_X0_test_14 E41 Q v1 A B n v2 v3_7
      ) ∧ ((A 24 v3.toNatClampNeg) = v1 →
        ∀ v2_8 : Int32, v2_8 = v2 + 1 →
        ∀ v3_9 : Int32, v3_9 = v3 + 1 →
        wp_X0_test_14 E41 Q v1 A B n v2_8 v3_9
      ))
    ))
def wp_X0_test (a0 : Int32) (A : SA) (B : SB) (Q : Int32 → SA → Prop) : Prop :=
  vp_in a0 10 ∧
  ∀ x_2 : Int32, x_2 = ((A 26 a0.toNatClampNeg) + (1 : Int32)) →
  vp_in a0 10 ∧
  ∃ n_10 : Nat, wp_X0_test_14
    (fun (v2_11 : Int32) =>
      Q v2_11 (u2 A 26 a0.toNatClampNeg x_2)
    )
    Q a0 (u2 A 26 a0.toNatClampNeg x_2) B n_10 (0 : Int32) (0 : Int32)
abbrev rmX0_choose : Room := { frames := 0, cells := 0, slots := 0, locals := 0 }
theorem hX0_choose_X0 : ∀ w ∈ wsX00, w ∈ wsX0_choose := fun w h => List.mem_cons_of_mem _ (List.mem_append_right _ h)
def wp_X0_choose_17 (E57 : Int32 → Prop) (Q : Int32 → SA → Prop) (v1 : Int32) (v2 : Int32) (A : SA) (B : SB) : Nat → Int32 → Int32 → Prop
  | 0, _, _ => False
  | n + 1, v3, v4 =>
    (((A 4 0) ≤ v4 →
      E57 v3
    ) ∧ (¬ (A 4 0) ≤ v4 →
      vp_in v4 200 ∧
      (((A 24 v4.toNatClampNeg) = v1 →
        ∀ v4_8 : Int32, v4_8 = v4 + 1 →
        wp_X0_choose_17 E57 Q v1 v2 A B n v3 v4_8
      ) ∧ (¬ (A 24 v4.toNatClampNeg) = v1 →
        vp_in v4 200 ∧
        ((¬ (A 25 v4.toNatClampNeg) = v2 →
          ∀ v4_11 : Int32, v4_11 = v4 + 1 →
          wp_X0_choose_17 E57 Q v1 v2 A B n v3 v4_11
        ) ∧ ((A 25 v4.toNatClampNeg) = v2 →
          ∀ v3_12 : Int32, v3_12 = v3 + 1 →
          ∀ v4_13 : Int32, v4_13 = v4 + 1 →
          wp_X0_choose_17 E57 Q v1 v2 A B n v3_12 v4_13
        ))
      ))
    ))
def wp_X0_choose (a0 : Int32) (a1 : Int32) (A : SA) (B : SB) (Q : Int32 → SA → Prop) : Prop :=
  vp_in a0 10 ∧
  vp_in a1 10 ∧
  ∀ x_3 : Int32, x_3 = ((A (176 + a0.toNatClampNeg) a1.toNatClampNeg) + (1 : Int32)) →
  vp_in a1 10 ∧
  ∃ n_14 : Nat, wp_X0_choose_17
    (fun (v3_15 : Int32) =>
      Q v3_15 (u2 A (176 + a0.toNatClampNeg) a1.toNatClampNeg x_3)
    )
    Q a0 a1 (u2 A (176 + a0.toNatClampNeg) a1.toNatClampNeg x_3) B n_14 (0 : Int32) (0 : Int32)
abbrev rmX0_trained : Room := { frames := 0, cells := 0, slots := 0, locals := 0 }
theorem hX0_trained_X0 : ∀ w ∈ wsX00, w ∈ wsX0_trained := fun w h => List.mem_cons_of_mem _ (List.mem_append_right _ h)
def wp_X0_trained_22 (E60 : Int32 → Prop) (Q : Int32 → Prop) (v1 : Int32) (v2 : Int32) (A : SA) (B : SB) : Nat → Int32 → Int32 → Prop
  | 0, _, _ => False
  | n + 1, v3, v4 =>
    (((A 4 2) ≤ v4 →
      E60 v3
    ) ∧ (¬ (A 4 2) ≤ v4 →
      vp_in v1 200 ∧
      ((v4 = (A 25 v1.toNatClampNeg) →
        ∀ v4_8 : Int32, v4_8 = v4 + 1 →
        wp_X0_trained_22 E60 Q v1 v2 A B n v3 v4_8
      ) ∧ (¬ v4 = (A 25 v1.toNatClampNeg) →
        vp_in v2 10 ∧
        vp_in v4 10 ∧
        ∀ x_11 : Int32, x_11 = (v3 + (A (176 + v2.toNatClampNeg) v4.toNatClampNeg)) →
        ∀ v4_12 : Int32, v4_12 = v4 + 1 →
        wp_X0_trained_22 E60 Q v1 v2 A B n x_11 v4_12
      ))
    ))
def wp_X0_trained (a0 : Int32) (a1 : Int32) (A : SA) (B : SB) (Q : Int32 → Prop) : Prop :=
  vp_in a0 200 ∧
  ((¬ (A 24 a0.toNatClampNeg) = a1 →
    vp_in a1 10 ∧
    ∀ x_4 : Int32, x_4 = (A 26 a1.toNatClampNeg) →
    ∃ n_13 : Nat, wp_X0_trained_22
      (fun (v3_14 : Int32) =>
        Q v3_14
      )
      Q a0 a1 A B n_13 x_4 (0 : Int32)
  ) ∧ ((A 24 a0.toNatClampNeg) = a1 →
    Q (0 : Int32)
  ))
abbrev rmX0_validated : Room := { frames := 0, cells := 0, slots := 0, locals := 0 }
theorem hX0_validated_X0 : ∀ w ∈ wsX00, w ∈ wsX0_validated := fun w h => List.mem_cons_of_mem _ (List.mem_append_right _ h)
def wp_X0_validated (a0 : Int32) (a1 : Int32) (A : SA) (B : SB) (Q : Int32 → Prop) : Prop :=
  vp_in a0 200 ∧
  ((¬ (A 24 a0.toNatClampNeg) = a1 →
    vp_in a1 10 ∧
    vp_in a0 200 ∧
    ∀ x_5 : Int32, x_5 = (A 25 a0.toNatClampNeg) →
    vp_in x_5 10 ∧
    Q (A (176 + a1.toNatClampNeg) x_5.toNatClampNeg)
  ) ∧ ((A 24 a0.toNatClampNeg) = a1 →
    Q (0 : Int32)
  ))
abbrev rmX0_testing : Room := { frames := 0, cells := 0, slots := 0, locals := 0 }
theorem hX0_testing_X0 : ∀ w ∈ wsX00, w ∈ wsX0_testing := fun w h => List.mem_cons_of_mem _ (List.mem_append_right _ h)
def wp_X0_testing (a0 : Int32) (a1 : Int32) (A : SA) (B : SB) (Q : Int32 → Prop) : Prop :=
  vp_in a0 200 ∧
  ((¬ (A 24 a0.toNatClampNeg) = a1 →
    Q (0 : Int32)
  ) ∧ ((A 24 a0.toNatClampNeg) = a1 →
    vp_in a1 10 ∧
    Q (A 26 a1.toNatClampNeg)
  ))
abbrev rmX1_start : Room := { frames := 0, cells := 0, slots := 0, locals := 0 }
theorem hX1_start_X1 : ∀ w ∈ wsX10, w ∈ wsX1_start := fun w h => List.mem_cons_of_mem _ (List.mem_append_right _ h)
def wp_X1_start_34 (E81 : SA → Prop) (Q : SA → SB → Prop) (v1 : Int32) (v2 : Int32) (B : SB) : Nat → Int32 → SA → Prop
  | 0, _, _ => False
  | n + 1, v5, A =>
    (((60 : Int32) ≤ v5 →
      E81 A
    ) ∧ (¬ (60 : Int32) ≤ v5 →
      vp_in v5 60 ∧
      ((v5 < v1 →
        vp_in v5 60 ∧
        ∀ v5_5 : Int32, v5_5 = v5 + 1 →
        wp_X1_start_34 E81 Q v1 v2 B n v5_5 (u2 (u2 A 22 v5.toNatClampNeg (0 : Int32)) 23 v5.toNatClampNeg (0 : Int32))
      ) ∧ (¬ v5 < v1 →
        ((v2 ≤ (v5 - v1) →
          vp_in v5 60 ∧
          ∀ v5_8 : Int32, v5_8 = v5 + 1 →
          wp_X1_start_34 E81 Q v1 v2 B n v5_8 (u2 (u2 A 22 v5.toNatClampNeg (0 : Int32)) 23 v5.toNatClampNeg (0 : Int32))
        ) ∧ (¬ v2 ≤ (v5 - v1) →
          vp_in v5 60 ∧
          ∀ v5_10 : Int32, v5_10 = v5 + 1 →
          wp_X1_start_34 E81 Q v1 v2 B n v5_10 (u2 (u2 A 22 v5.toNatClampNeg (0 : Int32)) 23 v5.toNatClampNeg (1 : Int32))
        ))
      ))
    ))
def wp_X1_start (a0 : Int32) (a1 : Int32) (a2 : Int32) (a3 : Int32) (A : SA) (B : SB) (Q : SA → SB → Prop) : Prop :=
  ∃ n_11 : Nat, wp_X1_start_34
    (fun (A_12 : SA) =>
      Q (u2 (u2 A_12 3 5 a1) 3 6 a1) (u2L B 3 1 (0 : Int64))
    )
    Q a0 a1 (u2L B 3 1 (0 : Int64)) n_11 (0 : Int32) (u2 (u2 (u2 (u2 (u2 A 3 0 (1 : Int32)) 3 4 (0 : Int32)) 3 7 (0 : Int32)) 3 8 a2) 3 9 a3)
abbrev rmX1_isIn : Room := { frames := 0, cells := 0, slots := 0, locals := 0 }
theorem hX1_isIn_X1 : ∀ w ∈ wsX10, w ∈ wsX1_isIn := fun w h => List.mem_cons_of_mem _ (List.mem_append_right _ h)
def wp_X1_isIn (a0 : Int32) (A : SA) (B : SB) (Q : Int32 → Prop) : Prop :=
  vp_in a0 60 ∧
  (((A 23 a0.toNatClampNeg) = 0 →
    Q (0 : Int32)
  ) ∧ (¬ (A 23 a0.toNatClampNeg) = 0 →
    Q (1 : Int32)
  ))
abbrev rmX1_isWaiting : Room := { frames := 0, cells := 0, slots := 0, locals := 0 }
theorem hX1_isWaiting_X1 : ∀ w ∈ wsX10, w ∈ wsX1_isWaiting := fun w h => List.mem_cons_of_mem _ (List.mem_append_right _ h)
def wp_X1_isWaiting (a0 : Int32) (A : SA) (B : SB) (Q : Int32 → Prop) : Prop :=
  vp_in a0 60 ∧
  ((¬ (A 23 a0.toNatClampNeg) = (1 : Int32) →
    Q (0 : Int32)
  ) ∧ ((A 23 a0.toNatClampNeg) = (1 : Int32) →
    Q (1 : Int32)
  ))
abbrev rmX1_mark : Room := { frames := 0, cells := 0, slots := 0, locals := 0 }
theorem hX1_mark_X1 : ∀ w ∈ wsX10, w ∈ wsX1_mark := fun w h => List.mem_cons_of_mem _ (List.mem_append_right _ h)
def wp_X1_mark (a0 : Int32) (a1 : Int32) (a2 : Int32) (A : SA) (B : SB) (Q : Int32 → SA → SB → Prop) : Prop :=
  ((a2 = 0 →
    vp_in a0 60 ∧
    ((a2 = 0 →
      vp_in a0 60 ∧
      ∀ x_5 : Int64, x_5 = ((B 3 1) + (A 3 8).toInt64) →
      ∀ x_6 : Int32, x_6 = ((A 3 6) - (1 : Int32)) →
      Q x_6 (u2 (u2 (u2 A 23 a0.toNatClampNeg (3 : Int32)) 22 a0.toNatClampNeg (0 : Int32)) 3 6 x_6) (u2L B 3 1 x_5)
    ) ∧ (¬ a2 = 0 →
      vp_in a0 60 ∧
      ∀ x_8 : Int64, x_8 = ((B 3 1) + (A 3 8).toInt64) →
      ∀ x_9 : Int32, x_9 = ((A 3 6) - (1 : Int32)) →
      Q x_9 (u2 (u2 (u2 A 23 a0.toNatClampNeg (3 : Int32)) 22 a0.toNatClampNeg a1) 3 6 x_9) (u2L B 3 1 x_8)
    ))
  ) ∧ (¬ a2 = 0 →
    vp_in a0 60 ∧
    ((a2 = 0 →
      vp_in a0 60 ∧
      ∀ x_13 : Int64, x_13 = ((B 3 1) + (A 3 8).toInt64) →
      ∀ x_14 : Int32, x_14 = ((A 3 6) - (1 : Int32)) →
      Q x_14 (u2 (u2 (u2 A 23 a0.toNatClampNeg (2 : Int32)) 22 a0.toNatClampNeg (0 : Int32)) 3 6 x_14) (u2L B 3 1 x_13)
    ) ∧ (¬ a2 = 0 →
      vp_in a0 60 ∧
      ∀ x_16 : Int64, x_16 = ((B 3 1) + (A 3 8).toInt64) →
      ∀ x_17 : Int32, x_17 = ((A 3 6) - (1 : Int32)) →
      Q x_17 (u2 (u2 (u2 A 23 a0.toNatClampNeg (2 : Int32)) 22 a0.toNatClampNeg a1) 3 6 x_17) (u2L B 3 1 x_16)
    ))
  ))
abbrev rmX1_canEnd : Room := { frames := 0, cells := 0, slots := 0, locals := 0 }
theorem hX1_canEnd_X1 : ∀ w ∈ wsX10, w ∈ wsX1_canEnd := fun w h => List.mem_cons_of_mem _ (List.mem_append_right _ h)
def wp_X1_canEnd  (A : SA) (B : SB) (Q : Int32 → Prop) : Prop :=
  (((A 3 0) = 0 →
    Q (0 : Int32)
  ) ∧ (¬ (A 3 0) = 0 →
    ((¬ (A 3 4) = 0 →
      Q (0 : Int32)
    ) ∧ ((A 3 4) = 0 →
      ((¬ (A 3 6) = 0 →
        Q (0 : Int32)
      ) ∧ ((A 3 6) = 0 →
        Q (1 : Int32)
      ))
    ))
  ))
abbrev rmX1_keepGreatest : Room := { frames := 0, cells := 0, slots := 0, locals := 0 }
theorem hX1_keepGreatest_X1 : ∀ w ∈ wsX10, w ∈ wsX1_keepGreatest := fun w h => List.mem_cons_of_mem _ (List.mem_append_right _ h)
def wp_X1_keepGreatest_5 (E48 : Int32 → Prop) (Q : Int32 → SA → Prop) (A : SA) (B : SB) : Nat → Int32 → Int32 → Prop
  | 0, _, _ => False
  | n + 1, v1, v2 =>
    (((60 : Int32) ≤ v2 →
      E48 v1
    ) ∧ (¬ (60 : Int32) ≤ v2 →
      vp_in v2 60 ∧
      ((¬ (A 23 v2.toNatClampNeg) = (2 : Int32) →
        ∀ v2_4 : Int32, v2_4 = v2 + 1 →
        wp_X1_keepGreatest_5 E48 Q A B n v1 v2_4
      ) ∧ ((A 23 v2.toNatClampNeg) = (2 : Int32) →
        ((v1 < 0 →
          ∀ v2_6 : Int32, v2_6 = v2 + 1 →
          wp_X1_keepGreatest_5 E48 Q A B n v2 v2_6
        ) ∧ (¬ v1 < 0 →
          vp_in v2 60 ∧
          vp_in v1 60 ∧
          (((A 22 v2.toNatClampNeg) ≤ (A 22 v1.toNatClampNeg) →
            ∀ v2_10 : Int32, v2_10 = v2 + 1 →
            wp_X1_keepGreatest_5 E48 Q A B n v1 v2_10
          ) ∧ (¬ (A 22 v2.toNatClampNeg) ≤ (A 22 v1.toNatClampNeg) →
            ∀ v2_11 : Int32, v2_11 = v2 + 1 →
            wp_X1_keepGreatest_5 E48 Q A B n v2 v2_11
          ))
        ))
      ))
    ))
def wp_X1_keepGreatest  (A : SA) (B : SB) (Q : Int32 → SA → Prop) : Prop :=
  ∃ n_12 : Nat, wp_X1_keepGreatest_5
    (fun (v1_13 : Int32) =>
      ((0 ≤ v1_13 →
        vp_in v1_13 60 ∧
        Q (1 : Int32) (u2 A 23 v1_13.toNatClampNeg (4 : Int32))
      ) ∧ (¬ 0 ≤ v1_13 →
        Q (0 : Int32) A
      ))
    )
    Q A B n_12 (-2 : Int32) (0 : Int32)
abbrev rmX1_openRound : Room := { frames := 0, cells := 0, slots := 0, locals := 0 }
theorem hX1_openRound_X1 : ∀ w ∈ wsX10, w ∈ wsX1_openRound := fun w h => List.mem_cons_of_mem _ (List.mem_append_right _ h)
def wp_X1_openRound_2 (E42 : SA → Prop) (Q : SA → Prop) (B : SB) : Nat → Int32 → SA → Prop
  | 0, _, _ => False
  | n + 1, v1, A =>
    (((60 : Int32) ≤ v1 →
      E42 A
    ) ∧ (¬ (60 : Int32) ≤ v1 →
      vp_in v1 60 ∧
      ((¬ (A 23 v1.toNatClampNeg) = (4 : Int32) →
        vp_in v1 60 ∧
        vp_in v1 60 ∧
        ∀ v1_6 : Int32, v1_6 = v1 + 1 →
        wp_X1_openRound_2 E42 Q B n v1_6 (u2 (u2 A 23 v1.toNatClampNeg (0 : Int32)) 22 v1.toNatClampNeg (0 : Int32))
      ) ∧ ((A 23 v1.toNatClampNeg) = (4 : Int32) →
        vp_in v1 60 ∧
        vp_in v1 60 ∧
        ∀ v1_9 : Int32, v1_9 = v1 + 1 →
        wp_X1_openRound_2 E42 Q B n v1_9 (u2 (u2 A 23 v1.toNatClampNeg (1 : Int32)) 22 v1.toNatClampNeg (0 : Int32))
      ))
    ))
def wp_X1_openRound  (A : SA) (B : SB) (Q : SA → Prop) : Prop :=
  ∃ n_10 : Nat, wp_X1_openRound_2
    (fun (A_11 : SA) =>
      Q A_11
    )
    Q B n_10 (0 : Int32) A
abbrev rmX1_end : Room := { frames := 1, cells := 0, slots := 0, locals := 30 }
theorem hX1_end_X1 : ∀ w ∈ wsX10, w ∈ wsX1_end := fun w h => List.mem_cons_of_mem _ (List.mem_append_right _ h)
def wp_X1_end_20 (E40 : Int32 → SA → Prop) (Q : Int32 → SA → Prop) (v1 : Int64) (B : SB) : Nat → Int32 → SA → Prop
  | 0, _, _ => False
  | n + 1, v3, A =>
    ((v1 ≤ v3.toInt64 →
      E40 v3 A
    ) ∧ (¬ v1 ≤ v3.toInt64 →
      wp_X1_keepGreatest  A B (fun (r_6 : Int32) (A_7 : SA) =>
        ((r_6 = 0 →
          E40 v3 A_7
        ) ∧ (¬ r_6 = 0 →
          ∀ v3_10 : Int32, v3_10 = v3 + 1 →
          wp_X1_end_20 E40 Q v1 B n v3_10 A_7
        ))
      )
    ))
def wp_X1_end  (A : SA) (B : SB) (Q : Int32 → SA → Prop) : Prop :=
  wp_X5_cut (A 3 5).toInt64 (A 3 9).toInt64 A B (fun (r_1 : Int64) =>
    ∀ x_4 : Int64, x_4 = (if r_1 < (1 : Int64) then (1 : Int64) else r_1) →
    ∃ n_11 : Nat, wp_X1_end_20
      (fun (v3_12 : Int32) (A_13 : SA) =>
        wp_X1_openRound  A_13 B (fun (A_15 : SA) =>
          ∀ x_17 : Int32, x_17 = ((A_15 3 7) + (1 : Int32)) →
          ∀ x_18 : Int32, x_18 = (if (1000000000 : Int64) < ((A_15 3 8).toInt64 * (A_15 3 9).toInt64) then (1000000000 : Int64) else ((A_15 3 8).toInt64 * (A_15 3 9).toInt64)).toInt32 →
          (((1 : Int32) < v3_12 →
            Q v3_12 (u2 (u2 (u2 (u2 (u2 A_15 3 5 v3_12) 3 6 v3_12) 3 7 x_17) 3 8 x_18) 3 4 (0 : Int32))
          ) ∧ (¬ (1 : Int32) < v3_12 →
            Q v3_12 (u2 (u2 (u2 (u2 (u2 A_15 3 5 v3_12) 3 6 v3_12) 3 7 x_17) 3 8 x_18) 3 4 (1 : Int32))
          ))
        )
      )
      Q x_4 B n_11 (0 : Int32) A
  )
abbrev rmX1_tell : Room := { frames := 0, cells := 0, slots := 0, locals := 0 }
theorem hX1_tell_X1 : ∀ w ∈ wsX10, w ∈ wsX1_tell := fun w h => List.mem_cons_of_mem _ (List.mem_append_right _ h)
def wp_X1_tell (a0 : Int32) (A : SA) (B : SB) (Q : Int32 → Prop) : Prop :=
  ((a0 = 0 →
    Q (A 3 5)
  ) ∧ (¬ a0 = 0 →
  ((a0 = 1 →
    Q (A 3 7)
  ) ∧ (¬ a0 = 1 →
  ((a0 = 2 →
    Q (A 3 8)
  ) ∧ (¬ a0 = 2 →
    (((A 3 4) = 0 →
      Q (0 : Int32)
    ) ∧ (¬ (A 3 4) = 0 →
      Q (1 : Int32)
    ))
  ))))))
abbrev rmX2_bitsFor : Room := { frames := 0, cells := 0, slots := 0, locals := 0 }
def wp_X2_bitsFor_2 (E22 : Int32 → Prop) (Q : Int32 → Prop) (v0 : Int64) (A : SA) (B : SB) : Nat → Int32 → Prop
  | 0, _ => False
  | n + 1, v2 =>
    (((62 : Int32) ≤ v2 →
      E22 v2
    ) ∧ (¬ (62 : Int32) ≤ v2 →
      ((v0 ≤ ((1 : Int64) <<< (v2.toInt64 &&& 63)) →
        E22 v2
      ) ∧ (¬ v0 ≤ ((1 : Int64) <<< (v2.toInt64 &&& 63)) →
        ∀ v2_3 : Int32, v2_3 = v2 + 1 →
        wp_X2_bitsFor_2 E22 Q v0 A B n v2_3
      ))
    ))
def wp_X2_bitsFor (a0 : Int64) (A : SA) (B : SB) (Q : Int32 → Prop) : Prop :=
  ∃ n_4 : Nat, wp_X2_bitsFor_2
    (fun (v2_5 : Int32) =>
      Q v2_5
    )
    Q a0 A B n_4 (0 : Int32)
abbrev rmX2_twoHashes : Room := { frames := 1, cells := 0, slots := 0, locals := 22 }
def wp_X2_twoHashes (a0 : Int32) (a1 : Int32) (A : SA) (B : SB) (Q : Int64 → Prop) : Prop :=
  wp_X2_hash a0 (((2 : Int32) * a1) + (1 : Int32)) A B (fun (r_1 : Int32) =>
    ∀ x_4 : Int64, x_4 = r_1.toInt64 →
    wp_X2_hash a0 (((2 : Int32) * a1) + (2 : Int32)) A B (fun (r_5 : Int32) =>
      ∀ x_8 : Int64, x_8 = r_5.toInt64 →
      Q ((x_4 <<< ((32 : Int32).toInt64 &&& 63)) ||| (x_8 &&& (4294967295 : Int64)))
    )
  )
abbrev rmX2_pick : Room := { frames := 2, cells := 0, slots := 0, locals := 47 }
def wp_X2_pick_14  (Q : Int64 → Prop) (v0 : Int64) (v2 : Int32) (v3 : Int32) (A : SA) (B : SB) : Nat → Int32 → Prop
  | 0, _ => False
  | n + 1, v4 =>
    (((1000000 : Int32) ≤ v4 →
      Q (0 : Int64)
    ) ∧ (¬ (1000000 : Int32) ≤ v4 →
      wp_X2_twoHashes v2 v4 A B (fun (r_6 : Int64) =>
        ∀ x_9 : Int64, x_9 = (r_6.toUInt64 >>> (((64 : Int32) - v3).toInt64.toUInt64 &&& Int64.toUInt64 63)).toInt64 →
        ((v0 ≤ x_9 →
          ∀ v4_11 : Int32, v4_11 = v4 + 1 →
          wp_X2_pick_14 Q v0 v2 v3 A B n v4_11
        ) ∧ (¬ v0 ≤ x_9 →
          Q x_9
        ))
      )
    ))
def wp_X2_pick (a0 : Int64) (a1 : Int32) (A : SA) (B : SB) (Q : Int64 → Prop) : Prop :=
  wp_X2_bitsFor a0 A B (fun (r_1 : Int32) =>
    ((¬ r_1 = 0 →
      ∃ n_12 : Nat, wp_X2_pick_14
        Q a0 a1 r_1 A B n_12 (0 : Int32)
    ) ∧ (r_1 = 0 →
      Q (0 : Int64)
    ))
  )
abbrev rmJ7_fill_d0a16 : Room := { frames := 0, cells := 0, slots := 0, locals := 0 }
def wp_J7_fill_d0a16_6 (E22 : SB → Prop) (Q : SB → Prop) (v0 : Nat) (v1 : Int64) (v4 : Int32) (A : SA) : Nat → Int32 → SB → Prop
  | 0, _, _ => False
  | n + 1, v3, B =>
    ((v4 ≤ v3 →
      E22 B
    ) ∧ (¬ v4 ≤ v3 →
      (kd v0 = 2 ∧ v0 < NW ∧ vp_in v3 (ulen v0)) ∧
      ∀ v3_8 : Int32, v3_8 = v3 + 1 →
      wp_J7_fill_d0a16_6 E22 Q v0 v1 v4 A n v3_8 (u2L B v0 v3.toNatClampNeg v1)
    ))
def wp_J7_fill_d0a16 (a0 : Nat) (a1 : Int64) (A : SA) (B : SB) (Q : SB → Prop) : Prop :=
  ((kd a0 = 1 ∨ kd a0 = 2) ∧ a0 < NW) ∧
  ∀ x_3 : Int32, x_3 = (nI (ulen a0)) →
  ∃ n_9 : Nat, wp_J7_fill_d0a16_6
    (fun (B_10 : SB) =>
      Q B_10
    )
    Q a0 a1 x_3 A n_9 (0 : Int32) B
abbrev rmX3_sumOfWays : Room := { frames := 0, cells := 0, slots := 0, locals := 0 }
theorem hX3_sumOfWays_X3 : ∀ w ∈ wsX30, w ∈ wsX3_sumOfWays := fun w h => List.mem_cons_of_mem _ (List.mem_append_right _ h)
def wp_X3_sumOfWays_5 (E34 : Int64 → Prop) (Q : Int64 → Prop) (v1 : Int32) (A : SA) (B : SB) : Nat → Int64 → Int32 → Prop
  | 0, _, _ => False
  | n + 1, v2, v4 =>
    vp_in v1 8 ∧
    (((A 8 v1.toNatClampNeg) ≤ v4 →
      E34 v2
    ) ∧ (¬ (A 8 v1.toNatClampNeg) ≤ v4 →
      vp_in v1 8 ∧
      vp_in v4 30 ∧
      ∀ x_5 : Int64, x_5 = (v2 + (B (48 + v1.toNatClampNeg) v4.toNatClampNeg)) →
      ∀ v4_6 : Int32, v4_6 = v4 + 1 →
      wp_X3_sumOfWays_5 E34 Q v1 A B n x_5 v4_6
    ))
def wp_X3_sumOfWays (a0 : Int32) (A : SA) (B : SB) (Q : Int64 → Prop) : Prop :=
  ∃ n_7 : Nat, wp_X3_sumOfWays_5
    (fun (v2_8 : Int64) =>
      Q v2_8
    )
    Q a0 A B n_7 (0 : Int64) (0 : Int32)
abbrev rmX3_hasBit : Room := { frames := 0, cells := 0, slots := 0, locals := 0 }
def wp_X3_hasBit (a0 : Int32) (a1 : Int32) (A : SA) (B : SB) (Q : Int32 → Prop) : Prop :=
  ((¬ ((a0.toUInt32 >>> (a1.toUInt32 &&& Int32.toUInt32 31)).toInt32 &&& (1 : Int32)) = (1 : Int32) →
    Q (0 : Int32)
  ) ∧ (((a0.toUInt32 >>> (a1.toUInt32 &&& Int32.toUInt32 31)).toInt32 &&& (1 : Int32)) = (1 : Int32) →
    Q (1 : Int32)
  ))
abbrev rmX3_hang : Room := { frames := 1, cells := 0, slots := 0, locals := 21 }
theorem hX3_hang_X3 : ∀ w ∈ wsX30, w ∈ wsX3_hang := fun w h => List.mem_cons_of_mem _ (List.mem_append_right _ h)
def wp_X3_hang_2 (E48 : SB → Prop) (Q : SB → Prop) (v1 : Int32) (v2 : Int32) (A : SA) : Nat → Int32 → SB → Prop
  | 0, _, _ => False
  | n + 1, v3, B =>
    vp_in v2 8 ∧
    (((A 8 v2.toNatClampNeg) ≤ v3 →
      E48 B
    ) ∧ (¬ (A 8 v2.toNatClampNeg) ≤ v3 →
      vp_in v1 8 ∧
      wp_X3_hasBit (A 10 v1.toNatClampNeg) v3 A B (fun (r_4 : Int32) =>
        ((r_4 = 0 →
          ∀ v3_8 : Int32, v3_8 = v3 + 1 →
          wp_X3_hang_2 E48 Q v1 v2 A n v3_8 B
        ) ∧ (¬ r_4 = 0 →
          vp_in v2 8 ∧
          vp_in v3 30 ∧
          vp_in v1 8 ∧
          ∀ x_12 : Int64, x_12 = ((B (48 + v2.toNatClampNeg) v3.toNatClampNeg) * (B 11 v1.toNatClampNeg)) →
          vp_in v3 30 ∧
          ∀ v3_14 : Int32, v3_14 = v3 + 1 →
          wp_X3_hang_2 E48 Q v1 v2 A n v3_14 (u2L B (48 + v2.toNatClampNeg) v3.toNatClampNeg x_12)
        ))
      )
    ))
def wp_X3_hang (a0 : Int32) (a1 : Int32) (A : SA) (B : SB) (Q : SB → Prop) : Prop :=
  ∃ n_15 : Nat, wp_X3_hang_2
    (fun (B_16 : SB) =>
      Q B_16
    )
    Q a0 a1 A n_15 (0 : Int32) B
abbrev rmX3_countWays : Room := { frames := 2, cells := 0, slots := 0, locals := 44 }
theorem hX3_countWays_X3 : ∀ w ∈ wsX30, w ∈ wsX3_countWays := fun w h => List.mem_cons_of_mem _ (List.mem_append_right _ h)
def wp_X3_countWays_7 (E31 : SB → Prop) (Q : SB → Prop) (A : SA) : Nat → Int32 → SB → Prop
  | 0, _, _ => False
  | n + 1, v1, B =>
    (((A 1 0) ≤ v1 →
      E31 B
    ) ∧ (¬ (A 1 0) ≤ v1 →
      vp_in v1 8 ∧
      wp_J7_fill_d0a16 (48 + v1.toNatClampNeg) (1 : Int64) A B (fun (B_5 : SB) =>
        ∀ v1_6 : Int32, v1_6 = v1 + 1 →
        wp_X3_countWays_7 E31 Q A n v1_6 B_5
      )
    ))
def wp_X3_countWays_38 (E97 : SB → Prop) (Q : SB → Prop) (A : SA) : Nat → Int32 → SB → Prop
  | 0, _, _ => False
  | n + 1, v1, B =>
    ((v1 < 0 →
      E97 B
    ) ∧ (¬ v1 < 0 →
      wp_X3_sumOfWays v1 A B (fun (r_11 : Int64) =>
        vp_in v1 8 ∧
        vp_in v1 8 ∧
        ((0 ≤ (A 9 v1.toNatClampNeg) →
          vp_in v1 8 ∧
          wp_X3_hang v1 (A 9 v1.toNatClampNeg) A (u2L B 11 v1.toNatClampNeg r_11) (fun (B_20 : SB) =>
            ∀ v1_21 : Int32, v1_21 = v1 + (-1) →
            wp_X3_countWays_38 E97 Q A n v1_21 B_20
          )
        ) ∧ (¬ 0 ≤ (A 9 v1.toNatClampNeg) →
          vp_in v1 8 ∧
          ∀ x_23 : Int64, x_23 = ((B 1 1) * ((u2L B 11 v1.toNatClampNeg r_11) 11 v1.toNatClampNeg)) →
          ∀ v1_24 : Int32, v1_24 = v1 + (-1) →
          wp_X3_countWays_38 E97 Q A n v1_24 (u2L (u2L B 11 v1.toNatClampNeg r_11) 1 1 x_23)
        ))
      )
    ))
def wp_X3_countWays  (A : SA) (B : SB) (Q : SB → Prop) : Prop :=
  ∃ n_7 : Nat, wp_X3_countWays_7
    (fun (B_8 : SB) =>
      ∀ x_9 : Int32, x_9 = ((A 1 0) - (1 : Int32)) →
      ∃ n_25 : Nat, wp_X3_countWays_38
        (fun (B_26 : SB) =>
          Q B_26
        )
        Q A n_25 x_9 B_8
    )
    Q A n_7 (0 : Int32) (u2L B 1 1 (1 : Int64))
abbrev rmX3_add : Room := { frames := 3, cells := 0, slots := 0, locals := 65 }
theorem hX3_add_X3 : ∀ w ∈ wsX30, w ∈ wsX3_add := fun w h => List.mem_cons_of_mem _ (List.mem_append_right _ h)
def wp_X3_add (a0 : Int32) (a1 : Int32) (a2 : Int32) (A : SA) (B : SB) (Q : Int32 → SA → SB → Prop) : Prop :=
  ∀ x_1 : Int32, x_1 = (A 1 0) →
  vp_in x_1 8 ∧
  vp_in x_1 8 ∧
  vp_in x_1 8 ∧
  ∀ x_5 : Int32, x_5 = ((A 1 0) + (1 : Int32)) →
  wp_X3_countWays  (u2 (u2 (u2 (u2 A 8 x_1.toNatClampNeg a0) 9 x_1.toNatClampNeg a1) 10 x_1.toNatClampNeg a2) 1 0 x_5) B (fun (B_8 : SB) =>
    Q x_1 (u2 (u2 (u2 (u2 A 8 x_1.toNatClampNeg a0) 9 x_1.toNatClampNeg a1) 10 x_1.toNatClampNeg a2) 1 0 x_5) B_8
  )
abbrev rmX3_isThere : Room := { frames := 1, cells := 0, slots := 0, locals := 21 }
theorem hX3_isThere_X3 : ∀ w ∈ wsX30, w ∈ wsX3_isThere := fun w h => List.mem_cons_of_mem _ (List.mem_append_right _ h)
def wp_X3_isThere (a0 : Int32) (a1 : Nat) (A : SA) (B : SB) (Q : Int32 → Prop) : Prop :=
  vp_in a0 8 ∧
  ∀ x_2 : Int32, x_2 = (A 9 a0.toNatClampNeg) →
  ((x_2 < 0 →
    Q (1 : Int32)
  ) ∧ (¬ x_2 < 0 →
    (kd a1 = 1 ∧ a1 < NW ∧ vp_in x_2 (ulen a1)) ∧
    (((A a1 x_2.toNatClampNeg) < 0 →
      Q (0 : Int32)
    ) ∧ (¬ (A a1 x_2.toNatClampNeg) < 0 →
      vp_in a0 8 ∧
      (kd a1 = 1 ∧ a1 < NW ∧ vp_in x_2 (ulen a1)) ∧
      wp_X3_hasBit (A 10 a0.toNatClampNeg) (A a1 x_2.toNatClampNeg) A B (fun (r_12 : Int32) =>
        ((r_12 = 0 →
          Q (0 : Int32)
        ) ∧ (¬ r_12 = 0 →
          Q (1 : Int32)
        ))
      )
    ))
  ))
abbrev rmX3_read : Room := { frames := 2, cells := 0, slots := 0, locals := 44 }
theorem hX3_read_X3 : ∀ w ∈ wsX30, w ∈ wsX3_read := fun w h => List.mem_cons_of_mem _ (List.mem_append_right _ h)
def wp_X3_read_54 (E111 : Int64 → Int32 → Prop) (Q : SA → Prop) (v3 : Nat) (v6 : Int64) (v8 : Int32) (A : SA) (B : SB) : Nat → Int64 → Int32 → Prop
  | 0, _, _ => False
  | n + 1, v4, v9 =>
    vp_in v8 8 ∧
    ((((A 8 v8.toNatClampNeg) - (1 : Int32)) ≤ v9 →
      E111 v4 v9
    ) ∧ (¬ ((A 8 v8.toNatClampNeg) - (1 : Int32)) ≤ v9 →
      vp_in v8 8 ∧
      vp_in v9 30 ∧
      ((v4 < (v6 * (B (48 + v8.toNatClampNeg) v9.toNatClampNeg)) →
        E111 v4 v9
      ) ∧ (¬ v4 < (v6 * (B (48 + v8.toNatClampNeg) v9.toNatClampNeg)) →
        vp_in v8 8 ∧
        vp_in v9 30 ∧
        ∀ x_22 : Int64, x_22 = (v4 - (v6 * (B (48 + v8.toNatClampNeg) v9.toNatClampNeg))) →
        ∀ v9_23 : Int32, v9_23 = v9 + 1 →
        wp_X3_read_54 E111 Q v3 v6 v8 A B n x_22 v9_23
      ))
    ))
def wp_X3_read_12 (E138 : SA → Prop) (Q : SA → Prop) (v3 : Nat) (B : SB) : Nat → Int64 → Int64 → Int32 → SA → Prop
  | 0, _, _, _, _ => False
  | n + 1, v4, v6, v8, A =>
    (((A 1 0) ≤ v8 →
      E138 A
    ) ∧ (¬ (A 1 0) ≤ v8 →
      (kd v3 = 1 ∧ v3 < NW ∧ vp_in v8 (ulen v3)) ∧
      wp_X3_isThere v8 v3 (u2 A v3 v8.toNatClampNeg (-2 : Int32)) B (fun (r_6 : Int32) =>
        ((r_6 = 0 →
          ∀ v8_10 : Int32, v8_10 = v8 + 1 →
          wp_X3_read_12 E138 Q v3 B n v4 v6 v8_10 (u2 A v3 v8.toNatClampNeg (-2 : Int32))
        ) ∧ (¬ r_6 = 0 →
          vp_in v8 8 ∧
          wp_X5_cut v6 (B 11 v8.toNatClampNeg) (u2 A v3 v8.toNatClampNeg (-2 : Int32)) B (fun (r_12 : Int64) =>
            ∃ n_24 : Nat, wp_X3_read_54
              (fun (v4_25 : Int64) (v9_26 : Int32) =>
                (kd v3 = 1 ∧ v3 < NW ∧ vp_in v8 (ulen v3)) ∧
                vp_in v8 8 ∧
                vp_in v9_26 30 ∧
                ∀ x_32 : Int64, x_32 = (r_12 * (B (48 + v8.toNatClampNeg) v9_26.toNatClampNeg)) →
                ∀ v8_33 : Int32, v8_33 = v8 + 1 →
                wp_X3_read_12 E138 Q v3 B n v4_25 x_32 v8_33 (u2 (u2 A v3 v8.toNatClampNeg (-2 : Int32)) v3 v8.toNatClampNeg v9_26)
              )
              Q v3 r_12 v8 (u2 A v3 v8.toNatClampNeg (-2 : Int32)) B n_24 v4 (0 : Int32)
          )
        ))
      )
    ))
def wp_X3_read (a0 : Int64) (a1 : Nat) (A : SA) (B : SB) (Q : SA → Prop) : Prop :=
  ∀ x_1 : Int64, x_1 = (B 1 1) →
  ∃ n_34 : Nat, wp_X3_read_12
    (fun (A_35 : SA) =>
      Q A_35
    )
    Q a1 B n_34 a0 x_1 (0 : Int32) A
abbrev rmX3_place : Room := { frames := 1, cells := 0, slots := 0, locals := 23 }
theorem hX3_place_X3 : ∀ w ∈ wsX30, w ∈ wsX3_place := fun w h => List.mem_cons_of_mem _ (List.mem_append_right _ h)
def wp_X3_place_44 (E75 : Int64 → Prop) (Q : Int64 → Prop) (v1 : Nat) (v4 : Int64) (v6 : Int32) (A : SA) (B : SB) : Nat → Int64 → Int32 → Prop
  | 0, _, _ => False
  | n + 1, v2, v7 =>
    (kd v1 = 1 ∧ v1 < NW ∧ vp_in v6 (ulen v1)) ∧
    (((A v1 v6.toNatClampNeg) ≤ v7 →
      E75 v2
    ) ∧ (¬ (A v1 v6.toNatClampNeg) ≤ v7 →
      vp_in v6 8 ∧
      vp_in v7 30 ∧
      ∀ x_18 : Int64, x_18 = (v2 + (v4 * (B (48 + v6.toNatClampNeg) v7.toNatClampNeg))) →
      ∀ v7_19 : Int32, v7_19 = v7 + 1 →
      wp_X3_place_44 E75 Q v1 v4 v6 A B n x_18 v7_19
    ))
def wp_X3_place_11 (E98 : Int64 → Prop) (Q : Int64 → Prop) (v1 : Nat) (A : SA) (B : SB) : Nat → Int64 → Int64 → Int32 → Prop
  | 0, _, _, _ => False
  | n + 1, v2, v4, v6 =>
    (((A 1 0) ≤ v6 →
      E98 v2
    ) ∧ (¬ (A 1 0) ≤ v6 →
      (kd v1 = 1 ∧ v1 < NW ∧ vp_in v6 (ulen v1)) ∧
      (((A v1 v6.toNatClampNeg) < 0 →
        ∀ v6_7 : Int32, v6_7 = v6 + 1 →
        wp_X3_place_11 E98 Q v1 A B n v2 v4 v6_7
      ) ∧ (¬ (A v1 v6.toNatClampNeg) < 0 →
        vp_in v6 8 ∧
        wp_X5_cut v4 (B 11 v6.toNatClampNeg) A B (fun (r_9 : Int64) =>
          ∃ n_20 : Nat, wp_X3_place_44
            (fun (v2_21 : Int64) =>
              vp_in v6 8 ∧
              (kd v1 = 1 ∧ v1 < NW ∧ vp_in v6 (ulen v1)) ∧
              ∀ x_26 : Int32, x_26 = (A v1 v6.toNatClampNeg) →
              vp_in x_26 30 ∧
              ∀ x_28 : Int64, x_28 = (r_9 * (B (48 + v6.toNatClampNeg) x_26.toNatClampNeg)) →
              ∀ v6_29 : Int32, v6_29 = v6 + 1 →
              wp_X3_place_11 E98 Q v1 A B n v2_21 x_28 v6_29
            )
            Q v1 r_9 v6 A B n_20 v2 (0 : Int32)
        )
      ))
    ))
def wp_X3_place (a0 : Nat) (A : SA) (B : SB) (Q : Int64 → Prop) : Prop :=
  ∀ x_1 : Int64, x_1 = (B 1 1) →
  ∃ n_30 : Nat, wp_X3_place_11
    (fun (v2_31 : Int64) =>
      Q v2_31
    )
    Q a0 A B n_30 (0 : Int64) x_1 (0 : Int32)
abbrev rmX3_takeBits : Room := { frames := 2, cells := 0, slots := 0, locals := 44 }
theorem hX3_takeBits_X3 : ∀ w ∈ wsX30, w ∈ wsX3_takeBits := fun w h => List.mem_cons_of_mem _ (List.mem_append_right _ h)
def wp_X3_takeBits_3  (Q : Int32 → SA → Prop) (v1 : Int64) (v3 : Nat) (B : SB) : Nat → Int32 → SA → Prop
  | 0, _, _ => False
  | n + 1, v4, A =>
    (((A 1 0) ≤ v4 →
      Q (1 : Int32) A
    ) ∧ (¬ (A 1 0) ≤ v4 →
      (kd v3 = 1 ∧ v3 < NW ∧ vp_in v4 (ulen v3)) ∧
      wp_X3_isThere v4 v3 (u2 A v3 v4.toNatClampNeg (-2 : Int32)) B (fun (r_5 : Int32) =>
        ((r_5 = 0 →
          ∀ v4_9 : Int32, v4_9 = v4 + 1 →
          wp_X3_takeBits_3 Q v1 v3 B n v4_9 (u2 A v3 v4.toNatClampNeg (-2 : Int32))
        ) ∧ (¬ r_5 = 0 →
          ∀ x_10 : Int32, x_10 = ((v1.toUInt64 >>> (((5 : Int32) * v4).toInt64.toUInt64 &&& Int64.toUInt64 63)).toInt64.toInt32 &&& (31 : Int32)) →
          vp_in v4 8 ∧
          ((x_10 < ((u2 A v3 v4.toNatClampNeg (-2 : Int32)) 8 v4.toNatClampNeg) →
            (kd v3 = 1 ∧ v3 < NW ∧ vp_in v4 (ulen v3)) ∧
            ∀ v4_16 : Int32, v4_16 = v4 + 1 →
            wp_X3_takeBits_3 Q v1 v3 B n v4_16 (u2 (u2 A v3 v4.toNatClampNeg (-2 : Int32)) v3 v4.toNatClampNeg x_10)
          ) ∧ (¬ x_10 < ((u2 A v3 v4.toNatClampNeg (-2 : Int32)) 8 v4.toNatClampNeg) →
            Q (0 : Int32) (u2 A v3 v4.toNatClampNeg (-2 : Int32))
          ))
        ))
      )
    ))
def wp_X3_takeBits (a0 : Int64) (a1 : Nat) (A : SA) (B : SB) (Q : Int32 → SA → Prop) : Prop :=
  ∃ n_17 : Nat, wp_X3_takeBits_3
    Q a0 a1 B n_17 (0 : Int32) A
abbrev rmX3_pickEach : Room := { frames := 3, cells := 0, slots := 0, locals := 73 }
theorem hX3_pickEach_X3 : ∀ w ∈ wsX30, w ∈ wsX3_pickEach := fun w h => List.mem_cons_of_mem _ (List.mem_append_right _ h)
def wp_X3_pickEach_2 (E49 : SA → Prop) (Q : SA → Prop) (v1 : Int32) (v2 : Nat) (B : SB) : Nat → Int32 → SA → Prop
  | 0, _, _ => False
  | n + 1, v3, A =>
    (((A 1 0) ≤ v3 →
      E49 A
    ) ∧ (¬ (A 1 0) ≤ v3 →
      (kd v2 = 1 ∧ v2 < NW ∧ vp_in v3 (ulen v2)) ∧
      wp_X3_isThere v3 v2 (u2 A v2 v3.toNatClampNeg (-2 : Int32)) B (fun (r_5 : Int32) =>
        ((r_5 = 0 →
          ∀ v3_9 : Int32, v3_9 = v3 + 1 →
          wp_X3_pickEach_2 E49 Q v1 v2 B n v3_9 (u2 A v2 v3.toNatClampNeg (-2 : Int32))
        ) ∧ (¬ r_5 = 0 →
          vp_in v3 8 ∧
          wp_X2_hash v1 v3 (u2 A v2 v3.toNatClampNeg (-2 : Int32)) B (fun (r_11 : Int32) =>
            wp_X2_pick ((u2 A v2 v3.toNatClampNeg (-2 : Int32)) 8 v3.toNatClampNeg).toInt64 r_11 (u2 A v2 v3.toNatClampNeg (-2 : Int32)) B (fun (r_14 : Int64) =>
              ∀ x_17 : Int32, x_17 = r_14.toInt32 →
              (kd v2 = 1 ∧ v2 < NW ∧ vp_in v3 (ulen v2)) ∧
              ∀ v3_21 : Int32, v3_21 = v3 + 1 →
              wp_X3_pickEach_2 E49 Q v1 v2 B n v3_21 (u2 (u2 A v2 v3.toNatClampNeg (-2 : Int32)) v2 v3.toNatClampNeg x_17)
            )
          )
        ))
      )
    ))
def wp_X3_pickEach (a0 : Int32) (a1 : Nat) (A : SA) (B : SB) (Q : SA → Prop) : Prop :=
  ∃ n_22 : Nat, wp_X3_pickEach_2
    (fun (A_23 : SA) =>
      Q A_23
    )
    Q a0 a1 B n_22 (0 : Int32) A
abbrev rmX3_apartAt : Room := { frames := 1, cells := 0, slots := 0, locals := 30 }
theorem hX3_apartAt_X3 : ∀ w ∈ wsX30, w ∈ wsX3_apartAt := fun w h => List.mem_cons_of_mem _ (List.mem_append_right _ h)
def wp_X3_apartAt (a0 : Int32) (a1 : Int32) (a2 : Int32) (A : SA) (B : SB) (Q : Int32 → Prop) : Prop :=
  ((¬ a1 = a2 →
    ((a1 < 0 →
      Q (30 : Int32)
    ) ∧ (¬ a1 < 0 →
      ((0 ≤ a2 →
        vp_in a0 8 ∧
        wp_X5_cut ((if 0 ≤ (a1 - a2) then (a1 - a2) else 0 - (a1 - a2)) * (30 : Int32)).toInt64 (A 8 a0.toNatClampNeg).toInt64 A B (fun (r_5 : Int64) =>
          Q r_5.toInt32
        )
      ) ∧ (¬ 0 ≤ a2 →
        Q (30 : Int32)
      ))
    ))
  ) ∧ (a1 = a2 →
    Q (0 : Int32)
  ))
abbrev rmX3_apart : Room := { frames := 2, cells := 0, slots := 0, locals := 53 }
theorem hX3_apart_X3 : ∀ w ∈ wsX30, w ∈ wsX3_apart := fun w h => List.mem_cons_of_mem _ (List.mem_append_right _ h)
def wp_X3_apart_5 (E37 : Int32 → Prop) (Q : Int32 → Prop) (v1 : Nat) (v2 : Nat) (A : SA) (B : SB) : Nat → Int32 → Int32 → Prop
  | 0, _, _ => False
  | n + 1, v3, v4 =>
    (((A 1 0) ≤ v4 →
      E37 v3
    ) ∧ (¬ (A 1 0) ≤ v4 →
      (kd v1 = 1 ∧ v1 < NW ∧ vp_in v4 (ulen v1)) ∧
      (kd v2 = 1 ∧ v2 < NW ∧ vp_in v4 (ulen v2)) ∧
      wp_X3_apartAt v4 (A v1 v4.toNatClampNeg) (A v2 v4.toNatClampNeg) A B (fun (r_8 : Int32) =>
        ∀ x_11 : Int32, x_11 = (v3 + r_8) →
        ∀ v4_12 : Int32, v4_12 = v4 + 1 →
        wp_X3_apart_5 E37 Q v1 v2 A B n x_11 v4_12
      )
    ))
def wp_X3_apart (a0 : Nat) (a1 : Nat) (A : SA) (B : SB) (Q : Int32 → Prop) : Prop :=
  ∃ n_13 : Nat, wp_X3_apart_5
    (fun (v3_14 : Int32) =>
      Q v3_14
    )
    Q a0 a1 A B n_13 (0 : Int32) (0 : Int32)
abbrev rmX4_add : Room := { frames := 3, cells := 0, slots := 0, locals := 73 }
theorem hX4_add_X4 : ∀ w ∈ wsX40, w ∈ wsX4_add := fun w h => List.mem_cons_of_mem _ (List.mem_append_left _ (List.mem_append_right _ h))
theorem hX4_add_X3 : ∀ w ∈ wsX30, w ∈ wsX4_add := fun w h => List.mem_cons_of_mem _ (List.mem_append_right _ h)
def wp_X4_add (a0 : Int64) (A : SA) (B : SB) (Q : Int32 → SA → SB → Prop) : Prop :=
  ∀ x_1 : Int32, x_1 = (A 2 0) →
  vp_in x_1 60 ∧
  vp_in x_1 60 ∧
  vp_in x_1 60 ∧
  wp_X3_read a0 (116 + x_1.toNatClampNeg) (u2 A 14 x_1.toNatClampNeg (0 : Int32)) (u2L B 13 x_1.toNatClampNeg a0) (fun (A_6 : SA) =>
    ∀ x_8 : Int32, x_8 = ((A_6 2 0) + (1 : Int32)) →
    Q x_1 (u2 A_6 2 0 x_8) (u2L B 13 x_1.toNatClampNeg a0)
  )
abbrev rmX4_holdNear : Room := { frames := 1, cells := 0, slots := 0, locals := 30 }
theorem hX4_holdNear_X4 : ∀ w ∈ wsX40, w ∈ wsX4_holdNear := fun w h => List.mem_cons_of_mem _ (List.mem_append_right _ h)
def wp_X4_holdNear_3 (E27 : Int32 → Prop) (Q : Int32 → SA → Prop) (v1 : Int32) (v2 : Int32) (v3 : Int32) (v4 : Int32) (A : SA) (B : SB) : Nat → Int32 → Prop
  | 0, _ => False
  | n + 1, v5 =>
    ((v5 ≤ 0 →
      E27 v5
    ) ∧ (¬ v5 ≤ 0 →
      ∀ x_2 : Int32, x_2 = (v5 - (1 : Int32)) →
      vp_in x_2 5 ∧
      (((A 19 x_2.toNatClampNeg) ≤ v1 →
        E27 v5
      ) ∧ (¬ (A 19 x_2.toNatClampNeg) ≤ v1 →
        ∀ v5_5 : Int32, v5_5 = v5 + (-1) →
        wp_X4_holdNear_3 E27 Q v1 v2 v3 v4 A B n v5_5
      ))
    ))
def wp_X4_holdNear_50 (E95 : SA → Prop) (Q : Int32 → SA → Prop) (v1 : Int32) (v2 : Int32) (v5 : Int32) (v6 : Int32) (B : SB) : Nat → Int32 → SA → Prop
  | 0, _, _ => False
  | n + 1, v7, A =>
    ((v7 ≤ v5 →
      E95 A
    ) ∧ (¬ v7 ≤ v5 →
      ∀ x_11 : Int32, x_11 = (v7 - (1 : Int32)) →
      vp_in x_11 5 ∧
      ∀ x_13 : Int32, x_13 = (A 19 x_11.toNatClampNeg) →
      vp_in v7 5 ∧
      ∀ x_15 : Int32, x_15 = (v7 - (1 : Int32)) →
      vp_in x_15 5 ∧
      ∀ x_17 : Int32, x_17 = (A 20 x_15.toNatClampNeg) →
      vp_in v7 5 ∧
      ∀ v7_19 : Int32, v7_19 = v7 + (-1) →
      wp_X4_holdNear_50 E95 Q v1 v2 v5 v6 B n v7_19 (u2 (u2 A 19 v7.toNatClampNeg x_13) 20 v7.toNatClampNeg x_17)
    ))
def wp_X4_holdNear (a0 : Int32) (a1 : Int32) (a2 : Int32) (a3 : Int32) (A : SA) (B : SB) (Q : Int32 → SA → Prop) : Prop :=
  ∃ n_6 : Nat, wp_X4_holdNear_3
    (fun (v5_7 : Int32) =>
      ((v5_7 < a3 →
        ∀ x_9 : Int32, x_9 = (if (a3 - (1 : Int32)) < a2 then (a3 - (1 : Int32)) else a2) →
        ∃ n_20 : Nat, wp_X4_holdNear_50
          (fun (A_21 : SA) =>
            vp_in v5_7 5 ∧
            vp_in v5_7 5 ∧
            Q (x_9 + (1 : Int32)) (u2 (u2 A_21 19 v5_7.toNatClampNeg a0) 20 v5_7.toNatClampNeg a1)
          )
          Q a0 a1 v5_7 x_9 B n_20 x_9 A
      ) ∧ (¬ v5_7 < a3 →
        Q a2 A
      ))
    )
    Q a0 a1 a2 a3 A B n_6 a2
abbrev rmX4_nearSum : Room := { frames := 3, cells := 0, slots := 0, locals := 77 }
theorem hX4_nearSum_X4 : ∀ w ∈ wsX40, w ∈ wsX4_nearSum := fun w h => List.mem_cons_of_mem _ (List.mem_append_left _ (List.mem_append_right _ h))
theorem hX4_nearSum_X3 : ∀ w ∈ wsX30, w ∈ wsX4_nearSum := fun w h => List.mem_cons_of_mem _ (List.mem_append_right _ h)
def wp_X4_nearSum_21 (E84 : Int32 → SA → Prop) (Q : Int64 → SA → Prop) (v3 : Int32) (B : SB) : Nat → Int32 → Int32 → SA → Prop
  | 0, _, _, _ => False
  | n + 1, v4, v5, A =>
    (((A 2 0) ≤ v5 →
      E84 v4 A
    ) ∧ (¬ (A 2 0) ≤ v5 →
      vp_in v5 60 ∧
      ((¬ (A 14 v5.toNatClampNeg) = (1 : Int32) →
        ∀ v5_7 : Int32, v5_7 = v5 + 1 →
        wp_X4_nearSum_21 E84 Q v3 B n v4 v5_7 A
      ) ∧ ((A 14 v5.toNatClampNeg) = (1 : Int32) →
        vp_in v5 60 ∧
        wp_X3_apart 6 (116 + v5.toNatClampNeg) A B (fun (r_9 : Int32) =>
          vp_in v5 60 ∧
          wp_X4_holdNear r_9 (A 15 v5.toNatClampNeg) v4 v3 A B (fun (r_13 : Int32) (A_14 : SA) =>
            ∀ v5_16 : Int32, v5_16 = v5 + 1 →
            wp_X4_nearSum_21 E84 Q v3 B n r_13 v5_16 A_14
          )
        )
      ))
    ))
def wp_X4_nearSum_90 (E116 : Int64 → Prop) (Q : Int64 → SA → Prop) (v4 : Int32) (A : SA) (B : SB) : Nat → Int64 → Int32 → Prop
  | 0, _, _ => False
  | n + 1, v5, v7 =>
    ((v4 ≤ v7 →
      E116 v5
    ) ∧ (¬ v4 ≤ v7 →
      vp_in v7 5 ∧
      ∀ x_22 : Int64, x_22 = (v5 + (A 20 v7.toNatClampNeg).toInt64) →
      ∀ v7_23 : Int32, v7_23 = v7 + 1 →
      wp_X4_nearSum_90 E116 Q v4 A B n x_22 v7_23
    ))
def wp_X4_nearSum (a0 : Int64) (a1 : Int32) (A : SA) (B : SB) (Q : Int64 → SA → Prop) : Prop :=
  wp_X3_read a0 6 A B (fun (A_2 : SA) =>
    ∃ n_17 : Nat, wp_X4_nearSum_21
      (fun (v4_18 : Int32) (A_19 : SA) =>
        ∃ n_24 : Nat, wp_X4_nearSum_90
          (fun (v5_25 : Int64) =>
            Q v5_25 A_19
          )
          Q v4_18 A_19 B n_24 (0 : Int64) (0 : Int32)
      )
      Q a1 B n_17 (0 : Int32) (0 : Int32) A_2
  )
abbrev rmX4_bestCandidate : Room := { frames := 4, cells := 0, slots := 0, locals := 104 }
theorem hX4_bestCandidate_X4 : ∀ w ∈ wsX40, w ∈ wsX4_bestCandidate := fun w h => List.mem_cons_of_mem _ (List.mem_append_left _ (List.mem_append_right _ h))
theorem hX4_bestCandidate_X3 : ∀ w ∈ wsX30, w ∈ wsX4_bestCandidate := fun w h => List.mem_cons_of_mem _ (List.mem_append_right _ h)
def wp_X4_bestCandidate_39 (E94 : Int64 → SA → Prop) (Q : Int64 → SA → Prop) (v1 : Int32) (v2 : Int32) (v3 : Int32) (B : SB) : Nat → Int64 → Int64 → Int32 → SA → Prop
  | 0, _, _, _, _ => False
  | n + 1, v4, v6, v8, A =>
    ((v2 ≤ v8 →
      E94 v4 A
    ) ∧ (¬ v2 ≤ v8 →
      wp_X2_hash v1 v8 A B (fun (r_12 : Int32) =>
        wp_X2_pick (B 1 1) r_12 A B (fun (r_15 : Int64) =>
          wp_X4_nearSum r_15 v3 A B (fun (r_18 : Int64) (A_19 : SA) =>
            ((r_18 ≤ v6 →
              ∀ v8_22 : Int32, v8_22 = v8 + 1 →
              wp_X4_bestCandidate_39 E94 Q v1 v2 v3 B n v4 v6 v8_22 A_19
            ) ∧ (¬ r_18 ≤ v6 →
              ∀ v8_23 : Int32, v8_23 = v8 + 1 →
              wp_X4_bestCandidate_39 E94 Q v1 v2 v3 B n r_15 r_18 v8_23 A_19
            ))
          )
        )
      )
    ))
def wp_X4_bestCandidate (a0 : Int32) (a1 : Int32) (a2 : Int32) (A : SA) (B : SB) (Q : Int64 → SA → Prop) : Prop :=
  wp_X2_hash a0 (0 : Int32) A B (fun (r_1 : Int32) =>
    wp_X2_pick (B 1 1) r_1 A B (fun (r_4 : Int64) =>
      ((¬ (A 2 1) = 0 →
        wp_X4_nearSum r_4 a2 A B (fun (r_8 : Int64) (A_9 : SA) =>
          ∃ n_24 : Nat, wp_X4_bestCandidate_39
            (fun (v4_25 : Int64) (A_26 : SA) =>
              Q v4_25 A_26
            )
            Q a0 a1 a2 B n_24 r_4 r_8 (1 : Int32) A_9
        )
      ) ∧ ((A 2 1) = 0 →
        Q r_4 A
      ))
    )
  )
abbrev rmX4_close : Room := { frames := 0, cells := 0, slots := 0, locals := 0 }
theorem hX4_close_X4 : ∀ w ∈ wsX40, w ∈ wsX4_close := fun w h => List.mem_cons_of_mem _ (List.mem_append_right _ h)
def wp_X4_close (a0 : Int32) (a1 : Int32) (a2 : Int32) (A : SA) (B : SB) (Q : Int32 → SA → Prop) : Prop :=
  ((a2 = 0 →
    vp_in a0 60 ∧
    ((a2 = 0 →
      Q (A 2 1) (u2 A 14 a0.toNatClampNeg (2 : Int32))
    ) ∧ (¬ a2 = 0 →
      vp_in a0 60 ∧
      ∀ x_5 : Int32, x_5 = ((A 2 1) + (1 : Int32)) →
      Q x_5 (u2 (u2 (u2 A 14 a0.toNatClampNeg (2 : Int32)) 15 a0.toNatClampNeg a1) 2 1 x_5)
    ))
  ) ∧ (¬ a2 = 0 →
    vp_in a0 60 ∧
    ((a2 = 0 →
      Q (A 2 1) (u2 A 14 a0.toNatClampNeg (1 : Int32))
    ) ∧ (¬ a2 = 0 →
      vp_in a0 60 ∧
      ∀ x_9 : Int32, x_9 = ((A 2 1) + (1 : Int32)) →
      Q x_9 (u2 (u2 (u2 A 14 a0.toNatClampNeg (1 : Int32)) 15 a0.toNatClampNeg a1) 2 1 x_9)
    ))
  ))
abbrev rmX4_sortIn : Room := { frames := 0, cells := 0, slots := 0, locals := 0 }
theorem hX4_sortIn_X4 : ∀ w ∈ wsX40, w ∈ wsX4_sortIn := fun w h => List.mem_cons_of_mem _ (List.mem_append_right _ h)
def wp_X4_sortIn_2 (E38 : Int32 → SA → Prop) (Q : SA → Prop) (v1 : Int32) (B : SB) : Nat → Int32 → SA → Prop
  | 0, _, _ => False
  | n + 1, v3, A =>
    ((v3 ≤ 0 →
      E38 v3 A
    ) ∧ (¬ v3 ≤ 0 →
      ∀ x_2 : Int32, x_2 = (v3 - (1 : Int32)) →
      vp_in x_2 60 ∧
      (((A 21 x_2.toNatClampNeg) ≤ v1 →
        E38 v3 A
      ) ∧ (¬ (A 21 x_2.toNatClampNeg) ≤ v1 →
        ∀ x_5 : Int32, x_5 = (v3 - (1 : Int32)) →
        vp_in x_5 60 ∧
        ∀ x_7 : Int32, x_7 = (A 21 x_5.toNatClampNeg) →
        vp_in v3 60 ∧
        ∀ v3_9 : Int32, v3_9 = v3 + (-1) →
        wp_X4_sortIn_2 E38 Q v1 B n v3_9 (u2 A 21 v3.toNatClampNeg x_7)
      ))
    ))
def wp_X4_sortIn (a0 : Int32) (a1 : Int32) (A : SA) (B : SB) (Q : SA → Prop) : Prop :=
  ∃ n_10 : Nat, wp_X4_sortIn_2
    (fun (v3_11 : Int32) (A_12 : SA) =>
      vp_in v3_11 60 ∧
      Q (u2 A_12 21 v3_11.toNatClampNeg a0)
    )
    Q a0 B n_10 a1 A
abbrev rmX4_isBelowMiddle : Room := { frames := 1, cells := 0, slots := 0, locals := 23 }
theorem hX4_isBelowMiddle_X4 : ∀ w ∈ wsX40, w ∈ wsX4_isBelowMiddle := fun w h => List.mem_cons_of_mem _ (List.mem_append_right _ h)
def wp_X4_isBelowMiddle_6 (E56 : Int32 → SA → Prop) (Q : Int32 → SA → Prop) (v1 : Int32) (v2 : Int32) (v3 : Int32) (v4 : Int32) (B : SB) : Nat → Int32 → Int32 → SA → Prop
  | 0, _, _, _ => False
  | n + 1, v5, v6, A =>
    (((A 2 0) ≤ v6 →
      E56 v5 A
    ) ∧ (¬ (A 2 0) ≤ v6 →
      ((v6 = v1 →
        ∀ v6_3 : Int32, v6_3 = v6 + 1 →
        wp_X4_isBelowMiddle_6 E56 Q v1 v2 v3 v4 B n v5 v6_3 A
      ) ∧ (¬ v6 = v1 →
        vp_in v6 60 ∧
        (((A 16 v6.toNatClampNeg) ≤ v2 →
          ∀ v6_6 : Int32, v6_6 = v6 + 1 →
          wp_X4_isBelowMiddle_6 E56 Q v1 v2 v3 v4 B n v5 v6_6 A
        ) ∧ (¬ (A 16 v6.toNatClampNeg) ≤ v2 →
          vp_in v6 60 ∧
          vp_in v2 20 ∧
          wp_X4_sortIn (A (56 + v6.toNatClampNeg) v2.toNatClampNeg) v5 A B (fun (A_10 : SA) =>
            ∀ v5_12 : Int32, v5_12 = v5 + 1 →
            ∀ v6_13 : Int32, v6_13 = v6 + 1 →
            wp_X4_isBelowMiddle_6 E56 Q v1 v2 v3 v4 B n v5_12 v6_13 A_10
          )
        ))
      ))
    ))
def wp_X4_isBelowMiddle (a0 : Int32) (a1 : Int32) (a2 : Int32) (a3 : Int32) (A : SA) (B : SB) (Q : Int32 → SA → Prop) : Prop :=
  ∃ n_14 : Nat, wp_X4_isBelowMiddle_6
    (fun (v5_15 : Int32) (A_16 : SA) =>
      ((v5_15 < a3 →
        Q (0 : Int32) A_16
      ) ∧ (¬ v5_15 < a3 →
        ∀ x_18 : Int32, x_18 = ((v5_15 - (1 : Int32)) / (2 : Int32)) →
        vp_in x_18 60 ∧
        (((A_16 21 x_18.toNatClampNeg) ≤ a2 →
          Q (0 : Int32) A_16
        ) ∧ (¬ (A_16 21 x_18.toNatClampNeg) ≤ a2 →
          Q (1 : Int32) A_16
        ))
      ))
    )
    Q a0 a1 a2 a3 B n_14 (0 : Int32) (0 : Int32) A
abbrev rmX4_addReport : Room := { frames := 2, cells := 0, slots := 0, locals := 49 }
theorem hX4_addReport_X4 : ∀ w ∈ wsX40, w ∈ wsX4_addReport := fun w h => List.mem_cons_of_mem _ (List.mem_append_right _ h)
def wp_X4_addReport (a0 : Int32) (a1 : Int32) (a2 : Int32) (A : SA) (B : SB) (Q : Int32 → SA → Prop) : Prop :=
  vp_in a0 60 ∧
  ∀ x_2 : Int32, x_2 = (A 16 a0.toNatClampNeg) →
  ((a2 ≤ 0 →
    vp_in a0 60 ∧
    vp_in x_2 20 ∧
    vp_in a0 60 ∧
    ∀ x_7 : Int32, x_7 = (((u2 A (56 + a0.toNatClampNeg) x_2.toNatClampNeg a1) 16 a0.toNatClampNeg) + (1 : Int32)) →
    vp_in a0 60 ∧
    Q x_2 (u2 (u2 A (56 + a0.toNatClampNeg) x_2.toNatClampNeg a1) 16 a0.toNatClampNeg x_7)
  ) ∧ (¬ a2 ≤ 0 →
    wp_X4_isBelowMiddle a0 x_2 a1 a2 A B (fun (r_10 : Int32) (A_11 : SA) =>
      ((r_10 = 0 →
        vp_in a0 60 ∧
        vp_in x_2 20 ∧
        vp_in a0 60 ∧
        ∀ x_17 : Int32, x_17 = (((u2 A_11 (56 + a0.toNatClampNeg) x_2.toNatClampNeg a1) 16 a0.toNatClampNeg) + (1 : Int32)) →
        vp_in a0 60 ∧
        Q x_2 (u2 (u2 A_11 (56 + a0.toNatClampNeg) x_2.toNatClampNeg a1) 16 a0.toNatClampNeg x_17)
      ) ∧ (¬ r_10 = 0 →
        vp_in a0 60 ∧
        vp_in x_2 20 ∧
        vp_in a0 60 ∧
        ∀ x_23 : Int32, x_23 = (((u2 A_11 (56 + a0.toNatClampNeg) x_2.toNatClampNeg a1) 16 a0.toNatClampNeg) + (1 : Int32)) →
        vp_in a0 60 ∧
        vp_in a0 60 ∧
        Q ((-10 : Int32) - x_2) (u2 (u2 (u2 A_11 (56 + a0.toNatClampNeg) x_2.toNatClampNeg a1) 16 a0.toNatClampNeg x_23) 14 a0.toNatClampNeg (3 : Int32))
      ))
    )
  ))
abbrev rmX4_firstGreatest : Room := { frames := 0, cells := 0, slots := 0, locals := 0 }
theorem hX4_firstGreatest_X4 : ∀ w ∈ wsX40, w ∈ wsX4_firstGreatest := fun w h => List.mem_cons_of_mem _ (List.mem_append_right _ h)
def wp_X4_firstGreatest_5 (E50 : Int32 → Prop) (Q : Int32 → Prop) (A : SA) (B : SB) : Nat → Int32 → Int32 → Prop
  | 0, _, _ => False
  | n + 1, v1, v2 =>
    (((A 2 0) ≤ v2 →
      E50 v1
    ) ∧ (¬ (A 2 0) ≤ v2 →
      vp_in v2 60 ∧
      ((¬ (A 14 v2.toNatClampNeg) = (1 : Int32) →
        ∀ v2_4 : Int32, v2_4 = v2 + 1 →
        wp_X4_firstGreatest_5 E50 Q A B n v1 v2_4
      ) ∧ ((A 14 v2.toNatClampNeg) = (1 : Int32) →
        ((v1 < 0 →
          ∀ v2_6 : Int32, v2_6 = v2 + 1 →
          wp_X4_firstGreatest_5 E50 Q A B n v2 v2_6
        ) ∧ (¬ v1 < 0 →
          vp_in v2 60 ∧
          vp_in v1 60 ∧
          (((A 15 v2.toNatClampNeg) ≤ (A 15 v1.toNatClampNeg) →
            ∀ v2_10 : Int32, v2_10 = v2 + 1 →
            wp_X4_firstGreatest_5 E50 Q A B n v1 v2_10
          ) ∧ (¬ (A 15 v2.toNatClampNeg) ≤ (A 15 v1.toNatClampNeg) →
            ∀ v2_11 : Int32, v2_11 = v2 + 1 →
            wp_X4_firstGreatest_5 E50 Q A B n v2 v2_11
          ))
        ))
      ))
    ))
def wp_X4_firstGreatest  (A : SA) (B : SB) (Q : Int32 → Prop) : Prop :=
  ∃ n_12 : Nat, wp_X4_firstGreatest_5
    (fun (v1_13 : Int32) =>
      Q v1_13
    )
    Q A B n_12 (-2 : Int32) (0 : Int32)
abbrev rmX5_within : Room := { frames := 0, cells := 0, slots := 0, locals := 0 }
def wp_X5_within (a0 : Int64) (a1 : Int64) (a2 : Int64) (A : SA) (B : SB) (Q : Int32 → Prop) : Prop :=
  ((a0 < a1 →
    Q (0 : Int32)
  ) ∧ (¬ a0 < a1 →
    ((a2 < a0 →
      Q (0 : Int32)
    ) ∧ (¬ a2 < a0 →
      Q (1 : Int32)
    ))
  ))
abbrev rmX5_name : Room := { frames := 4, cells := 0, slots := 0, locals := 89 }
theorem hX5_name_X5 : ∀ w ∈ wsX50, w ∈ wsX5_name := fun w h => List.mem_cons_of_mem _ (List.mem_append_left _ (List.mem_append_left _ (List.mem_append_right _ h)))
theorem hX5_name_X3 : ∀ w ∈ wsX30, w ∈ wsX5_name := fun w h => List.mem_cons_of_mem _ (List.mem_append_left _ (List.mem_append_right _ h))
theorem hX5_name_X4 : ∀ w ∈ wsX40, w ∈ wsX5_name := fun w h => List.mem_cons_of_mem _ (List.mem_append_right _ h)
def wp_X5_name (a0 : Int32) (a1 : Int32) (a2 : Int32) (A : SA) (B : SB) (Q : Int32 → SA → SB → Prop) : Prop :=
  wp_X5_within a0.toInt64 (1 : Int64) (30 : Int64) A B (fun (r_1 : Int32) =>
    ((r_1 = 0 →
      Q (-1 : Int32) A B
    ) ∧ (¬ r_1 = 0 →
      wp_X5_within a1.toInt64 (-1 : Int64) ((A 1 0) - (1 : Int32)).toInt64 A B (fun (r_5 : Int32) =>
        ((¬ r_5 = 0 →
          ((a1 < 0 →
            (((A 2 0) ≤ 0 →
              (((8 : Int32) ≤ (A 1 0) →
                Q (-4 : Int32) A B
              ) ∧ (¬ (8 : Int32) ≤ (A 1 0) →
                wp_X3_add a0 a1 a2 A B (fun (r_12 : Int32) (A_13 : SA) (B_14 : SB) =>
                  Q r_12 A_13 B_14
                )
              ))
            ) ∧ (¬ (A 2 0) ≤ 0 →
              Q (-3 : Int32) A B
            ))
          ) ∧ (¬ a1 < 0 →
            wp_X5_within a2.toInt64 (1 : Int64) (1073741823 : Int64) A B (fun (r_15 : Int32) =>
              ((¬ r_15 = 0 →
                (((A 2 0) ≤ 0 →
                  (((8 : Int32) ≤ (A 1 0) →
                    Q (-4 : Int32) A B
                  ) ∧ (¬ (8 : Int32) ≤ (A 1 0) →
                    wp_X3_add a0 a1 a2 A B (fun (r_21 : Int32) (A_22 : SA) (B_23 : SB) =>
                      Q r_21 A_22 B_23
                    )
                  ))
                ) ∧ (¬ (A 2 0) ≤ 0 →
                  Q (-3 : Int32) A B
                ))
              ) ∧ (r_15 = 0 →
                Q (-1 : Int32) A B
              ))
            )
          ))
        ) ∧ (r_5 = 0 →
          Q (-1 : Int32) A B
        ))
      )
    ))
  )
abbrev rmX5_points : Room := { frames := 0, cells := 0, slots := 0, locals := 0 }
theorem hX5_points_X5 : ∀ w ∈ wsX50, w ∈ wsX5_points := fun w h => List.mem_cons_of_mem _ (List.mem_append_left _ (List.mem_append_right _ h))
theorem hX5_points_X3 : ∀ w ∈ wsX30, w ∈ wsX5_points := fun w h => List.mem_cons_of_mem _ (List.mem_append_right _ h)
def wp_X5_points  (A : SA) (B : SB) (Q : Int64 → Prop) : Prop :=
  Q (B 1 1)
abbrev rmX5_isPoint : Room := { frames := 1, cells := 0, slots := 0, locals := 25 }
theorem hX5_isPoint_X5 : ∀ w ∈ wsX50, w ∈ wsX5_isPoint := fun w h => List.mem_cons_of_mem _ (List.mem_append_left _ (List.mem_append_right _ h))
theorem hX5_isPoint_X3 : ∀ w ∈ wsX30, w ∈ wsX5_isPoint := fun w h => List.mem_cons_of_mem _ (List.mem_append_right _ h)
def wp_X5_isPoint (a0 : Int64) (A : SA) (B : SB) (Q : Int32 → Prop) : Prop :=
  wp_X5_within a0 (0 : Int64) ((B 1 1) - (1 : Int64)) A B (fun (r_1 : Int32) =>
    narrow .boolean (.int r_1) = .int r_1 ∧
    Q r_1
  )
abbrev rmX5_value : Room := { frames := 3, cells := 0, slots := 0, locals := 73 }
theorem hX5_value_X5 : ∀ w ∈ wsX50, w ∈ wsX5_value := fun w h => List.mem_cons_of_mem _ (List.mem_append_left _ (List.mem_append_right _ h))
theorem hX5_value_X3 : ∀ w ∈ wsX30, w ∈ wsX5_value := fun w h => List.mem_cons_of_mem _ (List.mem_append_right _ h)
def wp_X5_value (a0 : Int64) (a1 : Int32) (A : SA) (B : SB) (Q : Int32 → SA → Prop) : Prop :=
  wp_X5_isPoint a0 A B (fun (r_1 : Int32) =>
    ((r_1 = 0 →
      Q (-1 : Int32) A
    ) ∧ (¬ r_1 = 0 →
      wp_X5_within a1.toInt64 (0 : Int64) ((A 1 0) - (1 : Int32)).toInt64 A B (fun (r_5 : Int32) =>
        ((¬ r_5 = 0 →
          wp_X3_read a0 6 A B (fun (A_10 : SA) =>
            vp_in a1 8 ∧
            Q (A_10 6 a1.toNatClampNeg) A_10
          )
        ) ∧ (r_5 = 0 →
          Q (-1 : Int32) A
        ))
      )
    ))
  )
abbrev rmX5_number : Room := { frames := 3, cells := 0, slots := 0, locals := 69 }
theorem hX5_number_X5 : ∀ w ∈ wsX50, w ∈ wsX5_number := fun w h => List.mem_cons_of_mem _ (List.mem_append_left _ (List.mem_append_right _ h))
theorem hX5_number_X3 : ∀ w ∈ wsX30, w ∈ wsX5_number := fun w h => List.mem_cons_of_mem _ (List.mem_append_right _ h)
def wp_X5_number (a0 : Int64) (A : SA) (B : SB) (Q : Int64 → SA → Prop) : Prop :=
  wp_X3_takeBits a0 6 A B (fun (r_1 : Int32) (A_2 : SA) =>
    ((r_1 = 0 →
      Q (-2 : Int64) A_2
    ) ∧ (¬ r_1 = 0 →
      wp_X3_place 6 A_2 B (fun (r_5 : Int64) =>
        Q r_5 A_2
      )
    ))
  )
abbrev rmX5_distance : Room := { frames := 3, cells := 0, slots := 0, locals := 77 }
theorem hX5_distance_X5 : ∀ w ∈ wsX50, w ∈ wsX5_distance := fun w h => List.mem_cons_of_mem _ (List.mem_append_left _ (List.mem_append_right _ h))
theorem hX5_distance_X3 : ∀ w ∈ wsX30, w ∈ wsX5_distance := fun w h => List.mem_cons_of_mem _ (List.mem_append_right _ h)
def wp_X5_distance (a0 : Int64) (a1 : Int64) (A : SA) (B : SB) (Q : Int32 → SA → Prop) : Prop :=
  wp_X5_isPoint a0 A B (fun (r_1 : Int32) =>
    ((r_1 = 0 →
      Q (-1 : Int32) A
    ) ∧ (¬ r_1 = 0 →
      wp_X5_isPoint a1 A B (fun (r_5 : Int32) =>
        ((¬ r_5 = 0 →
          wp_X3_read a0 6 A B (fun (A_10 : SA) =>
            wp_X3_read a1 7 A_10 B (fun (A_13 : SA) =>
              wp_X3_apart 6 7 A_13 B (fun (r_15 : Int32) =>
                Q r_15 A_13
              )
            )
          )
        ) ∧ (r_5 = 0 →
          Q (-1 : Int32) A
        ))
      )
    ))
  )
abbrev rmX5_placeBy : Room := { frames := 4, cells := 0, slots := 0, locals := 96 }
theorem hX5_placeBy_X5 : ∀ w ∈ wsX50, w ∈ wsX5_placeBy := fun w h => List.mem_cons_of_mem _ (List.mem_append_left _ (List.mem_append_right _ h))
theorem hX5_placeBy_X3 : ∀ w ∈ wsX30, w ∈ wsX5_placeBy := fun w h => List.mem_cons_of_mem _ (List.mem_append_right _ h)
def wp_X5_placeBy (a0 : Int32) (a1 : Int32) (A : SA) (B : SB) (Q : Int64 → SA → Prop) : Prop :=
  ((¬ a0 = 0 →
    ((¬ a0 = (1 : Int32) →
      wp_X3_pickEach a1 6 A B (fun (A_4 : SA) =>
        wp_X3_place 6 A_4 B (fun (r_6 : Int64) =>
          Q r_6 A_4
        )
      )
    ) ∧ (a0 = (1 : Int32) →
      wp_X2_pick (B 1 1) a1 A B (fun (r_9 : Int64) =>
        Q r_9 A
      )
    ))
  ) ∧ (a0 = 0 →
    wp_X5_rest a1.toInt64 (B 1 1) A B (fun (r_12 : Int64) =>
      Q r_12 A
    )
  ))
abbrev rmX5_trial : Room := { frames := 5, cells := 0, slots := 0, locals := 118 }
theorem hX5_trial_X5 : ∀ w ∈ wsX50, w ∈ wsX5_trial := fun w h => List.mem_cons_of_mem _ (List.mem_append_left _ (List.mem_append_left _ (List.mem_append_right _ h)))
theorem hX5_trial_X4 : ∀ w ∈ wsX40, w ∈ wsX5_trial := fun w h => List.mem_cons_of_mem _ (List.mem_append_left _ (List.mem_append_right _ h))
theorem hX5_trial_X3 : ∀ w ∈ wsX30, w ∈ wsX5_trial := fun w h => List.mem_cons_of_mem _ (List.mem_append_right _ h)
def wp_X5_trial (a0 : Int32) (a1 : Int32) (A : SA) (B : SB) (Q : Int32 → SA → SB → Prop) : Prop :=
  wp_X5_within a0.toInt64 (0 : Int64) (2 : Int64) A B (fun (r_1 : Int32) =>
    ((r_1 = 0 →
      Q (-1 : Int32) A B
    ) ∧ (¬ r_1 = 0 →
      ((¬ a0 = 0 →
        (((60 : Int32) ≤ (A 2 0) →
          Q (-4 : Int32) A B
        ) ∧ (¬ (60 : Int32) ≤ (A 2 0) →
          wp_X5_placeBy a0 a1 A B (fun (r_7 : Int64) (A_8 : SA) =>
            wp_X4_add r_7 A_8 B (fun (r_10 : Int32) (A_11 : SA) (B_12 : SB) =>
              Q r_10 A_11 B_12
            )
          )
        ))
      ) ∧ (a0 = 0 →
        ((0 ≤ a1 →
          (((60 : Int32) ≤ (A 2 0) →
            Q (-4 : Int32) A B
          ) ∧ (¬ (60 : Int32) ≤ (A 2 0) →
            wp_X5_placeBy a0 a1 A B (fun (r_15 : Int64) (A_16 : SA) =>
              wp_X4_add r_15 A_16 B (fun (r_18 : Int32) (A_19 : SA) (B_20 : SB) =>
                Q r_18 A_19 B_20
              )
            )
          ))
        ) ∧ (¬ 0 ≤ a1 →
          Q (-1 : Int32) A B
        ))
      ))
    ))
  )
abbrev rmX5_guess : Room := { frames := 5, cells := 0, slots := 0, locals := 136 }
theorem hX5_guess_X5 : ∀ w ∈ wsX50, w ∈ wsX5_guess := fun w h => List.mem_cons_of_mem _ (List.mem_append_left _ (List.mem_append_left _ (List.mem_append_right _ h)))
theorem hX5_guess_X4 : ∀ w ∈ wsX40, w ∈ wsX5_guess := fun w h => List.mem_cons_of_mem _ (List.mem_append_left _ (List.mem_append_right _ h))
theorem hX5_guess_X3 : ∀ w ∈ wsX30, w ∈ wsX5_guess := fun w h => List.mem_cons_of_mem _ (List.mem_append_right _ h)
def wp_X5_guess (a0 : Int32) (a1 : Int32) (a2 : Int32) (A : SA) (B : SB) (Q : Int32 → SA → SB → Prop) : Prop :=
  wp_X5_within a1.toInt64 (1 : Int64) (40 : Int64) A B (fun (r_1 : Int32) =>
    ((r_1 = 0 →
      Q (-1 : Int32) A B
    ) ∧ (¬ r_1 = 0 →
      wp_X5_within a2.toInt64 (1 : Int64) (5 : Int64) A B (fun (r_5 : Int32) =>
        ((¬ r_5 = 0 →
          (((60 : Int32) ≤ (A 2 0) →
            Q (-4 : Int32) A B
          ) ∧ (¬ (60 : Int32) ≤ (A 2 0) →
            wp_X4_bestCandidate a0 a1 a2 A B (fun (r_10 : Int64) (A_11 : SA) =>
              wp_X4_add r_10 A_11 B (fun (r_13 : Int32) (A_14 : SA) (B_15 : SB) =>
                Q r_13 A_14 B_15
              )
            )
          ))
        ) ∧ (r_5 = 0 →
          Q (-1 : Int32) A B
        ))
      )
    ))
  )
abbrev rmX5_commonDivisor : Room := { frames := 1, cells := 0, slots := 0, locals := 23 }
def wp_X5_commonDivisor_9 (E47 : Int64 → Prop) (Q : Int64 → Prop) (A : SA) (B : SB) : Nat → Int64 → Int64 → Int32 → Prop
  | 0, _, _, _ => False
  | n + 1, v4, v6, v8 =>
    (((128 : Int32) ≤ v8 →
      E47 v4
    ) ∧ (¬ (128 : Int32) ≤ v8 →
      ((v6 ≤ (0 : Int64) →
        E47 v4
      ) ∧ (¬ v6 ≤ (0 : Int64) →
        wp_X5_rest v4 v6 A B (fun (r_3 : Int64) =>
          ∀ v8_6 : Int32, v8_6 = v8 + 1 →
          wp_X5_commonDivisor_9 E47 Q A B n v6 r_3 v8_6
        )
      ))
    ))
def wp_X5_commonDivisor (a0 : Int64) (a1 : Int64) (A : SA) (B : SB) (Q : Int64 → Prop) : Prop :=
  ∃ n_7 : Nat, wp_X5_commonDivisor_9
    (fun (v4_8 : Int64) =>
      Q v4_8
    )
    Q A B n_7 a1 a0 (0 : Int32)
abbrev rmX5_forecast : Room := { frames := 4, cells := 0, slots := 0, locals := 104 }
theorem hX5_forecast_X5 : ∀ w ∈ wsX50, w ∈ wsX5_forecast := fun w h => List.mem_cons_of_mem _ (List.mem_append_left _ (List.mem_append_left _ (List.mem_append_right _ h)))
theorem hX5_forecast_X4 : ∀ w ∈ wsX40, w ∈ wsX5_forecast := fun w h => List.mem_cons_of_mem _ (List.mem_append_left _ (List.mem_append_right _ h))
theorem hX5_forecast_X3 : ∀ w ∈ wsX30, w ∈ wsX5_forecast := fun w h => List.mem_cons_of_mem _ (List.mem_append_right _ h)
def wp_X5_forecast (a0 : Int64) (a1 : Int32) (a2 : Int32) (A : SA) (B : SB) (Q : Int64 → SA → Prop) : Prop :=
  wp_X5_isPoint a0 A B (fun (r_1 : Int32) =>
    ((r_1 = 0 →
      Q (-1000000000000000001 : Int64) A
    ) ∧ (¬ r_1 = 0 →
      wp_X5_within a1.toInt64 (1 : Int64) (5 : Int64) A B (fun (r_5 : Int32) =>
        ((r_5 = 0 →
          Q (-1000000000000000001 : Int64) A
        ) ∧ (¬ r_5 = 0 →
          wp_X5_within a2.toInt64 (0 : Int64) (1 : Int64) A B (fun (r_9 : Int32) =>
            ((¬ r_9 = 0 →
              ((¬ (A 2 1) = 0 →
                wp_X4_nearSum a0 a1 A B (fun (r_14 : Int64) (A_15 : SA) =>
                  ∀ x_17 : Int64, x_17 = (if (A_15 2 1) < a1 then (A_15 2 1) else a1).toInt64 →
                  wp_X5_commonDivisor (if 0 < r_14 then r_14 else -r_14) x_17 A_15 B (fun (r_18 : Int64) =>
                    ((¬ a2 = 0 →
                      wp_X5_cut x_17 r_18 A_15 B (fun (r_22 : Int64) =>
                        Q r_22 A_15
                      )
                    ) ∧ (a2 = 0 →
                      wp_X5_cut r_14 r_18 A_15 B (fun (r_25 : Int64) =>
                        Q r_25 A_15
                      )
                    ))
                  )
                )
              ) ∧ ((A 2 1) = 0 →
                Q (-1000000000000000002 : Int64) A
              ))
            ) ∧ (r_9 = 0 →
              Q (-1000000000000000001 : Int64) A
            ))
          )
        ))
      )
    ))
  )
abbrev rmX5_isTrial : Room := { frames := 1, cells := 0, slots := 0, locals := 25 }
theorem hX5_isTrial_X5 : ∀ w ∈ wsX50, w ∈ wsX5_isTrial := fun w h => List.mem_cons_of_mem _ (List.mem_append_left _ (List.mem_append_right _ h))
theorem hX5_isTrial_X4 : ∀ w ∈ wsX40, w ∈ wsX5_isTrial := fun w h => List.mem_cons_of_mem _ (List.mem_append_right _ h)
def wp_X5_isTrial (a0 : Int32) (A : SA) (B : SB) (Q : Int32 → Prop) : Prop :=
  wp_X5_within a0.toInt64 (0 : Int64) ((A 2 0) - (1 : Int32)).toInt64 A B (fun (r_1 : Int32) =>
    narrow .boolean (.int r_1) = .int r_1 ∧
    Q r_1
  )
abbrev rmX5_isMark : Room := { frames := 1, cells := 0, slots := 0, locals := 25 }
def wp_X5_isMark (a0 : Int32) (a1 : Int32) (A : SA) (B : SB) (Q : Int32 → Prop) : Prop :=
  ((a1 = 0 →
    Q (1 : Int32)
  ) ∧ (¬ a1 = 0 →
    wp_X5_within a0.toInt64 (-1000000 : Int64) (1000000 : Int64) A B (fun (r_2 : Int32) =>
      ((r_2 = 0 →
        Q (0 : Int32)
      ) ∧ (¬ r_2 = 0 →
        Q (1 : Int32)
      ))
    )
  ))
abbrev rmX5_score : Room := { frames := 2, cells := 0, slots := 0, locals := 46 }
theorem hX5_score_X5 : ∀ w ∈ wsX50, w ∈ wsX5_score := fun w h => List.mem_cons_of_mem _ (List.mem_append_left _ (List.mem_append_right _ h))
theorem hX5_score_X4 : ∀ w ∈ wsX40, w ∈ wsX5_score := fun w h => List.mem_cons_of_mem _ (List.mem_append_right _ h)
def wp_X5_score (a0 : Int32) (a1 : Int32) (a2 : Int32) (A : SA) (B : SB) (Q : Int32 → SA → Prop) : Prop :=
  wp_X5_isTrial a0 A B (fun (r_1 : Int32) =>
    ((r_1 = 0 →
      Q (-1 : Int32) A
    ) ∧ (¬ r_1 = 0 →
      wp_X5_isMark a1 a2 A B (fun (r_5 : Int32) =>
        ((¬ r_5 = 0 →
          vp_in a0 60 ∧
          ((¬ (A 14 a0.toNatClampNeg) = 0 →
            Q (-3 : Int32) A
          ) ∧ ((A 14 a0.toNatClampNeg) = 0 →
            wp_X4_close a0 a1 a2 A B (fun (r_11 : Int32) (A_12 : SA) =>
              Q r_11 A_12
            )
          ))
        ) ∧ (r_5 = 0 →
          Q (-1 : Int32) A
        ))
      )
    ))
  )
abbrev rmX5_report : Room := { frames := 3, cells := 0, slots := 0, locals := 74 }
theorem hX5_report_X5 : ∀ w ∈ wsX50, w ∈ wsX5_report := fun w h => List.mem_cons_of_mem _ (List.mem_append_left _ (List.mem_append_right _ h))
theorem hX5_report_X4 : ∀ w ∈ wsX40, w ∈ wsX5_report := fun w h => List.mem_cons_of_mem _ (List.mem_append_right _ h)
def wp_X5_report (a0 : Int32) (a1 : Int32) (a2 : Int32) (A : SA) (B : SB) (Q : Int32 → SA → Prop) : Prop :=
  wp_X5_isTrial a0 A B (fun (r_1 : Int32) =>
    ((r_1 = 0 →
      Q (-1 : Int32) A
    ) ∧ (¬ r_1 = 0 →
      wp_X5_isMark a1 (1 : Int32) A B (fun (r_5 : Int32) =>
        ((r_5 = 0 →
          Q (-1 : Int32) A
        ) ∧ (¬ r_5 = 0 →
          wp_X5_within a2.toInt64 (0 : Int64) (60 : Int64) A B (fun (r_9 : Int32) =>
            ((¬ r_9 = 0 →
              vp_in a0 60 ∧
              (((A 14 a0.toNatClampNeg) = 0 →
                vp_in a0 60 ∧
                (((20 : Int32) ≤ (A 16 a0.toNatClampNeg) →
                  Q (-4 : Int32) A
                ) ∧ (¬ (20 : Int32) ≤ (A 16 a0.toNatClampNeg) →
                  wp_X4_addReport a0 a1 a2 A B (fun (r_17 : Int32) (A_18 : SA) =>
                    Q r_17 A_18
                  )
                ))
              ) ∧ (¬ (A 14 a0.toNatClampNeg) = 0 →
                Q (-3 : Int32) A
              ))
            ) ∧ (r_9 = 0 →
              Q (-1 : Int32) A
            ))
          )
        ))
      )
    ))
  )
abbrev rmX5_told : Room := { frames := 2, cells := 0, slots := 0, locals := 46 }
theorem hX5_told_X5 : ∀ w ∈ wsX50, w ∈ wsX5_told := fun w h => List.mem_cons_of_mem _ (List.mem_append_left _ (List.mem_append_left _ (List.mem_append_right _ h)))
theorem hX5_told_X4 : ∀ w ∈ wsX40, w ∈ wsX5_told := fun w h => List.mem_cons_of_mem _ (List.mem_append_left _ (List.mem_append_right _ h))
theorem hX5_told_X1 : ∀ w ∈ wsX10, w ∈ wsX5_told := fun w h => List.mem_cons_of_mem _ (List.mem_append_right _ h)
def wp_X5_told (a0 : Int32) (a1 : Int32) (A : SA) (B : SB) (Q : Int32 → Prop) : Prop :=
  wp_X5_isTrial a0 A B (fun (r_1 : Int32) =>
    ((¬ r_1 = 0 →
      ((a1 = 0 →
        vp_in a0 60 ∧
        Q (A 14 a0.toNatClampNeg)
      ) ∧ (¬ a1 = 0 →
      ((a1 = 1 →
        vp_in a0 60 ∧
        Q (A 15 a0.toNatClampNeg)
      ) ∧ (¬ a1 = 1 →
      ((a1 = 2 →
        vp_in a0 60 ∧
        Q (A 16 a0.toNatClampNeg)
      ) ∧ (¬ a1 = 2 →
      ((a1 = 3 →
        vp_in a0 60 ∧
        Q (A 22 a0.toNatClampNeg)
      ) ∧ (¬ a1 = 3 →
      ((a1 = 4 →
        wp_X1_isIn a0 A B (fun (r_14 : Int32) =>
          ((r_14 = 0 →
            Q (0 : Int32)
          ) ∧ (¬ r_14 = 0 →
            Q (1 : Int32)
          ))
        )
      ) ∧ (¬ a1 = 4 →
        Q (-1 : Int32)
      ))))))))))
    ) ∧ (r_1 = 0 →
      Q (-1 : Int32)
    ))
  )
abbrev rmX5_point : Room := { frames := 2, cells := 0, slots := 0, locals := 46 }
theorem hX5_point_X5 : ∀ w ∈ wsX50, w ∈ wsX5_point := fun w h => List.mem_cons_of_mem _ (List.mem_append_left _ (List.mem_append_right _ h))
theorem hX5_point_X4 : ∀ w ∈ wsX40, w ∈ wsX5_point := fun w h => List.mem_cons_of_mem _ (List.mem_append_right _ h)
def wp_X5_point (a0 : Int32) (A : SA) (B : SB) (Q : Int64 → Prop) : Prop :=
  wp_X5_isTrial a0 A B (fun (r_1 : Int32) =>
    ((r_1 = 0 →
      Q (-1 : Int64)
    ) ∧ (¬ r_1 = 0 →
      vp_in a0 60 ∧
      Q (B 13 a0.toNatClampNeg)
    ))
  )
abbrev rmX5_reported : Room := { frames := 2, cells := 0, slots := 0, locals := 46 }
theorem hX5_reported_X5 : ∀ w ∈ wsX50, w ∈ wsX5_reported := fun w h => List.mem_cons_of_mem _ (List.mem_append_left _ (List.mem_append_right _ h))
theorem hX5_reported_X4 : ∀ w ∈ wsX40, w ∈ wsX5_reported := fun w h => List.mem_cons_of_mem _ (List.mem_append_right _ h)
def wp_X5_reported (a0 : Int32) (a1 : Int32) (A : SA) (B : SB) (Q : Int32 → Prop) : Prop :=
  wp_X5_isTrial a0 A B (fun (r_1 : Int32) =>
    ((r_1 = 0 →
      Q (-2000000 : Int32)
    ) ∧ (¬ r_1 = 0 →
      vp_in a0 60 ∧
      wp_X5_within a1.toInt64 (0 : Int64) ((A 16 a0.toNatClampNeg) - (1 : Int32)).toInt64 A B (fun (r_6 : Int32) =>
        ((¬ r_6 = 0 →
          vp_in a0 60 ∧
          vp_in a1 20 ∧
          Q (A (56 + a0.toNatClampNeg) a1.toNatClampNeg)
        ) ∧ (r_6 = 0 →
          Q (-2000000 : Int32)
        ))
      )
    ))
  )
abbrev rmX5_best : Room := { frames := 1, cells := 0, slots := 0, locals := 22 }
theorem hX5_best_X5 : ∀ w ∈ wsX50, w ∈ wsX5_best := fun w h => List.mem_cons_of_mem _ (List.mem_append_left _ (List.mem_append_right _ h))
theorem hX5_best_X4 : ∀ w ∈ wsX40, w ∈ wsX5_best := fun w h => List.mem_cons_of_mem _ (List.mem_append_right _ h)
def wp_X5_best  (A : SA) (B : SB) (Q : Int32 → Prop) : Prop :=
  wp_X4_firstGreatest  A B (fun (r_1 : Int32) =>
    Q r_1
  )
abbrev rmX5_bracket : Room := { frames := 1, cells := 0, slots := 0, locals := 25 }
theorem hX5_bracket_X5 : ∀ w ∈ wsX50, w ∈ wsX5_bracket := fun w h => List.mem_cons_of_mem _ (List.mem_append_left _ (List.mem_append_left _ (List.mem_append_right _ h)))
theorem hX5_bracket_X4 : ∀ w ∈ wsX40, w ∈ wsX5_bracket := fun w h => List.mem_cons_of_mem _ (List.mem_append_left _ (List.mem_append_right _ h))
theorem hX5_bracket_X1 : ∀ w ∈ wsX10, w ∈ wsX5_bracket := fun w h => List.mem_cons_of_mem _ (List.mem_append_right _ h)
def wp_X5_bracket (a0 : Int32) (a1 : Int32) (a2 : Int32) (a3 : Int32) (A : SA) (B : SB) (Q : Int32 → SA → SB → Prop) : Prop :=
  wp_X5_within a1.toInt64 (1 : Int64) (60 : Int64) A B (fun (r_1 : Int32) =>
    ((r_1 = 0 →
      Q (-1 : Int32) A B
    ) ∧ (¬ r_1 = 0 →
      wp_X5_within a0.toInt64 (0 : Int64) ((A 2 0) - a1).toInt64 A B (fun (r_5 : Int32) =>
        ((¬ r_5 = 0 →
          wp_X5_within a2.toInt64 (1 : Int64) (1000000 : Int64) A B (fun (r_9 : Int32) =>
            ((r_9 = 0 →
              Q (-1 : Int32) A B
            ) ∧ (¬ r_9 = 0 →
              wp_X5_within a3.toInt64 (2 : Int64) (5 : Int64) A B (fun (r_13 : Int32) =>
                ((¬ r_13 = 0 →
                  wp_X1_start a0 a1 a2 a3 A B (fun (A_18 : SA) (B_19 : SB) =>
                    Q (1 : Int32) A_18 B_19
                  )
                ) ∧ (r_13 = 0 →
                  Q (-1 : Int32) A B
                ))
              )
            ))
          )
        ) ∧ (r_5 = 0 →
          Q (-1 : Int32) A B
        ))
      )
    ))
  )
abbrev rmX5_result : Room := { frames := 2, cells := 0, slots := 0, locals := 46 }
theorem hX5_result_X5 : ∀ w ∈ wsX50, w ∈ wsX5_result := fun w h => List.mem_cons_of_mem _ (List.mem_append_left _ (List.mem_append_left _ (List.mem_append_right _ h)))
theorem hX5_result_X4 : ∀ w ∈ wsX40, w ∈ wsX5_result := fun w h => List.mem_cons_of_mem _ (List.mem_append_left _ (List.mem_append_right _ h))
theorem hX5_result_X1 : ∀ w ∈ wsX10, w ∈ wsX5_result := fun w h => List.mem_cons_of_mem _ (List.mem_append_right _ h)
def wp_X5_result (a0 : Int32) (a1 : Int32) (a2 : Int32) (A : SA) (B : SB) (Q : Int32 → SA → SB → Prop) : Prop :=
  wp_X5_isTrial a0 A B (fun (r_1 : Int32) =>
    ((r_1 = 0 →
      Q (-1 : Int32) A B
    ) ∧ (¬ r_1 = 0 →
      wp_X5_isMark a1 a2 A B (fun (r_5 : Int32) =>
        ((¬ r_5 = 0 →
          wp_X1_isWaiting a0 A B (fun (r_9 : Int32) =>
            ((r_9 = 0 →
              Q (-3 : Int32) A B
            ) ∧ (¬ r_9 = 0 →
              wp_X1_mark a0 a1 a2 A B (fun (r_13 : Int32) (A_14 : SA) (B_15 : SB) =>
                Q r_13 A_14 B_15
              )
            ))
          )
        ) ∧ (r_5 = 0 →
          Q (-1 : Int32) A B
        ))
      )
    ))
  )
abbrev rmX5_halve : Room := { frames := 2, cells := 0, slots := 0, locals := 53 }
theorem hX5_halve_X5 : ∀ w ∈ wsX50, w ∈ wsX5_halve := fun w h => List.mem_cons_of_mem _ (List.mem_append_left _ (List.mem_append_right _ h))
theorem hX5_halve_X1 : ∀ w ∈ wsX10, w ∈ wsX5_halve := fun w h => List.mem_cons_of_mem _ (List.mem_append_right _ h)
def wp_X5_halve  (A : SA) (B : SB) (Q : Int32 → SA → Prop) : Prop :=
  wp_X1_canEnd  A B (fun (r_1 : Int32) =>
    ((r_1 = 0 →
      Q (-3 : Int32) A
    ) ∧ (¬ r_1 = 0 →
      wp_X1_end  A B (fun (r_5 : Int32) (A_6 : SA) =>
        Q r_5 A_6
      )
    ))
  )
abbrev rmX5_round : Room := { frames := 1, cells := 0, slots := 0, locals := 25 }
theorem hX5_round_X5 : ∀ w ∈ wsX50, w ∈ wsX5_round := fun w h => List.mem_cons_of_mem _ (List.mem_append_left _ (List.mem_append_right _ h))
theorem hX5_round_X1 : ∀ w ∈ wsX10, w ∈ wsX5_round := fun w h => List.mem_cons_of_mem _ (List.mem_append_right _ h)
def wp_X5_round (a0 : Int32) (A : SA) (B : SB) (Q : Int32 → Prop) : Prop :=
  wp_X5_within a0.toInt64 (0 : Int64) (3 : Int64) A B (fun (r_1 : Int32) =>
    ((¬ r_1 = 0 →
      (((A 3 0) = 0 →
        Q (-2 : Int32)
      ) ∧ (¬ (A 3 0) = 0 →
        wp_X1_tell a0 A B (fun (r_6 : Int32) =>
          Q r_6
        )
      ))
    ) ∧ (r_1 = 0 →
      Q (-1 : Int32)
    ))
  )
abbrev rmX5_cost : Room := { frames := 0, cells := 0, slots := 0, locals := 0 }
theorem hX5_cost_X5 : ∀ w ∈ wsX50, w ∈ wsX5_cost := fun w h => List.mem_cons_of_mem _ (List.mem_append_left _ (List.mem_append_right _ h))
theorem hX5_cost_X1 : ∀ w ∈ wsX10, w ∈ wsX5_cost := fun w h => List.mem_cons_of_mem _ (List.mem_append_right _ h)
def wp_X5_cost  (A : SA) (B : SB) (Q : Int64 → Prop) : Prop :=
  Q (B 3 1)
abbrev rmX5_power : Room := { frames := 0, cells := 0, slots := 0, locals := 0 }
def wp_X5_power_5 (E22 : Int64 → Prop) (Q : Int64 → Prop) (v0 : Int32) (v1 : Int32) (A : SA) (B : SB) : Nat → Int64 → Int32 → Prop
  | 0, _, _ => False
  | n + 1, v2, v4 =>
    ((v1 ≤ v4 →
      E22 v2
    ) ∧ (¬ v1 ≤ v4 →
      ∀ x_2 : Int64, x_2 = (v2 * v0.toInt64) →
      ∀ v4_3 : Int32, v4_3 = v4 + 1 →
      wp_X5_power_5 E22 Q v0 v1 A B n x_2 v4_3
    ))
def wp_X5_power (a0 : Int32) (a1 : Int32) (A : SA) (B : SB) (Q : Int64 → Prop) : Prop :=
  ∃ n_4 : Nat, wp_X5_power_5
    (fun (v2_5 : Int64) =>
      Q v2_5
    )
    Q a0 a1 A B n_4 (1 : Int64) (0 : Int32)
abbrev rmX5_lastBracket : Room := { frames := 1, cells := 0, slots := 0, locals := 24 }
def wp_X5_lastBracket_2 (E27 : Int32 → Prop) (Q : Int32 → Prop) (v0 : Int32) (v1 : Int32) (A : SA) (B : SB) : Nat → Int32 → Prop
  | 0, _ => False
  | n + 1, v2 =>
    (((20 : Int32) ≤ v2 →
      E27 v2
    ) ∧ (¬ (20 : Int32) ≤ v2 →
      wp_X5_power v1 (v2 + (1 : Int32)) A B (fun (r_2 : Int64) =>
        ((v0.toInt64 < r_2 →
          E27 v2
        ) ∧ (¬ v0.toInt64 < r_2 →
          ∀ v2_6 : Int32, v2_6 = v2 + 1 →
          wp_X5_lastBracket_2 E27 Q v0 v1 A B n v2_6
        ))
      )
    ))
def wp_X5_lastBracket (a0 : Int32) (a1 : Int32) (A : SA) (B : SB) (Q : Int32 → Prop) : Prop :=
  ∃ n_7 : Nat, wp_X5_lastBracket_2
    (fun (v2_8 : Int32) =>
      Q v2_8
    )
    Q a0 a1 A B n_7 (0 : Int32)
abbrev rmX5_cutUp : Room := { frames := 1, cells := 0, slots := 0, locals := 23 }
def wp_X5_cutUp (a0 : Int64) (a1 : Int64) (A : SA) (B : SB) (Q : Int64 → Prop) : Prop :=
  wp_X5_cut ((a0 + a1) - (1 : Int64)) a1 A B (fun (r_1 : Int64) =>
    Q r_1
  )
abbrev rmX5_plan : Room := { frames := 2, cells := 0, slots := 0, locals := 46 }
def wp_X5_plan (a0 : Int32) (a1 : Int32) (a2 : Int32) (a3 : Int32) (A : SA) (B : SB) (Q : Int32 → Prop) : Prop :=
  wp_X5_within a0.toInt64 (1 : Int64) (1000000 : Int64) A B (fun (r_1 : Int32) =>
    ((r_1 = 0 →
      Q (-1 : Int32)
    ) ∧ (¬ r_1 = 0 →
      wp_X5_within a1.toInt64 (2 : Int64) (5 : Int64) A B (fun (r_5 : Int32) =>
        ((r_5 = 0 →
          Q (-1 : Int32)
        ) ∧ (¬ r_5 = 0 →
          wp_X5_within a3.toInt64 (0 : Int64) (1 : Int64) A B (fun (r_9 : Int32) =>
            ((¬ r_9 = 0 →
              wp_X5_lastBracket a0 a1 A B (fun (r_13 : Int32) =>
                wp_X5_within a2.toInt64 (-1 : Int64) r_13.toInt64 A B (fun (r_16 : Int32) =>
                  ((¬ r_16 = 0 →
                    ((¬ a2 = (-1 : Int32) →
                      wp_X5_power a1 a2 A B (fun (r_21 : Int64) =>
                        ((¬ a3 = 0 →
                          wp_X5_cut a0.toInt64 r_21 A B (fun (r_25 : Int64) =>
                            Q r_25.toInt32
                          )
                        ) ∧ (a3 = 0 →
                          wp_X5_cutUp ((r_13 + (1 : Int32)).toInt64 * r_21) (a2 + (1 : Int32)).toInt64 A B (fun (r_28 : Int64) =>
                            Q r_28.toInt32
                          )
                        ))
                      )
                    ) ∧ (a2 = (-1 : Int32) →
                      ((¬ a3 = 0 →
                        Q (-1 : Int32)
                      ) ∧ (a3 = 0 →
                        Q r_13
                      ))
                    ))
                  ) ∧ (r_16 = 0 →
                    Q (-1 : Int32)
                  ))
                )
              )
            ) ∧ (r_9 = 0 →
              Q (-1 : Int32)
            ))
          )
        ))
      )
    ))
  )
abbrev rmX5_folds : Room := { frames := 3, cells := 0, slots := 0, locals := 113 }
theorem hX5_folds_X5 : ∀ w ∈ wsX50, w ∈ wsX5_folds := fun w h => List.mem_cons_of_mem _ (List.mem_append_left _ (List.mem_append_right _ h))
theorem hX5_folds_X0 : ∀ w ∈ wsX00, w ∈ wsX5_folds := fun w h => List.mem_cons_of_mem _ (List.mem_append_right _ h)
def wp_X5_folds (a0 : Int32) (a1 : Int32) (a2 : Int32) (a3 : Int32) (A : SA) (B : SB) (Q : Int32 → SA → SB → Prop) : Prop :=
  wp_X5_within a0.toInt64 (1 : Int64) (200 : Int64) A B (fun (r_1 : Int32) =>
    ((r_1 = 0 →
      Q (-1 : Int32) A B
    ) ∧ (¬ r_1 = 0 →
      wp_X5_within a1.toInt64 (2 : Int64) (10 : Int64) A B (fun (r_5 : Int32) =>
        ((r_5 = 0 →
          Q (-1 : Int32) A B
        ) ∧ (¬ r_5 = 0 →
          wp_X5_within a2.toInt64 (2 : Int64) (10 : Int64) A B (fun (r_9 : Int32) =>
            ((¬ r_9 = 0 →
              wp_X0_make a0 a1 a2 a3 A B (fun (A_14 : SA) (B_15 : SB) =>
                Q (1 : Int32) A_14 B_15
              )
            ) ∧ (r_9 = 0 →
              Q (-1 : Int32) A B
            ))
          )
        ))
      )
    ))
  )
abbrev rmX5_isRow : Room := { frames := 1, cells := 0, slots := 0, locals := 25 }
theorem hX5_isRow_X5 : ∀ w ∈ wsX50, w ∈ wsX5_isRow := fun w h => List.mem_cons_of_mem _ (List.mem_append_left _ (List.mem_append_right _ h))
theorem hX5_isRow_X0 : ∀ w ∈ wsX00, w ∈ wsX5_isRow := fun w h => List.mem_cons_of_mem _ (List.mem_append_right _ h)
def wp_X5_isRow (a0 : Int32) (A : SA) (B : SB) (Q : Int32 → Prop) : Prop :=
  wp_X5_within a0.toInt64 (0 : Int64) ((A 4 0) - (1 : Int32)).toInt64 A B (fun (r_1 : Int32) =>
    narrow .boolean (.int r_1) = .int r_1 ∧
    Q r_1
  )
abbrev rmX5_fold : Room := { frames := 2, cells := 0, slots := 0, locals := 46 }
theorem hX5_fold_X5 : ∀ w ∈ wsX50, w ∈ wsX5_fold := fun w h => List.mem_cons_of_mem _ (List.mem_append_left _ (List.mem_append_right _ h))
theorem hX5_fold_X0 : ∀ w ∈ wsX00, w ∈ wsX5_fold := fun w h => List.mem_cons_of_mem _ (List.mem_append_right _ h)
def wp_X5_fold (a0 : Int32) (a1 : Int32) (A : SA) (B : SB) (Q : Int32 → Prop) : Prop :=
  wp_X5_isRow a0 A B (fun (r_1 : Int32) =>
    ((r_1 = 0 →
      Q (-1 : Int32)
    ) ∧ (¬ r_1 = 0 →
      wp_X5_within a1.toInt64 (0 : Int64) (1 : Int64) A B (fun (r_5 : Int32) =>
        ((¬ r_5 = 0 →
          ((¬ a1 = 0 →
            vp_in a0 200 ∧
            Q (A 25 a0.toNatClampNeg)
          ) ∧ (a1 = 0 →
            vp_in a0 200 ∧
            Q (A 24 a0.toNatClampNeg)
          ))
        ) ∧ (r_5 = 0 →
          Q (-1 : Int32)
        ))
      )
    ))
  )
abbrev rmX5_isOuter : Room := { frames := 1, cells := 0, slots := 0, locals := 25 }
theorem hX5_isOuter_X5 : ∀ w ∈ wsX50, w ∈ wsX5_isOuter := fun w h => List.mem_cons_of_mem _ (List.mem_append_left _ (List.mem_append_right _ h))
theorem hX5_isOuter_X0 : ∀ w ∈ wsX00, w ∈ wsX5_isOuter := fun w h => List.mem_cons_of_mem _ (List.mem_append_right _ h)
def wp_X5_isOuter (a0 : Int32) (A : SA) (B : SB) (Q : Int32 → Prop) : Prop :=
  wp_X5_within a0.toInt64 (0 : Int64) ((A 4 1) - (1 : Int32)).toInt64 A B (fun (r_1 : Int32) =>
    narrow .boolean (.int r_1) = .int r_1 ∧
    Q r_1
  )
abbrev rmX5_use : Room := { frames := 2, cells := 0, slots := 0, locals := 46 }
theorem hX5_use_X5 : ∀ w ∈ wsX50, w ∈ wsX5_use := fun w h => List.mem_cons_of_mem _ (List.mem_append_left _ (List.mem_append_right _ h))
theorem hX5_use_X0 : ∀ w ∈ wsX00, w ∈ wsX5_use := fun w h => List.mem_cons_of_mem _ (List.mem_append_right _ h)
def wp_X5_use (a0 : Int32) (a1 : Int32) (A : SA) (B : SB) (Q : Int32 → SA → Prop) : Prop :=
  wp_X5_isOuter a0 A B (fun (r_1 : Int32) =>
    ((r_1 = 0 →
      Q (-1 : Int32) A
    ) ∧ (¬ r_1 = 0 →
      wp_X5_within a1.toInt64 (-1 : Int64) ((A 4 2) - (1 : Int32)).toInt64 A B (fun (r_5 : Int32) =>
        ((¬ r_5 = 0 →
          vp_in a0 10 ∧
          (((A 26 a0.toNatClampNeg) ≤ 0 →
            ((0 ≤ a1 →
              wp_X0_choose a0 a1 A B (fun (r_12 : Int32) (A_13 : SA) =>
                Q r_12 A_13
              )
            ) ∧ (¬ 0 ≤ a1 →
              wp_X0_test a0 A B (fun (r_15 : Int32) (A_16 : SA) =>
                Q r_15 A_16
              )
            ))
          ) ∧ (¬ (A 26 a0.toNatClampNeg) ≤ 0 →
            Q (-3 : Int32) A
          ))
        ) ∧ (r_5 = 0 →
          Q (-1 : Int32) A
        ))
      )
    ))
  )
abbrev rmX5_used : Room := { frames := 2, cells := 0, slots := 0, locals := 46 }
theorem hX5_used_X5 : ∀ w ∈ wsX50, w ∈ wsX5_used := fun w h => List.mem_cons_of_mem _ (List.mem_append_left _ (List.mem_append_right _ h))
theorem hX5_used_X0 : ∀ w ∈ wsX00, w ∈ wsX5_used := fun w h => List.mem_cons_of_mem _ (List.mem_append_right _ h)
def wp_X5_used (a0 : Int32) (a1 : Int32) (a2 : Int32) (A : SA) (B : SB) (Q : Int32 → Prop) : Prop :=
  wp_X5_isRow a0 A B (fun (r_1 : Int32) =>
    ((r_1 = 0 →
      Q (-1 : Int32)
    ) ∧ (¬ r_1 = 0 →
      wp_X5_isOuter a1 A B (fun (r_5 : Int32) =>
        ((¬ r_5 = 0 →
          ((a2 = 0 →
            wp_X0_trained a0 a1 A B (fun (r_10 : Int32) =>
              Q r_10
            )
          ) ∧ (¬ a2 = 0 →
          ((a2 = 1 →
            wp_X0_validated a0 a1 A B (fun (r_14 : Int32) =>
              Q r_14
            )
          ) ∧ (¬ a2 = 1 →
          ((a2 = 2 →
            wp_X0_testing a0 a1 A B (fun (r_18 : Int32) =>
              Q r_18
            )
          ) ∧ (¬ a2 = 2 →
            Q (-1 : Int32)
          ))))))
        ) ∧ (r_5 = 0 →
          Q (-1 : Int32)
        ))
      )
    ))
  )
abbrev rmX6_hash : Room := { frames := 0, cells := 0, slots := 0, locals := 0 }
def wp_X6_hash (a0 : Int32) (a1 : Int32) (A : SA) (B : SB) (Q : Int32 → Prop) : Prop :=
  ∀ x_1 : Int32, x_1 = (a0 + (a1 * (-1640531527 : Int32))) →
  ∀ x_2 : Int32, x_2 = ((x_1 ^^^ (x_1.toUInt32 >>> ((16 : Int32).toUInt32 &&& Int32.toUInt32 31)).toInt32) * (-2048144789 : Int32)) →
  ∀ x_3 : Int32, x_3 = ((x_2 ^^^ (x_2.toUInt32 >>> ((13 : Int32).toUInt32 &&& Int32.toUInt32 31)).toInt32) * (-1028477387 : Int32)) →
  Q (x_3 ^^^ (x_3.toUInt32 >>> ((16 : Int32).toUInt32 &&& Int32.toUInt32 31)).toInt32)
abbrev rmX6_pick : Room := { frames := 1, cells := 0, slots := 0, locals := 22 }
def wp_X6_pick_2 (E16 : Int32 → Prop) (Q : Int64 → Prop) (v0 : Int32) (v1 : Int64) (A : SA) (B : SB) : Nat → Int32 → Prop
  | 0, _ => False
  | n + 1, v3 =>
    ((v1 ≤ ((1 : Int64) <<< (v3.toInt64 &&& 63)) →
      E16 v3
    ) ∧ (¬ v1 ≤ ((1 : Int64) <<< (v3.toInt64 &&& 63)) →
      ∀ v3_2 : Int32, v3_2 = v3 + 1 →
      wp_X6_pick_2 E16 Q v0 v1 A B n v3_2
    ))
def wp_X6_pick_19  (Q : Int64 → Prop) (v0 : Int32) (v1 : Int64) (v3 : Int32) (A : SA) (B : SB) : Nat → Int32 → Prop
  | 0, _ => False
  | n + 1, v4 =>
    wp_X6_hash v0 (((2 : Int32) * v4) + (1 : Int32)) A B (fun (r_5 : Int32) =>
      wp_X6_hash v0 (((2 : Int32) * v4) + (2 : Int32)) A B (fun (r_8 : Int32) =>
        ∀ x_11 : Int64, x_11 = ((r_5.toInt64 <<< ((32 : Int32).toInt64 &&& 63)) ||| (r_8.toInt64 &&& (4294967295 : Int64))) →
        ((¬ v3 = 0 →
          ∀ x_13 : Int64, x_13 = (x_11.toUInt64 >>> (((64 : Int32) - v3).toInt64.toUInt64 &&& Int64.toUInt64 63)).toInt64 →
          ((v1 ≤ x_13 →
            ∀ v4_15 : Int32, v4_15 = v4 + 1 →
            wp_X6_pick_19 Q v0 v1 v3 A B n v4_15
          ) ∧ (¬ v1 ≤ x_13 →
            Q x_13
          ))
        ) ∧ (v3 = 0 →
          ((v1 ≤ (0 : Int64) →
            ∀ v4_17 : Int32, v4_17 = v4 + 1 →
            wp_X6_pick_19 Q v0 v1 v3 A B n v4_17
          ) ∧ (¬ v1 ≤ (0 : Int64) →
            Q (0 : Int64)
          ))
        ))
      )
    )
def wp_X6_pick (a0 : Int32) (a1 : Int64) (A : SA) (B : SB) (Q : Int64 → Prop) : Prop :=
  ∃ n_3 : Nat, wp_X6_pick_2
    (fun (v3_4 : Int32) =>
      ∃ n_18 : Nat, wp_X6_pick_19
        Q a0 a1 v3_4 A B n_18 (0 : Int32)
    )
    Q a0 a1 A B n_3 (0 : Int32)
abbrev rmX6_in : Room := { frames := 0, cells := 0, slots := 0, locals := 0 }
def wp_X6_in (a0 : Int64) (a1 : Int64) (a2 : Int64) (A : SA) (B : SB) (Q : Int32 → Prop) : Prop :=
  ((a0 < a1 →
    Q (0 : Int32)
  ) ∧ (¬ a0 < a1 →
    ((a2 < a0 →
      Q (0 : Int32)
    ) ∧ (¬ a2 < a0 →
      Q (1 : Int32)
    ))
  ))
abbrev rmX6_waysOf : Room := { frames := 0, cells := 0, slots := 0, locals := 0 }
theorem hX6_waysOf_X6 : ∀ w ∈ wsX60, w ∈ wsX6_waysOf := fun w h => List.mem_cons_of_mem _ (List.mem_append_right _ h)
def wp_X6_waysOf_7 (E62 : Int64 → Prop) (Q : Int64 → Prop) (v1 : Int32) (v2 : Int32) (A : SA) (B : SB) : Nat → Int64 → Int32 → Prop
  | 0, _, _ => False
  | n + 1, v3, v5 =>
    (((A 5 0) ≤ v5 →
      E62 v3
    ) ∧ (¬ (A 5 0) ≤ v5 →
      vp_in v5 8 ∧
      ((¬ (A 30 v5.toNatClampNeg) = v1 →
        ∀ x_5 : Int64, x_5 = (v3 * (1 : Int64)) →
        ∀ v5_6 : Int32, v5_6 = v5 + 1 →
        wp_X6_waysOf_7 E62 Q v1 v2 A B n x_5 v5_6
      ) ∧ ((A 30 v5.toNatClampNeg) = v1 →
        vp_in v5 8 ∧
        ((¬ (((A 31 v5.toNatClampNeg) >>> (v2 &&& 31)) &&& (1 : Int32)) = (1 : Int32) →
          ∀ x_9 : Int64, x_9 = (v3 * (1 : Int64)) →
          ∀ v5_10 : Int32, v5_10 = v5 + 1 →
          wp_X6_waysOf_7 E62 Q v1 v2 A B n x_9 v5_10
        ) ∧ ((((A 31 v5.toNatClampNeg) >>> (v2 &&& 31)) &&& (1 : Int32)) = (1 : Int32) →
          vp_in v5 8 ∧
          ∀ x_12 : Int64, x_12 = (v3 * (B 32 v5.toNatClampNeg)) →
          ∀ v5_13 : Int32, v5_13 = v5 + 1 →
          wp_X6_waysOf_7 E62 Q v1 v2 A B n x_12 v5_13
        ))
      ))
    ))
def wp_X6_waysOf (a0 : Int32) (a1 : Int32) (A : SA) (B : SB) (Q : Int64 → Prop) : Prop :=
  ∀ x_1 : Int32, x_1 = (a0 + (1 : Int32)) →
  ∃ n_14 : Nat, wp_X6_waysOf_7
    (fun (v3_15 : Int64) =>
      Q v3_15
    )
    Q a0 a1 A B n_14 (1 : Int64) x_1
abbrev rmX6_name : Room := { frames := 1, cells := 0, slots := 0, locals := 25 }
theorem hX6_name_X6 : ∀ w ∈ wsX60, w ∈ wsX6_name := fun w h => List.mem_cons_of_mem _ (List.mem_append_right _ h)
def wp_X6_name_134 (E170 : SB → Prop) (Q : Int32 → SA → SB → Prop) (v4 : Int32) (A : SA) : Nat → Int32 → SB → Prop
  | 0, _, _ => False
  | n + 1, v5, B =>
    vp_in v4 8 ∧
    (((A 29 v4.toNatClampNeg) ≤ v5 →
      E170 B
    ) ∧ (¬ (A 29 v4.toNatClampNeg) ≤ v5 →
      vp_in v4 8 ∧
      wp_X6_waysOf v4 v5 A B (fun (r_22 : Int64) =>
        ∀ x_25 : Int64, x_25 = ((B 32 v4.toNatClampNeg) + r_22) →
        vp_in v4 8 ∧
        ∀ v5_27 : Int32, v5_27 = v5 + 1 →
        wp_X6_name_134 E170 Q v4 A n v5_27 (u2L B 32 v4.toNatClampNeg x_25)
      )
    ))
def wp_X6_name_118 (E176 : SB → Prop) (Q : Int32 → SA → SB → Prop) (A : SA) : Nat → Int32 → SB → Prop
  | 0, _, _ => False
  | n + 1, v4, B =>
    ((v4 < 0 →
      E176 B
    ) ∧ (¬ v4 < 0 →
      vp_in v4 8 ∧
      ∃ n_28 : Nat, wp_X6_name_134
        (fun (B_29 : SB) =>
          ∀ v4_30 : Int32, v4_30 = v4 + (-1) →
          wp_X6_name_118 E176 Q A n v4_30 B_29
        )
        Q v4 A n_28 (0 : Int32) (u2L B 32 v4.toNatClampNeg (0 : Int64))
    ))
def wp_X6_name (a0 : Int32) (a1 : Int32) (a2 : Int32) (A : SA) (B : SB) (Q : Int32 → SA → SB → Prop) : Prop :=
  wp_X6_in a0.toInt64 (1 : Int64) (30 : Int64) A B (fun (r_1 : Int32) =>
    ((r_1 = 0 →
      Q (-1 : Int32) A B
    ) ∧ (¬ r_1 = 0 →
      wp_X6_in a1.toInt64 (-1 : Int64) ((A 5 0) - (1 : Int32)).toInt64 A B (fun (r_5 : Int32) =>
        ((r_5 = 0 →
          Q (-1 : Int32) A B
        ) ∧ (¬ r_5 = 0 →
          ((a1 < 0 →
            (((A 5 6) ≤ 0 →
              ((¬ (A 5 0) = (8 : Int32) →
                vp_in (A 5 0) 8 ∧
                vp_in (A 5 0) 8 ∧
                vp_in (A 5 0) 8 ∧
                ∀ x_15 : Int32, x_15 = ((A 5 0) + (1 : Int32)) →
                ∀ x_16 : Int32, x_16 = (x_15 - (1 : Int32)) →
                ∃ n_31 : Nat, wp_X6_name_118
                  (fun (B_32 : SB) =>
                    Q (x_15 - (1 : Int32)) (u2 (u2 (u2 (u2 A 29 (A 5 0).toNatClampNeg a0) 30 (A 5 0).toNatClampNeg a1) 31 (A 5 0).toNatClampNeg a2) 5 0 x_15) B_32
                  )
                  Q (u2 (u2 (u2 (u2 A 29 (A 5 0).toNatClampNeg a0) 30 (A 5 0).toNatClampNeg a1) 31 (A 5 0).toNatClampNeg a2) 5 0 x_15) n_31 x_16 B
              ) ∧ ((A 5 0) = (8 : Int32) →
                Q (-4 : Int32) A B
              ))
            ) ∧ (¬ (A 5 6) ≤ 0 →
              Q (-3 : Int32) A B
            ))
          ) ∧ (¬ a1 < 0 →
            wp_X6_in a2.toInt64 (1 : Int64) (1073741823 : Int64) A B (fun (r_33 : Int32) =>
              ((¬ r_33 = 0 →
                (((A 5 6) ≤ 0 →
                  ((¬ (A 5 0) = (8 : Int32) →
                    vp_in (A 5 0) 8 ∧
                    vp_in (A 5 0) 8 ∧
                    vp_in (A 5 0) 8 ∧
                    ∀ x_42 : Int32, x_42 = ((A 5 0) + (1 : Int32)) →
                    ∀ x_43 : Int32, x_43 = (x_42 - (1 : Int32)) →
                    ∃ n_44 : Nat, wp_X6_name_118
                      (fun (B_45 : SB) =>
                        Q (x_42 - (1 : Int32)) (u2 (u2 (u2 (u2 A 29 (A 5 0).toNatClampNeg a0) 30 (A 5 0).toNatClampNeg a1) 31 (A 5 0).toNatClampNeg a2) 5 0 x_42) B_45
                      )
                      Q (u2 (u2 (u2 (u2 A 29 (A 5 0).toNatClampNeg a0) 30 (A 5 0).toNatClampNeg a1) 31 (A 5 0).toNatClampNeg a2) 5 0 x_42) n_44 x_43 B
                  ) ∧ ((A 5 0) = (8 : Int32) →
                    Q (-4 : Int32) A B
                  ))
                ) ∧ (¬ (A 5 6) ≤ 0 →
                  Q (-3 : Int32) A B
                ))
              ) ∧ (r_33 = 0 →
                Q (-1 : Int32) A B
              ))
            )
          ))
        ))
      )
    ))
  )
abbrev rmX6_points : Room := { frames := 0, cells := 0, slots := 0, locals := 0 }
theorem hX6_points_X6 : ∀ w ∈ wsX60, w ∈ wsX6_points := fun w h => List.mem_cons_of_mem _ (List.mem_append_right _ h)
def wp_X6_points_4 (E40 : Int64 → Prop) (Q : Int64 → Prop) (A : SA) (B : SB) : Nat → Int64 → Int32 → Prop
  | 0, _, _ => False
  | n + 1, v1, v3 =>
    (((A 5 0) ≤ v3 →
      E40 v1
    ) ∧ (¬ (A 5 0) ≤ v3 →
      vp_in v3 8 ∧
      ((0 ≤ (A 30 v3.toNatClampNeg) →
        ∀ x_4 : Int64, x_4 = (v1 * (1 : Int64)) →
        ∀ v3_5 : Int32, v3_5 = v3 + 1 →
        wp_X6_points_4 E40 Q A B n x_4 v3_5
      ) ∧ (¬ 0 ≤ (A 30 v3.toNatClampNeg) →
        vp_in v3 8 ∧
        ∀ x_7 : Int64, x_7 = (v1 * (B 32 v3.toNatClampNeg)) →
        ∀ v3_8 : Int32, v3_8 = v3 + 1 →
        wp_X6_points_4 E40 Q A B n x_7 v3_8
      ))
    ))
def wp_X6_points  (A : SA) (B : SB) (Q : Int64 → Prop) : Prop :=
  ∃ n_9 : Nat, wp_X6_points_4
    (fun (v1_10 : Int64) =>
      Q v1_10
    )
    Q A B n_9 (1 : Int64) (0 : Int32)
abbrev rmX6_isThere : Room := { frames := 0, cells := 0, slots := 0, locals := 0 }
theorem hX6_isThere_X6 : ∀ w ∈ wsX60, w ∈ wsX6_isThere := fun w h => List.mem_cons_of_mem _ (List.mem_append_right _ h)
def wp_X6_isThere (a0 : Int32) (a1 : Int32) (A : SA) (B : SB) (Q : Int32 → Prop) : Prop :=
  vp_in a1 8 ∧
  (((A 30 a1.toNatClampNeg) < 0 →
    Q (1 : Int32)
  ) ∧ (¬ (A 30 a1.toNatClampNeg) < 0 →
    vp_in a1 8 ∧
    ∀ x_4 : Int32, x_4 = (a0 + (A 30 a1.toNatClampNeg)) →
    vp_in x_4 16 ∧
    (((A 33 x_4.toNatClampNeg) < 0 →
      Q (0 : Int32)
    ) ∧ (¬ (A 33 x_4.toNatClampNeg) < 0 →
      vp_in a1 8 ∧
      vp_in a1 8 ∧
      ∀ x_9 : Int32, x_9 = (a0 + (A 30 a1.toNatClampNeg)) →
      vp_in x_9 16 ∧
      ((¬ (((A 31 a1.toNatClampNeg) >>> ((A 33 x_9.toNatClampNeg) &&& 31)) &&& (1 : Int32)) = (1 : Int32) →
        Q (0 : Int32)
      ) ∧ ((((A 31 a1.toNatClampNeg) >>> ((A 33 x_9.toNatClampNeg) &&& 31)) &&& (1 : Int32)) = (1 : Int32) →
        Q (1 : Int32)
      ))
    ))
  ))
abbrev rmX6_behind : Room := { frames := 1, cells := 0, slots := 0, locals := 22 }
theorem hX6_behind_X6 : ∀ w ∈ wsX60, w ∈ wsX6_behind := fun w h => List.mem_cons_of_mem _ (List.mem_append_right _ h)
def wp_X6_behind_7 (E57 : Int64 → Prop) (Q : Int64 → Prop) (v1 : Int32) (v2 : Int32) (A : SA) (B : SB) : Nat → Int64 → Int32 → Prop
  | 0, _, _ => False
  | n + 1, v3, v5 =>
    (((A 5 0) ≤ v5 →
      E57 v3
    ) ∧ (¬ (A 5 0) ≤ v5 →
      vp_in v5 8 ∧
      ((v2 < (A 30 v5.toNatClampNeg) →
        ∀ x_5 : Int64, x_5 = (v3 * (1 : Int64)) →
        ∀ v5_6 : Int32, v5_6 = v5 + 1 →
        wp_X6_behind_7 E57 Q v1 v2 A B n x_5 v5_6
      ) ∧ (¬ v2 < (A 30 v5.toNatClampNeg) →
        wp_X6_isThere v1 v5 A B (fun (r_7 : Int32) =>
          ((r_7 = 0 →
            ∀ x_11 : Int64, x_11 = (v3 * (1 : Int64)) →
            ∀ v5_12 : Int32, v5_12 = v5 + 1 →
            wp_X6_behind_7 E57 Q v1 v2 A B n x_11 v5_12
          ) ∧ (¬ r_7 = 0 →
            vp_in v5 8 ∧
            ∀ x_14 : Int64, x_14 = (v3 * (B 32 v5.toNatClampNeg)) →
            ∀ v5_15 : Int32, v5_15 = v5 + 1 →
            wp_X6_behind_7 E57 Q v1 v2 A B n x_14 v5_15
          ))
        )
      ))
    ))
def wp_X6_behind (a0 : Int32) (a1 : Int32) (A : SA) (B : SB) (Q : Int64 → Prop) : Prop :=
  ∀ x_1 : Int32, x_1 = (a1 + (1 : Int32)) →
  ∃ n_16 : Nat, wp_X6_behind_7
    (fun (v3_17 : Int64) =>
      Q v3_17
    )
    Q a0 a1 A B n_16 (1 : Int64) x_1
abbrev rmX6_find : Room := { frames := 2, cells := 0, slots := 0, locals := 47 }
theorem hX6_find_X6 : ∀ w ∈ wsX60, w ∈ wsX6_find := fun w h => List.mem_cons_of_mem _ (List.mem_append_right _ h)
def wp_X6_find_58 (E98 : Int64 → SA → Prop) (Q : SA → Prop) (v1 : Int32) (v6 : Int32) (B : SB) : Nat → Int64 → Int64 → SA → Prop
  | 0, _, _, _ => False
  | n + 1, v4, v7, A =>
    ((v4 < v7 →
      E98 v4 A
    ) ∧ (¬ v4 < v7 →
      ∀ x_12 : Int64, x_12 = (v4 - v7) →
      ∀ x_13 : Int32, x_13 = (v1 + v6) →
      vp_in x_13 16 ∧
      ∀ x_15 : Int32, x_15 = ((A 33 x_13.toNatClampNeg) + (1 : Int32)) →
      vp_in (v1 + v6) 16 ∧
      wp_X6_behind v1 v6 (u2 A 33 (v1 + v6).toNatClampNeg x_15) B (fun (r_17 : Int64) =>
        wp_X6_find_58 E98 Q v1 v6 B n x_12 r_17 (u2 A 33 (v1 + v6).toNatClampNeg x_15)
      )
    ))
def wp_X6_find_6 (E104 : SA → Prop) (Q : SA → Prop) (v1 : Int32) (B : SB) : Nat → Int64 → Int32 → SA → Prop
  | 0, _, _, _ => False
  | n + 1, v4, v6, A =>
    (((A 5 0) ≤ v6 →
      E104 A
    ) ∧ (¬ (A 5 0) ≤ v6 →
      vp_in (v1 + v6) 16 ∧
      wp_X6_isThere v1 v6 (u2 A 33 (v1 + v6).toNatClampNeg (-2 : Int32)) B (fun (r_3 : Int32) =>
        ((¬ r_3 = 0 →
          vp_in (v1 + v6) 16 ∧
          wp_X6_behind v1 v6 (u2 (u2 A 33 (v1 + v6).toNatClampNeg (-2 : Int32)) 33 (v1 + v6).toNatClampNeg (0 : Int32)) B (fun (r_8 : Int64) =>
            ∃ n_20 : Nat, wp_X6_find_58
              (fun (v4_21 : Int64) (A_22 : SA) =>
                ∀ v6_23 : Int32, v6_23 = v6 + 1 →
                wp_X6_find_6 E104 Q v1 B n v4_21 v6_23 A_22
              )
              Q v1 v6 B n_20 v4 r_8 (u2 (u2 A 33 (v1 + v6).toNatClampNeg (-2 : Int32)) 33 (v1 + v6).toNatClampNeg (0 : Int32))
          )
        ) ∧ (r_3 = 0 →
          ∀ v6_24 : Int32, v6_24 = v6 + 1 →
          wp_X6_find_6 E104 Q v1 B n v4 v6_24 (u2 A 33 (v1 + v6).toNatClampNeg (-2 : Int32))
        ))
      )
    ))
def wp_X6_find (a0 : Int32) (a1 : Int64) (A : SA) (B : SB) (Q : SA → Prop) : Prop :=
  ∃ n_25 : Nat, wp_X6_find_6
    (fun (A_26 : SA) =>
      Q A_26
    )
    Q a0 B n_25 a1 (0 : Int32) A
abbrev rmX6_noPoint : Room := { frames := 1, cells := 0, slots := 0, locals := 25 }
theorem hX6_noPoint_X6 : ∀ w ∈ wsX60, w ∈ wsX6_noPoint := fun w h => List.mem_cons_of_mem _ (List.mem_append_right _ h)
def wp_X6_noPoint (a0 : Int64) (A : SA) (B : SB) (Q : Int32 → Prop) : Prop :=
  wp_X6_points  A B (fun (r_1 : Int64) =>
    wp_X6_in a0 (0 : Int64) (r_1 - (1 : Int64)) A B (fun (r_4 : Int32) =>
      ((¬ r_4 = 0 →
        Q (0 : Int32)
      ) ∧ (r_4 = 0 →
        Q (1 : Int32)
      ))
    )
  )
abbrev rmX6_value : Room := { frames := 3, cells := 0, slots := 0, locals := 75 }
theorem hX6_value_X6 : ∀ w ∈ wsX60, w ∈ wsX6_value := fun w h => List.mem_cons_of_mem _ (List.mem_append_right _ h)
def wp_X6_value (a0 : Int64) (a1 : Int32) (A : SA) (B : SB) (Q : Int32 → SA → Prop) : Prop :=
  wp_X6_noPoint a0 A B (fun (r_1 : Int32) =>
    ((¬ r_1 = 0 →
      Q (-1 : Int32) A
    ) ∧ (r_1 = 0 →
      wp_X6_in a1.toInt64 (0 : Int64) ((A 5 0) - (1 : Int32)).toInt64 A B (fun (r_5 : Int32) =>
        ((¬ r_5 = 0 →
          wp_X6_find (0 : Int32) a0 A B (fun (A_10 : SA) =>
            vp_in a1 16 ∧
            Q (A_10 33 a1.toNatClampNeg) A_10
          )
        ) ∧ (r_5 = 0 →
          Q (-1 : Int32) A
        ))
      )
    ))
  )
abbrev rmX6_numberOf : Room := { frames := 2, cells := 0, slots := 0, locals := 47 }
theorem hX6_numberOf_X6 : ∀ w ∈ wsX60, w ∈ wsX6_numberOf := fun w h => List.mem_cons_of_mem _ (List.mem_append_right _ h)
def wp_X6_numberOf_23 (E53 : Int64 → SA → Prop) (Q : Int64 → SA → Prop) (v3 : Int32) (v4 : Int32) (B : SB) : Nat → Int64 → Int32 → SA → Prop
  | 0, _, _, _ => False
  | n + 1, v1, v5, A =>
    ((v4 ≤ v5 →
      E53 v1 A
    ) ∧ (¬ v4 ≤ v5 →
      vp_in v3 16 ∧
      wp_X6_behind (0 : Int32) v3 (u2 A 33 v3.toNatClampNeg v5) B (fun (r_6 : Int64) =>
        ∀ x_9 : Int64, x_9 = (v1 + r_6) →
        ∀ v5_10 : Int32, v5_10 = v5 + 1 →
        wp_X6_numberOf_23 E53 Q v3 v4 B n x_9 v5_10 (u2 A 33 v3.toNatClampNeg v5)
      )
    ))
def wp_X6_numberOf_4 (E67 : Int64 → SA → Prop) (Q : Int64 → SA → Prop) (B : SB) : Nat → Int64 → Int32 → SA → Prop
  | 0, _, _, _ => False
  | n + 1, v1, v3, A =>
    (((A 5 0) ≤ v3 →
      E67 v1 A
    ) ∧ (¬ (A 5 0) ≤ v3 →
      vp_in v3 16 ∧
      ∀ x_3 : Int32, x_3 = (A 33 v3.toNatClampNeg) →
      ∃ n_11 : Nat, wp_X6_numberOf_23
        (fun (v1_12 : Int64) (A_13 : SA) =>
          vp_in v3 16 ∧
          ∀ v3_15 : Int32, v3_15 = v3 + 1 →
          wp_X6_numberOf_4 E67 Q B n v1_12 v3_15 (u2 A_13 33 v3.toNatClampNeg x_3)
        )
        Q v3 x_3 B n_11 v1 (0 : Int32) A
    ))
def wp_X6_numberOf  (A : SA) (B : SB) (Q : Int64 → SA → Prop) : Prop :=
  ∃ n_16 : Nat, wp_X6_numberOf_4
    (fun (v1_17 : Int64) (A_18 : SA) =>
      Q v1_17 A_18
    )
    Q B n_16 (0 : Int64) (0 : Int32) A
abbrev rmX6_number : Room := { frames := 3, cells := 0, slots := 0, locals := 72 }
theorem hX6_number_X6 : ∀ w ∈ wsX60, w ∈ wsX6_number := fun w h => List.mem_cons_of_mem _ (List.mem_append_right _ h)
def wp_X6_number_2  (Q : Int64 → SA → Prop) (v1 : Int64) (B : SB) : Nat → Int32 → SA → Prop
  | 0, _, _ => False
  | n + 1, v3, A =>
    (((A 5 0) ≤ v3 →
      wp_X6_numberOf  A B (fun (r_2 : Int64) (A_3 : SA) =>
        Q r_2 A_3
      )
    ) ∧ (¬ (A 5 0) ≤ v3 →
      vp_in v3 16 ∧
      wp_X6_isThere (0 : Int32) v3 (u2 A 33 v3.toNatClampNeg (-2 : Int32)) B (fun (r_6 : Int32) =>
        ((r_6 = 0 →
          ∀ v3_10 : Int32, v3_10 = v3 + 1 →
          wp_X6_number_2 Q v1 B n v3_10 (u2 A 33 v3.toNatClampNeg (-2 : Int32))
        ) ∧ (¬ r_6 = 0 →
          ∀ x_11 : Int32, x_11 = ((v1 >>> (((5 : Int32) * v3).toInt64 &&& 63)) &&& (31 : Int64)).toInt32 →
          vp_in v3 16 ∧
          vp_in v3 16 ∧
          vp_in v3 8 ∧
          ((((u2 (u2 A 33 v3.toNatClampNeg (-2 : Int32)) 33 v3.toNatClampNeg x_11) 33 v3.toNatClampNeg) < (A 29 v3.toNatClampNeg) →
            ∀ v3_16 : Int32, v3_16 = v3 + 1 →
            wp_X6_number_2 Q v1 B n v3_16 (u2 (u2 A 33 v3.toNatClampNeg (-2 : Int32)) 33 v3.toNatClampNeg x_11)
          ) ∧ (¬ ((u2 (u2 A 33 v3.toNatClampNeg (-2 : Int32)) 33 v3.toNatClampNeg x_11) 33 v3.toNatClampNeg) < (A 29 v3.toNatClampNeg) →
            Q (-2 : Int64) (u2 (u2 A 33 v3.toNatClampNeg (-2 : Int32)) 33 v3.toNatClampNeg x_11)
          ))
        ))
      )
    ))
def wp_X6_number (a0 : Int64) (A : SA) (B : SB) (Q : Int64 → SA → Prop) : Prop :=
  ∃ n_17 : Nat, wp_X6_number_2
    Q a0 B n_17 (0 : Int32) A
abbrev rmX6_distanceOf : Room := { frames := 3, cells := 0, slots := 0, locals := 75 }
theorem hX6_distanceOf_X6 : ∀ w ∈ wsX60, w ∈ wsX6_distanceOf := fun w h => List.mem_cons_of_mem _ (List.mem_append_right _ h)
def wp_X6_distanceOf_19 (E124 : Int32 → Prop) (Q : Int32 → SA → Prop) (A : SA) (B : SB) : Nat → Int32 → Int32 → Prop
  | 0, _, _ => False
  | n + 1, v5, v6 =>
    (((A 5 0) ≤ v6 →
      E124 v5
    ) ∧ (¬ (A 5 0) ≤ v6 →
      vp_in v6 16 ∧
      ∀ x_9 : Int32, x_9 = (A 33 v6.toNatClampNeg) →
      ∀ x_10 : Int32, x_10 = ((8 : Int32) + v6) →
      vp_in x_10 16 ∧
      ∀ x_12 : Int32, x_12 = (A 33 x_10.toNatClampNeg) →
      ((x_9 ≤ x_12 →
        ∀ x_14 : Int32, x_14 = (x_12 - x_9) →
        ((0 ≤ x_9 →
          ((x_9 < 0 →
            ∀ x_17 : Int32, x_17 = (v5 + (30 : Int32)) →
            ∀ v6_18 : Int32, v6_18 = v6 + 1 →
            wp_X6_distanceOf_19 E124 Q A B n x_17 v6_18
          ) ∧ (¬ x_9 < 0 →
            ((0 ≤ x_12 →
              vp_in v6 8 ∧
              (¬ (A 29 v6.toNatClampNeg) = 0) ∧
              ∀ x_22 : Int32, x_22 = (v5 + ((x_14 * (30 : Int32)) / (A 29 v6.toNatClampNeg))) →
              ∀ v6_23 : Int32, v6_23 = v6 + 1 →
              wp_X6_distanceOf_19 E124 Q A B n x_22 v6_23
            ) ∧ (¬ 0 ≤ x_12 →
              ∀ x_24 : Int32, x_24 = (v5 + (30 : Int32)) →
              ∀ v6_25 : Int32, v6_25 = v6 + 1 →
              wp_X6_distanceOf_19 E124 Q A B n x_24 v6_25
            ))
          ))
        ) ∧ (¬ 0 ≤ x_9 →
          ((0 ≤ x_12 →
            ((x_9 < 0 →
              ∀ x_28 : Int32, x_28 = (v5 + (30 : Int32)) →
              ∀ v6_29 : Int32, v6_29 = v6 + 1 →
              wp_X6_distanceOf_19 E124 Q A B n x_28 v6_29
            ) ∧ (¬ x_9 < 0 →
              ((0 ≤ x_12 →
                vp_in v6 8 ∧
                (¬ (A 29 v6.toNatClampNeg) = 0) ∧
                ∀ x_33 : Int32, x_33 = (v5 + ((x_14 * (30 : Int32)) / (A 29 v6.toNatClampNeg))) →
                ∀ v6_34 : Int32, v6_34 = v6 + 1 →
                wp_X6_distanceOf_19 E124 Q A B n x_33 v6_34
              ) ∧ (¬ 0 ≤ x_12 →
                ∀ x_35 : Int32, x_35 = (v5 + (30 : Int32)) →
                ∀ v6_36 : Int32, v6_36 = v6 + 1 →
                wp_X6_distanceOf_19 E124 Q A B n x_35 v6_36
              ))
            ))
          ) ∧ (¬ 0 ≤ x_12 →
            ∀ x_37 : Int32, x_37 = (v5 + (0 : Int32)) →
            ∀ v6_38 : Int32, v6_38 = v6 + 1 →
            wp_X6_distanceOf_19 E124 Q A B n x_37 v6_38
          ))
        ))
      ) ∧ (¬ x_9 ≤ x_12 →
        ∀ x_39 : Int32, x_39 = (x_9 - x_12) →
        ((0 ≤ x_9 →
          ((x_9 < 0 →
            ∀ x_42 : Int32, x_42 = (v5 + (30 : Int32)) →
            ∀ v6_43 : Int32, v6_43 = v6 + 1 →
            wp_X6_distanceOf_19 E124 Q A B n x_42 v6_43
          ) ∧ (¬ x_9 < 0 →
            ((0 ≤ x_12 →
              vp_in v6 8 ∧
              (¬ (A 29 v6.toNatClampNeg) = 0) ∧
              ∀ x_47 : Int32, x_47 = (v5 + ((x_39 * (30 : Int32)) / (A 29 v6.toNatClampNeg))) →
              ∀ v6_48 : Int32, v6_48 = v6 + 1 →
              wp_X6_distanceOf_19 E124 Q A B n x_47 v6_48
            ) ∧ (¬ 0 ≤ x_12 →
              ∀ x_49 : Int32, x_49 = (v5 + (30 : Int32)) →
              ∀ v6_50 : Int32, v6_50 = v6 + 1 →
              wp_X6_distanceOf_19 E124 Q A B n x_49 v6_50
            ))
          ))
        ) ∧ (¬ 0 ≤ x_9 →
          ((0 ≤ x_12 →
            ((x_9 < 0 →
              ∀ x_53 : Int32, x_53 = (v5 + (30 : Int32)) →
              ∀ v6_54 : Int32, v6_54 = v6 + 1 →
              wp_X6_distanceOf_19 E124 Q A B n x_53 v6_54
            ) ∧ (¬ x_9 < 0 →
              ((0 ≤ x_12 →
                vp_in v6 8 ∧
                (¬ (A 29 v6.toNatClampNeg) = 0) ∧
                ∀ x_58 : Int32, x_58 = (v5 + ((x_39 * (30 : Int32)) / (A 29 v6.toNatClampNeg))) →
                ∀ v6_59 : Int32, v6_59 = v6 + 1 →
                wp_X6_distanceOf_19 E124 Q A B n x_58 v6_59
              ) ∧ (¬ 0 ≤ x_12 →
                ∀ x_60 : Int32, x_60 = (v5 + (30 : Int32)) →
                ∀ v6_61 : Int32, v6_61 = v6 + 1 →
                wp_X6_distanceOf_19 E124 Q A B n x_60 v6_61
              ))
            ))
          ) ∧ (¬ 0 ≤ x_12 →
            ∀ x_62 : Int32, x_62 = (v5 + (0 : Int32)) →
            ∀ v6_63 : Int32, v6_63 = v6 + 1 →
            wp_X6_distanceOf_19 E124 Q A B n x_62 v6_63
          ))
        ))
      ))
    ))
def wp_X6_distanceOf (a0 : Int64) (a1 : Int64) (A : SA) (B : SB) (Q : Int32 → SA → Prop) : Prop :=
  wp_X6_find (0 : Int32) a0 A B (fun (A_2 : SA) =>
    wp_X6_find (8 : Int32) a1 A_2 B (fun (A_5 : SA) =>
      ∃ n_64 : Nat, wp_X6_distanceOf_19
        (fun (v5_65 : Int32) =>
          Q v5_65 A_5
        )
        Q A_5 B n_64 (0 : Int32) (0 : Int32)
    )
  )
abbrev rmX6_distance : Room := { frames := 4, cells := 0, slots := 0, locals := 104 }
theorem hX6_distance_X6 : ∀ w ∈ wsX60, w ∈ wsX6_distance := fun w h => List.mem_cons_of_mem _ (List.mem_append_right _ h)
def wp_X6_distance (a0 : Int64) (a1 : Int64) (A : SA) (B : SB) (Q : Int32 → SA → Prop) : Prop :=
  wp_X6_noPoint a0 A B (fun (r_1 : Int32) =>
    ((¬ r_1 = 0 →
      Q (-1 : Int32) A
    ) ∧ (r_1 = 0 →
      wp_X6_noPoint a1 A B (fun (r_5 : Int32) =>
        ((r_5 = 0 →
          wp_X6_distanceOf a0 a1 A B (fun (r_9 : Int32) (A_10 : SA) =>
            Q r_9 A_10
          )
        ) ∧ (¬ r_5 = 0 →
          Q (-1 : Int32) A
        ))
      )
    ))
  )
abbrev rmX6_add : Room := { frames := 0, cells := 0, slots := 0, locals := 0 }
theorem hX6_add_X6 : ∀ w ∈ wsX60, w ∈ wsX6_add := fun w h => List.mem_cons_of_mem _ (List.mem_append_right _ h)
def wp_X6_add (a0 : Int64) (A : SA) (B : SB) (Q : Int32 → SA → SB → Prop) : Prop :=
  vp_in (A 5 6) 60 ∧
  vp_in (A 5 6) 60 ∧
  vp_in (A 5 6) 60 ∧
  vp_in (A 5 6) 60 ∧
  ∀ x_5 : Int32, x_5 = ((A 5 6) + (1 : Int32)) →
  Q (A 5 6) (u2 (u2 (u2 (u2 A 35 (A 5 6).toNatClampNeg (0 : Int32)) 36 (A 5 6).toNatClampNeg (0 : Int32)) 37 (A 5 6).toNatClampNeg (0 : Int32)) 5 6 x_5) (u2L B 34 (A 5 6).toNatClampNeg a0)
abbrev rmX6_trial : Room := { frames := 3, cells := 0, slots := 0, locals := 72 }
theorem hX6_trial_X6 : ∀ w ∈ wsX60, w ∈ wsX6_trial := fun w h => List.mem_cons_of_mem _ (List.mem_append_right _ h)
def wp_X6_trial_68 (E121 : SA → Prop) (Q : Int32 → SA → SB → Prop) (v2 : Int32) (B : SB) : Nat → Int32 → SA → Prop
  | 0, _, _ => False
  | n + 1, v3, A =>
    (((A 5 0) ≤ v3 →
      E121 A
    ) ∧ (¬ (A 5 0) ≤ v3 →
      vp_in v3 16 ∧
      wp_X6_isThere (0 : Int32) v3 (u2 A 33 v3.toNatClampNeg (-2 : Int32)) B (fun (r_10 : Int32) =>
        ((r_10 = 0 →
          ∀ v3_14 : Int32, v3_14 = v3 + 1 →
          wp_X6_trial_68 E121 Q v2 B n v3_14 (u2 A 33 v3.toNatClampNeg (-2 : Int32))
        ) ∧ (¬ r_10 = 0 →
          wp_X6_hash v2 v3 (u2 A 33 v3.toNatClampNeg (-2 : Int32)) B (fun (r_15 : Int32) =>
            vp_in v3 8 ∧
            wp_X6_pick r_15 (A 29 v3.toNatClampNeg).toInt64 (u2 A 33 v3.toNatClampNeg (-2 : Int32)) B (fun (r_19 : Int64) =>
              ∀ x_22 : Int32, x_22 = r_19.toInt32 →
              vp_in v3 16 ∧
              ∀ v3_24 : Int32, v3_24 = v3 + 1 →
              wp_X6_trial_68 E121 Q v2 B n v3_24 (u2 (u2 A 33 v3.toNatClampNeg (-2 : Int32)) 33 v3.toNatClampNeg x_22)
            )
          )
        ))
      )
    ))
def wp_X6_trial (a0 : Int32) (a1 : Int32) (A : SA) (B : SB) (Q : Int32 → SA → SB → Prop) : Prop :=
  wp_X6_in a0.toInt64 (0 : Int64) (2 : Int64) A B (fun (r_1 : Int32) =>
    ((r_1 = 0 →
      Q (-1 : Int32) A B
    ) ∧ (¬ r_1 = 0 →
      ((¬ a0 = 0 →
        ((¬ (A 5 6) = (60 : Int32) →
          (((2 : Int32) ≤ a0 →
            ∃ n_25 : Nat, wp_X6_trial_68
              (fun (A_26 : SA) =>
                wp_X6_numberOf  A_26 B (fun (r_27 : Int64) (A_28 : SA) =>
                  wp_X6_add r_27 A_28 B (fun (r_30 : Int32) (A_31 : SA) (B_32 : SB) =>
                    Q r_30 A_31 B_32
                  )
                )
              )
              Q a1 B n_25 (0 : Int32) A
          ) ∧ (¬ (2 : Int32) ≤ a0 →
            ((¬ a0 = 0 →
              wp_X6_points  A B (fun (r_34 : Int64) =>
                wp_X6_pick a1 r_34 A B (fun (r_37 : Int64) =>
                  wp_X6_add r_37 A B (fun (r_40 : Int32) (A_41 : SA) (B_42 : SB) =>
                    Q r_40 A_41 B_42
                  )
                )
              )
            ) ∧ (a0 = 0 →
              wp_X6_points  A B (fun (r_43 : Int64) =>
                (¬ r_43 = 0) ∧
                wp_X6_add (a1.toInt64 - a1.toInt64 / r_43 * r_43) A B (fun (r_47 : Int32) (A_48 : SA) (B_49 : SB) =>
                  Q r_47 A_48 B_49
                )
              )
            ))
          ))
        ) ∧ ((A 5 6) = (60 : Int32) →
          Q (-4 : Int32) A B
        ))
      ) ∧ (a0 = 0 →
        ((0 ≤ a1 →
          ((¬ (A 5 6) = (60 : Int32) →
            (((2 : Int32) ≤ a0 →
              ∃ n_53 : Nat, wp_X6_trial_68
                (fun (A_54 : SA) =>
                  wp_X6_numberOf  A_54 B (fun (r_55 : Int64) (A_56 : SA) =>
                    wp_X6_add r_55 A_56 B (fun (r_58 : Int32) (A_59 : SA) (B_60 : SB) =>
                      Q r_58 A_59 B_60
                    )
                  )
                )
                Q a1 B n_53 (0 : Int32) A
            ) ∧ (¬ (2 : Int32) ≤ a0 →
              ((¬ a0 = 0 →
                wp_X6_points  A B (fun (r_62 : Int64) =>
                  wp_X6_pick a1 r_62 A B (fun (r_65 : Int64) =>
                    wp_X6_add r_65 A B (fun (r_68 : Int32) (A_69 : SA) (B_70 : SB) =>
                      Q r_68 A_69 B_70
                    )
                  )
                )
              ) ∧ (a0 = 0 →
                wp_X6_points  A B (fun (r_71 : Int64) =>
                  (¬ r_71 = 0) ∧
                  wp_X6_add (a1.toInt64 - a1.toInt64 / r_71 * r_71) A B (fun (r_75 : Int32) (A_76 : SA) (B_77 : SB) =>
                    Q r_75 A_76 B_77
                  )
                )
              ))
            ))
          ) ∧ ((A 5 6) = (60 : Int32) →
            Q (-4 : Int32) A B
          ))
        ) ∧ (¬ 0 ≤ a1 →
          Q (-1 : Int32) A B
        ))
      ))
    ))
  )
abbrev rmX6_near : Room := { frames := 4, cells := 0, slots := 0, locals := 104 }
theorem hX6_near_X6 : ∀ w ∈ wsX60, w ∈ wsX6_near := fun w h => List.mem_cons_of_mem _ (List.mem_append_right _ h)
def wp_X6_near_3 (E60 : SA → Prop) (Q : Int64 → SA → Prop) (v1 : Int64) (v3 : Int32) (B : SB) : Nat → Int32 → SA → Prop
  | 0, _, _ => False
  | n + 1, v4, A =>
    (((A 5 6) ≤ v4 →
      E60 A
    ) ∧ (¬ (A 5 6) ≤ v4 →
      vp_in v4 60 ∧
      vp_in v4 60 ∧
      ((¬ (A 35 v4.toNatClampNeg) = (1 : Int32) →
        vp_in v4 60 ∧
        ∀ v4_6 : Int32, v4_6 = v4 + 1 →
        wp_X6_near_3 E60 Q v1 v3 B n v4_6 (u2 (u2 A 39 v4.toNatClampNeg (vp_nar .boolean (0 : Int32))) 40 v4.toNatClampNeg (0 : Int32))
      ) ∧ ((A 35 v4.toNatClampNeg) = (1 : Int32) →
        vp_in v4 60 ∧
        wp_X6_distanceOf v1 (B 34 v4.toNatClampNeg) (u2 A 39 v4.toNatClampNeg (vp_nar .boolean (0 : Int32))) B (fun (r_8 : Int32) (A_9 : SA) =>
          vp_in v4 60 ∧
          ∀ v4_12 : Int32, v4_12 = v4 + 1 →
          wp_X6_near_3 E60 Q v1 v3 B n v4_12 (u2 A_9 40 v4.toNatClampNeg r_8)
        )
      ))
    ))
def wp_X6_near_84 (E151 : Int32 → Prop) (Q : Int64 → SA → Prop) (v3 : Int32) (v4 : Int64) (v6 : Int32) (A : SA) (B : SB) : Nat → Int32 → Int32 → Prop
  | 0, _, _ => False
  | n + 1, v7, v8 =>
    (((A 5 6) ≤ v8 →
      E151 v7
    ) ∧ (¬ (A 5 6) ≤ v8 →
      vp_in v8 60 ∧
      ((¬ (A 35 v8.toNatClampNeg) = (1 : Int32) →
        ∀ v8_19 : Int32, v8_19 = v8 + 1 →
        wp_X6_near_84 E151 Q v3 v4 v6 A B n v7 v8_19
      ) ∧ ((A 35 v8.toNatClampNeg) = (1 : Int32) →
        vp_in v8 60 ∧
        ((¬ (A 39 v8.toNatClampNeg) = 0 →
          ∀ v8_22 : Int32, v8_22 = v8 + 1 →
          wp_X6_near_84 E151 Q v3 v4 v6 A B n v7 v8_22
        ) ∧ ((A 39 v8.toNatClampNeg) = 0 →
          ((v7 < 0 →
            ∀ v8_24 : Int32, v8_24 = v8 + 1 →
            wp_X6_near_84 E151 Q v3 v4 v6 A B n v8 v8_24
          ) ∧ (¬ v7 < 0 →
            vp_in v8 60 ∧
            vp_in v7 60 ∧
            (((A 40 v7.toNatClampNeg) ≤ (A 40 v8.toNatClampNeg) →
              ∀ v8_28 : Int32, v8_28 = v8 + 1 →
              wp_X6_near_84 E151 Q v3 v4 v6 A B n v7 v8_28
            ) ∧ (¬ (A 40 v7.toNatClampNeg) ≤ (A 40 v8.toNatClampNeg) →
              ∀ v8_29 : Int32, v8_29 = v8 + 1 →
              wp_X6_near_84 E151 Q v3 v4 v6 A B n v8 v8_29
            ))
          ))
        ))
      ))
    ))
def wp_X6_near_71 (E193 : Int64 → SA → Prop) (Q : Int64 → SA → Prop) (v3 : Int32) (B : SB) : Nat → Int64 → Int32 → SA → Prop
  | 0, _, _, _ => False
  | n + 1, v4, v6, A =>
    ((v3 ≤ v6 →
      E193 v4 A
    ) ∧ (¬ v3 ≤ v6 →
      ∃ n_30 : Nat, wp_X6_near_84
        (fun (v7_31 : Int32) =>
          ((v7_31 < 0 →
            ∀ v6_33 : Int32, v6_33 = v6 + 1 →
            wp_X6_near_71 E193 Q v3 B n v4 v6_33 A
          ) ∧ (¬ v7_31 < 0 →
            vp_in v7_31 60 ∧
            ∀ x_35 : Int32, x_35 = ((A 5 13) + (1 : Int32)) →
            vp_in v7_31 60 ∧
            ∀ x_37 : Int64, x_37 = (v4 + (A 36 v7_31.toNatClampNeg).toInt64) →
            ∀ v6_38 : Int32, v6_38 = v6 + 1 →
            wp_X6_near_71 E193 Q v3 B n x_37 v6_38 (u2 (u2 A 39 v7_31.toNatClampNeg (vp_nar .boolean (1 : Int32))) 5 13 x_35)
          ))
        )
        Q v3 v4 v6 A B n_30 (-2 : Int32) (0 : Int32)
    ))
def wp_X6_near (a0 : Int64) (a1 : Int32) (A : SA) (B : SB) (Q : Int64 → SA → Prop) : Prop :=
  ∃ n_13 : Nat, wp_X6_near_3
    (fun (A_14 : SA) =>
      ∃ n_39 : Nat, wp_X6_near_71
        (fun (v4_40 : Int64) (A_41 : SA) =>
          Q v4_40 A_41
        )
        Q a1 B n_39 (0 : Int64) (0 : Int32) (u2 A_14 5 13 (0 : Int32))
    )
    Q a0 a1 B n_13 (0 : Int32) A
abbrev rmX6_guess : Room := { frames := 5, cells := 0, slots := 0, locals := 132 }
theorem hX6_guess_X6 : ∀ w ∈ wsX60, w ∈ wsX6_guess := fun w h => List.mem_cons_of_mem _ (List.mem_append_right _ h)
def wp_X6_guess_64 (E123 : Int64 → SA → Prop) (Q : Int32 → SA → SB → Prop) (v1 : Int32) (v2 : Int32) (v3 : Int32) (B : SB) : Nat → Int64 → Int64 → Int32 → SA → Prop
  | 0, _, _, _, _ => False
  | n + 1, v4, v6, v8, A =>
    ((v2 ≤ v8 →
      E123 v4 A
    ) ∧ (¬ v2 ≤ v8 →
      (((A 5 13) ≤ 0 →
        E123 v4 A
      ) ∧ (¬ (A 5 13) ≤ 0 →
        wp_X6_hash v1 v8 A B (fun (r_24 : Int32) =>
          wp_X6_points  A B (fun (r_27 : Int64) =>
            wp_X6_pick r_24 r_27 A B (fun (r_30 : Int64) =>
              wp_X6_near r_30 v3 A B (fun (r_33 : Int64) (A_34 : SA) =>
                ((r_33 ≤ v6 →
                  ∀ v8_37 : Int32, v8_37 = v8 + 1 →
                  wp_X6_guess_64 E123 Q v1 v2 v3 B n v4 v6 v8_37 A_34
                ) ∧ (¬ r_33 ≤ v6 →
                  ∀ v8_38 : Int32, v8_38 = v8 + 1 →
                  wp_X6_guess_64 E123 Q v1 v2 v3 B n r_30 r_33 v8_38 A_34
                ))
              )
            )
          )
        )
      ))
    ))
def wp_X6_guess (a0 : Int32) (a1 : Int32) (a2 : Int32) (A : SA) (B : SB) (Q : Int32 → SA → SB → Prop) : Prop :=
  wp_X6_in a1.toInt64 (1 : Int64) (40 : Int64) A B (fun (r_1 : Int32) =>
    ((r_1 = 0 →
      Q (-1 : Int32) A B
    ) ∧ (¬ r_1 = 0 →
      wp_X6_in a2.toInt64 (1 : Int64) (5 : Int64) A B (fun (r_5 : Int32) =>
        ((¬ r_5 = 0 →
          ((¬ (A 5 6) = (60 : Int32) →
            wp_X6_hash a0 (0 : Int32) A B (fun (r_10 : Int32) =>
              wp_X6_points  A B (fun (r_13 : Int64) =>
                wp_X6_pick r_10 r_13 A B (fun (r_16 : Int64) =>
                  wp_X6_near r_16 a2 A B (fun (r_19 : Int64) (A_20 : SA) =>
                    ∃ n_39 : Nat, wp_X6_guess_64
                      (fun (v4_40 : Int64) (A_41 : SA) =>
                        wp_X6_add v4_40 A_41 B (fun (r_42 : Int32) (A_43 : SA) (B_44 : SB) =>
                          Q r_42 A_43 B_44
                        )
                      )
                      Q a0 a1 a2 B n_39 r_16 r_19 (1 : Int32) A_20
                  )
                )
              )
            )
          ) ∧ ((A 5 6) = (60 : Int32) →
            Q (-4 : Int32) A B
          ))
        ) ∧ (r_5 = 0 →
          Q (-1 : Int32) A B
        ))
      )
    ))
  )
abbrev rmX6_divisor : Room := { frames := 0, cells := 0, slots := 0, locals := 0 }
def wp_X6_divisor_17 (E42 : Int64 → Prop) (Q : Int64 → Prop) (A : SA) (B : SB) : Nat → Int64 → Int64 → Prop
  | 0, _, _ => False
  | n + 1, v4, v6 =>
    ((v6 = (0 : Int64) →
      E42 v4
    ) ∧ (¬ v6 = (0 : Int64) →
      (¬ v6 = 0) ∧
      ∀ x_4 : Int64, x_4 = (v4 - v4 / v6 * v6) →
      wp_X6_divisor_17 E42 Q A B n v6 x_4
    ))
def wp_X6_divisor (a0 : Int64) (a1 : Int64) (A : SA) (B : SB) (Q : Int64 → Prop) : Prop :=
  (((0 : Int64) ≤ a0 →
    ∃ n_5 : Nat, wp_X6_divisor_17
      (fun (v4_6 : Int64) =>
        Q v4_6
      )
      Q A B n_5 a0 a1
  ) ∧ (¬ (0 : Int64) ≤ a0 →
    ∀ x_7 : Int64, x_7 = (-a0) →
    ∃ n_8 : Nat, wp_X6_divisor_17
      (fun (v4_9 : Int64) =>
        Q v4_9
      )
      Q A B n_8 x_7 a1
  ))
abbrev rmX6_forecast : Room := { frames := 5, cells := 0, slots := 0, locals := 132 }
theorem hX6_forecast_X6 : ∀ w ∈ wsX60, w ∈ wsX6_forecast := fun w h => List.mem_cons_of_mem _ (List.mem_append_right _ h)
def wp_X6_forecast (a0 : Int64) (a1 : Int32) (a2 : Int32) (A : SA) (B : SB) (Q : Int64 → SA → Prop) : Prop :=
  wp_X6_noPoint a0 A B (fun (r_1 : Int32) =>
    ((¬ r_1 = 0 →
      Q (-1000000000000000001 : Int64) A
    ) ∧ (r_1 = 0 →
      wp_X6_in a1.toInt64 (1 : Int64) (5 : Int64) A B (fun (r_5 : Int32) =>
        ((r_5 = 0 →
          Q (-1000000000000000001 : Int64) A
        ) ∧ (¬ r_5 = 0 →
          wp_X6_in a2.toInt64 (0 : Int64) (1 : Int64) A B (fun (r_9 : Int32) =>
            ((¬ r_9 = 0 →
              wp_X6_near a0 a1 A B (fun (r_13 : Int64) (A_14 : SA) =>
                ((¬ (A_14 5 13) = 0 →
                  wp_X6_divisor r_13 (A_14 5 13).toInt64 A_14 B (fun (r_17 : Int64) =>
                    ((¬ a2 = 0 →
                      (¬ r_17 = 0) ∧
                      Q ((A_14 5 13).toInt64 / r_17) A_14
                    ) ∧ (a2 = 0 →
                      (¬ r_17 = 0) ∧
                      Q (r_13 / r_17) A_14
                    ))
                  )
                ) ∧ ((A_14 5 13) = 0 →
                  Q (-1000000000000000002 : Int64) A_14
                ))
              )
            ) ∧ (r_9 = 0 →
              Q (-1000000000000000001 : Int64) A
            ))
          )
        ))
      )
    ))
  )
abbrev rmX6_noTrial : Room := { frames := 1, cells := 0, slots := 0, locals := 25 }
theorem hX6_noTrial_X6 : ∀ w ∈ wsX60, w ∈ wsX6_noTrial := fun w h => List.mem_cons_of_mem _ (List.mem_append_right _ h)
def wp_X6_noTrial (a0 : Int32) (A : SA) (B : SB) (Q : Int32 → Prop) : Prop :=
  wp_X6_in a0.toInt64 (0 : Int64) ((A 5 6) - (1 : Int32)).toInt64 A B (fun (r_1 : Int32) =>
    ((¬ r_1 = 0 →
      Q (0 : Int32)
    ) ∧ (r_1 = 0 →
      Q (1 : Int32)
    ))
  )
abbrev rmX6_isScore : Room := { frames := 1, cells := 0, slots := 0, locals := 25 }
def wp_X6_isScore (a0 : Int32) (A : SA) (B : SB) (Q : Int32 → Prop) : Prop :=
  wp_X6_in a0.toInt64 (-1000000 : Int64) (1000000 : Int64) A B (fun (r_1 : Int32) =>
    narrow .boolean (.int r_1) = .int r_1 ∧
    Q r_1
  )
abbrev rmX6_score : Room := { frames := 2, cells := 0, slots := 0, locals := 46 }
theorem hX6_score_X6 : ∀ w ∈ wsX60, w ∈ wsX6_score := fun w h => List.mem_cons_of_mem _ (List.mem_append_right _ h)
def wp_X6_score_69 (E105 : Int32 → Prop) (Q : Int32 → SA → Prop) (A : SA) (B : SB) : Nat → Int32 → Int32 → Prop
  | 0, _, _ => False
  | n + 1, v4, v5 =>
    (((A 5 6) ≤ v5 →
      E105 v4
    ) ∧ (¬ (A 5 6) ≤ v5 →
      vp_in v5 60 ∧
      ((¬ (A 35 v5.toNatClampNeg) = (1 : Int32) →
        ∀ x_15 : Int32, x_15 = (v4 + (0 : Int32)) →
        ∀ v5_16 : Int32, v5_16 = v5 + 1 →
        wp_X6_score_69 E105 Q A B n x_15 v5_16
      ) ∧ ((A 35 v5.toNatClampNeg) = (1 : Int32) →
        ∀ x_17 : Int32, x_17 = (v4 + (1 : Int32)) →
        ∀ v5_18 : Int32, v5_18 = v5 + 1 →
        wp_X6_score_69 E105 Q A B n x_17 v5_18
      ))
    ))
def wp_X6_score (a0 : Int32) (a1 : Int32) (a2 : Int32) (A : SA) (B : SB) (Q : Int32 → SA → Prop) : Prop :=
  wp_X6_noTrial a0 A B (fun (r_1 : Int32) =>
    ((¬ r_1 = 0 →
      Q (-1 : Int32) A
    ) ∧ (r_1 = 0 →
      ((a2 = 0 →
        vp_in a0 60 ∧
        (((A 35 a0.toNatClampNeg) = 0 →
          ((a2 = 0 →
            vp_in a0 60 ∧
            ((a2 = 0 →
              vp_in a0 60 ∧
              ∃ n_19 : Nat, wp_X6_score_69
                (fun (v4_20 : Int32) =>
                  Q v4_20 (u2 (u2 A 35 a0.toNatClampNeg (2 : Int32)) 36 a0.toNatClampNeg (0 : Int32))
                )
                Q (u2 (u2 A 35 a0.toNatClampNeg (2 : Int32)) 36 a0.toNatClampNeg (0 : Int32)) B n_19 (0 : Int32) (0 : Int32)
            ) ∧ (¬ a2 = 0 →
              vp_in a0 60 ∧
              ∃ n_22 : Nat, wp_X6_score_69
                (fun (v4_23 : Int32) =>
                  Q v4_23 (u2 (u2 A 35 a0.toNatClampNeg (2 : Int32)) 36 a0.toNatClampNeg a1)
                )
                Q (u2 (u2 A 35 a0.toNatClampNeg (2 : Int32)) 36 a0.toNatClampNeg a1) B n_22 (0 : Int32) (0 : Int32)
            ))
          ) ∧ (¬ a2 = 0 →
            vp_in a0 60 ∧
            ((a2 = 0 →
              vp_in a0 60 ∧
              ∃ n_27 : Nat, wp_X6_score_69
                (fun (v4_28 : Int32) =>
                  Q v4_28 (u2 (u2 A 35 a0.toNatClampNeg (1 : Int32)) 36 a0.toNatClampNeg (0 : Int32))
                )
                Q (u2 (u2 A 35 a0.toNatClampNeg (1 : Int32)) 36 a0.toNatClampNeg (0 : Int32)) B n_27 (0 : Int32) (0 : Int32)
            ) ∧ (¬ a2 = 0 →
              vp_in a0 60 ∧
              ∃ n_30 : Nat, wp_X6_score_69
                (fun (v4_31 : Int32) =>
                  Q v4_31 (u2 (u2 A 35 a0.toNatClampNeg (1 : Int32)) 36 a0.toNatClampNeg a1)
                )
                Q (u2 (u2 A 35 a0.toNatClampNeg (1 : Int32)) 36 a0.toNatClampNeg a1) B n_30 (0 : Int32) (0 : Int32)
            ))
          ))
        ) ∧ (¬ (A 35 a0.toNatClampNeg) = 0 →
          Q (-3 : Int32) A
        ))
      ) ∧ (¬ a2 = 0 →
        wp_X6_isScore a1 A B (fun (r_32 : Int32) =>
          ((¬ r_32 = 0 →
            vp_in a0 60 ∧
            (((A 35 a0.toNatClampNeg) = 0 →
              ((a2 = 0 →
                vp_in a0 60 ∧
                ((a2 = 0 →
                  vp_in a0 60 ∧
                  ∃ n_42 : Nat, wp_X6_score_69
                    (fun (v4_43 : Int32) =>
                      Q v4_43 (u2 (u2 A 35 a0.toNatClampNeg (2 : Int32)) 36 a0.toNatClampNeg (0 : Int32))
                    )
                    Q (u2 (u2 A 35 a0.toNatClampNeg (2 : Int32)) 36 a0.toNatClampNeg (0 : Int32)) B n_42 (0 : Int32) (0 : Int32)
                ) ∧ (¬ a2 = 0 →
                  vp_in a0 60 ∧
                  ∃ n_45 : Nat, wp_X6_score_69
                    (fun (v4_46 : Int32) =>
                      Q v4_46 (u2 (u2 A 35 a0.toNatClampNeg (2 : Int32)) 36 a0.toNatClampNeg a1)
                    )
                    Q (u2 (u2 A 35 a0.toNatClampNeg (2 : Int32)) 36 a0.toNatClampNeg a1) B n_45 (0 : Int32) (0 : Int32)
                ))
              ) ∧ (¬ a2 = 0 →
                vp_in a0 60 ∧
                ((a2 = 0 →
                  vp_in a0 60 ∧
                  ∃ n_50 : Nat, wp_X6_score_69
                    (fun (v4_51 : Int32) =>
                      Q v4_51 (u2 (u2 A 35 a0.toNatClampNeg (1 : Int32)) 36 a0.toNatClampNeg (0 : Int32))
                    )
                    Q (u2 (u2 A 35 a0.toNatClampNeg (1 : Int32)) 36 a0.toNatClampNeg (0 : Int32)) B n_50 (0 : Int32) (0 : Int32)
                ) ∧ (¬ a2 = 0 →
                  vp_in a0 60 ∧
                  ∃ n_53 : Nat, wp_X6_score_69
                    (fun (v4_54 : Int32) =>
                      Q v4_54 (u2 (u2 A 35 a0.toNatClampNeg (1 : Int32)) 36 a0.toNatClampNeg a1)
                    )
                    Q (u2 (u2 A 35 a0.toNatClampNeg (1 : Int32)) 36 a0.toNatClampNeg a1) B n_53 (0 : Int32) (0 : Int32)
                ))
              ))
            ) ∧ (¬ (A 35 a0.toNatClampNeg) = 0 →
              Q (-3 : Int32) A
            ))
          ) ∧ (r_32 = 0 →
            Q (-1 : Int32) A
          ))
        )
      ))
    ))
  )
abbrev rmX6_prunes : Room := { frames := 0, cells := 0, slots := 0, locals := 0 }
theorem hX6_prunes_X6 : ∀ w ∈ wsX60, w ∈ wsX6_prunes := fun w h => List.mem_cons_of_mem _ (List.mem_append_right _ h)
def wp_X6_prunes_6 (E48 : Int32 → Prop) (Q : Int32 → Prop) (v1 : Int32) (v2 : Int32) (v3 : Int32) (v4 : Int32) (A : SA) (B : SB) : Nat → Int32 → Int32 → Prop
  | 0, _, _ => False
  | n + 1, v5, v6 =>
    (((A 5 6) ≤ v6 →
      E48 v5
    ) ∧ (¬ (A 5 6) ≤ v6 →
      ((v6 = v1 →
        ∀ x_3 : Int32, x_3 = (v5 + (0 : Int32)) →
        ∀ v6_4 : Int32, v6_4 = v6 + 1 →
        wp_X6_prunes_6 E48 Q v1 v2 v3 v4 A B n x_3 v6_4
      ) ∧ (¬ v6 = v1 →
        vp_in v6 60 ∧
        (((A 37 v6.toNatClampNeg) ≤ v2 →
          ∀ x_7 : Int32, x_7 = (v5 + (0 : Int32)) →
          ∀ v6_8 : Int32, v6_8 = v6 + 1 →
          wp_X6_prunes_6 E48 Q v1 v2 v3 v4 A B n x_7 v6_8
        ) ∧ (¬ (A 37 v6.toNatClampNeg) ≤ v2 →
          ∀ x_9 : Int32, x_9 = (v5 + (1 : Int32)) →
          ∀ v6_10 : Int32, v6_10 = v6 + 1 →
          wp_X6_prunes_6 E48 Q v1 v2 v3 v4 A B n x_9 v6_10
        ))
      ))
    ))
def wp_X6_prunes_68 (E126 : Int32 → Prop) (Q : Int32 → Prop) (v1 : Int32) (v2 : Int32) (v3 : Int32) (v5 : Int32) (A : SA) (B : SB) : Nat → Int32 → Int32 → Prop
  | 0, _, _ => False
  | n + 1, v6, v7 =>
    (((A 5 6) ≤ v7 →
      E126 v6
    ) ∧ (¬ (A 5 6) ≤ v7 →
      ((v7 = v1 →
        ∀ x_17 : Int32, x_17 = (v6 + (0 : Int32)) →
        ∀ v7_18 : Int32, v7_18 = v7 + 1 →
        wp_X6_prunes_68 E126 Q v1 v2 v3 v5 A B n x_17 v7_18
      ) ∧ (¬ v7 = v1 →
        vp_in v7 60 ∧
        (((A 37 v7.toNatClampNeg) ≤ v2 →
          ∀ x_21 : Int32, x_21 = (v6 + (0 : Int32)) →
          ∀ v7_22 : Int32, v7_22 = v7 + 1 →
          wp_X6_prunes_68 E126 Q v1 v2 v3 v5 A B n x_21 v7_22
        ) ∧ (¬ (A 37 v7.toNatClampNeg) ≤ v2 →
          ∀ x_23 : Int32, x_23 = (((20 : Int32) * v7) + v2) →
          vp_in x_23 1200 ∧
          (((A 38 x_23.toNatClampNeg) ≤ v3 →
            ∀ x_26 : Int32, x_26 = (v6 + (0 : Int32)) →
            ∀ v7_27 : Int32, v7_27 = v7 + 1 →
            wp_X6_prunes_68 E126 Q v1 v2 v3 v5 A B n x_26 v7_27
          ) ∧ (¬ (A 38 x_23.toNatClampNeg) ≤ v3 →
            ∀ x_28 : Int32, x_28 = (v6 + (1 : Int32)) →
            ∀ v7_29 : Int32, v7_29 = v7 + 1 →
            wp_X6_prunes_68 E126 Q v1 v2 v3 v5 A B n x_28 v7_29
          ))
        ))
      ))
    ))
def wp_X6_prunes (a0 : Int32) (a1 : Int32) (a2 : Int32) (a3 : Int32) (A : SA) (B : SB) (Q : Int32 → Prop) : Prop :=
  ∃ n_11 : Nat, wp_X6_prunes_6
    (fun (v5_12 : Int32) =>
      ((a3 = 0 →
        Q (0 : Int32)
      ) ∧ (¬ a3 = 0 →
        ((a3 ≤ v5_12 →
          ∃ n_30 : Nat, wp_X6_prunes_68
            (fun (v6_31 : Int32) =>
              ((((v5_12 - (1 : Int32)) / (2 : Int32)) < (v5_12 - v6_31) →
                Q (0 : Int32)
              ) ∧ (¬ ((v5_12 - (1 : Int32)) / (2 : Int32)) < (v5_12 - v6_31) →
                Q (1 : Int32)
              ))
            )
            Q a0 a1 a2 v5_12 A B n_30 (0 : Int32) (0 : Int32)
        ) ∧ (¬ a3 ≤ v5_12 →
          Q (0 : Int32)
        ))
      ))
    )
    Q a0 a1 a2 a3 A B n_11 (0 : Int32) (0 : Int32)
abbrev rmX6_report : Room := { frames := 2, cells := 0, slots := 0, locals := 46 }
theorem hX6_report_X6 : ∀ w ∈ wsX60, w ∈ wsX6_report := fun w h => List.mem_cons_of_mem _ (List.mem_append_right _ h)
def wp_X6_report (a0 : Int32) (a1 : Int32) (a2 : Int32) (A : SA) (B : SB) (Q : Int32 → SA → Prop) : Prop :=
  wp_X6_noTrial a0 A B (fun (r_1 : Int32) =>
    ((¬ r_1 = 0 →
      Q (-1 : Int32) A
    ) ∧ (r_1 = 0 →
      wp_X6_isScore a1 A B (fun (r_5 : Int32) =>
        ((r_5 = 0 →
          Q (-1 : Int32) A
        ) ∧ (¬ r_5 = 0 →
          wp_X6_in a2.toInt64 (0 : Int64) (60 : Int64) A B (fun (r_9 : Int32) =>
            ((¬ r_9 = 0 →
              vp_in a0 60 ∧
              (((A 35 a0.toNatClampNeg) = 0 →
                vp_in a0 60 ∧
                ((¬ (A 37 a0.toNatClampNeg) = (20 : Int32) →
                  vp_in a0 60 ∧
                  ∀ x_18 : Int32, x_18 = ((A 37 a0.toNatClampNeg) + (1 : Int32)) →
                  vp_in a0 60 ∧
                  ∀ x_20 : Int32, x_20 = (A 37 a0.toNatClampNeg) →
                  vp_in (((20 : Int32) * a0) + x_20) 1200 ∧
                  wp_X6_prunes a0 x_20 a1 a2 (u2 (u2 A 37 a0.toNatClampNeg x_18) 38 (((20 : Int32) * a0) + x_20).toNatClampNeg a1) B (fun (r_22 : Int32) =>
                    ((¬ r_22 = 0 →
                      vp_in a0 60 ∧
                      Q ((-10 : Int32) - x_20) (u2 (u2 (u2 A 37 a0.toNatClampNeg x_18) 38 (((20 : Int32) * a0) + x_20).toNatClampNeg a1) 35 a0.toNatClampNeg (3 : Int32))
                    ) ∧ (r_22 = 0 →
                      Q x_20 (u2 (u2 A 37 a0.toNatClampNeg x_18) 38 (((20 : Int32) * a0) + x_20).toNatClampNeg a1)
                    ))
                  )
                ) ∧ ((A 37 a0.toNatClampNeg) = (20 : Int32) →
                  Q (-4 : Int32) A
                ))
              ) ∧ (¬ (A 35 a0.toNatClampNeg) = 0 →
                Q (-3 : Int32) A
              ))
            ) ∧ (r_9 = 0 →
              Q (-1 : Int32) A
            ))
          )
        ))
      )
    ))
  )
abbrev rmX6_told : Room := { frames := 2, cells := 0, slots := 0, locals := 46 }
theorem hX6_told_X6 : ∀ w ∈ wsX60, w ∈ wsX6_told := fun w h => List.mem_cons_of_mem _ (List.mem_append_right _ h)
def wp_X6_told (a0 : Int32) (a1 : Int32) (A : SA) (B : SB) (Q : Int32 → Prop) : Prop :=
  wp_X6_noTrial a0 A B (fun (r_1 : Int32) =>
    ((r_1 = 0 →
      ((a1 = 0 →
        vp_in a0 60 ∧
        Q (A 35 a0.toNatClampNeg)
      ) ∧ (¬ a1 = 0 →
      ((a1 = 1 →
        vp_in a0 60 ∧
        Q (A 36 a0.toNatClampNeg)
      ) ∧ (¬ a1 = 1 →
      ((a1 = 2 →
        vp_in a0 60 ∧
        Q (A 37 a0.toNatClampNeg)
      ) ∧ (¬ a1 = 2 →
      ((a1 = 3 →
        vp_in a0 60 ∧
        (((A 41 a0.toNatClampNeg) = 0 →
          Q (0 : Int32)
        ) ∧ (¬ (A 41 a0.toNatClampNeg) = 0 →
          vp_in a0 60 ∧
          (((A 42 a0.toNatClampNeg) = 0 →
            Q (0 : Int32)
          ) ∧ (¬ (A 42 a0.toNatClampNeg) = 0 →
            vp_in a0 60 ∧
            Q (A 44 a0.toNatClampNeg)
          ))
        ))
      ) ∧ (¬ a1 = 3 →
      ((a1 = 4 →
        vp_in a0 60 ∧
        (((A 41 a0.toNatClampNeg) = 0 →
          Q (0 : Int32)
        ) ∧ (¬ (A 41 a0.toNatClampNeg) = 0 →
          Q (1 : Int32)
        ))
      ) ∧ (¬ a1 = 4 →
        Q (-1 : Int32)
      ))))))))))
    ) ∧ (¬ r_1 = 0 →
      Q (-1 : Int32)
    ))
  )
abbrev rmX6_point : Room := { frames := 2, cells := 0, slots := 0, locals := 46 }
theorem hX6_point_X6 : ∀ w ∈ wsX60, w ∈ wsX6_point := fun w h => List.mem_cons_of_mem _ (List.mem_append_right _ h)
def wp_X6_point (a0 : Int32) (A : SA) (B : SB) (Q : Int64 → Prop) : Prop :=
  wp_X6_noTrial a0 A B (fun (r_1 : Int32) =>
    ((r_1 = 0 →
      vp_in a0 60 ∧
      Q (B 34 a0.toNatClampNeg)
    ) ∧ (¬ r_1 = 0 →
      Q (-1 : Int64)
    ))
  )
abbrev rmX6_reported : Room := { frames := 2, cells := 0, slots := 0, locals := 46 }
theorem hX6_reported_X6 : ∀ w ∈ wsX60, w ∈ wsX6_reported := fun w h => List.mem_cons_of_mem _ (List.mem_append_right _ h)
def wp_X6_reported (a0 : Int32) (a1 : Int32) (A : SA) (B : SB) (Q : Int32 → Prop) : Prop :=
  wp_X6_noTrial a0 A B (fun (r_1 : Int32) =>
    ((¬ r_1 = 0 →
      Q (-2000000 : Int32)
    ) ∧ (r_1 = 0 →
      vp_in a0 60 ∧
      wp_X6_in a1.toInt64 (0 : Int64) ((A 37 a0.toNatClampNeg) - (1 : Int32)).toInt64 A B (fun (r_6 : Int32) =>
        ((¬ r_6 = 0 →
          ∀ x_10 : Int32, x_10 = (((20 : Int32) * a0) + a1) →
          vp_in x_10 1200 ∧
          Q (A 38 x_10.toNatClampNeg)
        ) ∧ (r_6 = 0 →
          Q (-2000000 : Int32)
        ))
      )
    ))
  )
abbrev rmX6_best : Room := { frames := 0, cells := 0, slots := 0, locals := 0 }
theorem hX6_best_X6 : ∀ w ∈ wsX60, w ∈ wsX6_best := fun w h => List.mem_cons_of_mem _ (List.mem_append_right _ h)
def wp_X6_best_5 (E54 : Int32 → Prop) (Q : Int32 → Prop) (A : SA) (B : SB) : Nat → Int32 → Int32 → Prop
  | 0, _, _ => False
  | n + 1, v1, v2 =>
    (((A 5 6) ≤ v2 →
      E54 v1
    ) ∧ (¬ (A 5 6) ≤ v2 →
      vp_in v2 60 ∧
      ((¬ (A 35 v2.toNatClampNeg) = (1 : Int32) →
        ∀ v2_4 : Int32, v2_4 = v2 + 1 →
        wp_X6_best_5 E54 Q A B n v1 v2_4
      ) ∧ ((A 35 v2.toNatClampNeg) = (1 : Int32) →
        ((v1 < 0 →
          ∀ v2_6 : Int32, v2_6 = v2 + 1 →
          wp_X6_best_5 E54 Q A B n v2 v2_6
        ) ∧ (¬ v1 < 0 →
          vp_in v2 60 ∧
          vp_in v1 60 ∧
          (((A 36 v2.toNatClampNeg) ≤ (A 36 v1.toNatClampNeg) →
            ∀ v2_10 : Int32, v2_10 = v2 + 1 →
            wp_X6_best_5 E54 Q A B n v1 v2_10
          ) ∧ (¬ (A 36 v2.toNatClampNeg) ≤ (A 36 v1.toNatClampNeg) →
            ∀ v2_11 : Int32, v2_11 = v2 + 1 →
            wp_X6_best_5 E54 Q A B n v2 v2_11
          ))
        ))
      ))
    ))
def wp_X6_best  (A : SA) (B : SB) (Q : Int32 → Prop) : Prop :=
  ∃ n_12 : Nat, wp_X6_best_5
    (fun (v1_13 : Int32) =>
      Q v1_13
    )
    Q A B n_12 (-2 : Int32) (0 : Int32)
abbrev rmX6_clear : Room := { frames := 0, cells := 0, slots := 0, locals := 0 }
theorem hX6_clear_X6 : ∀ w ∈ wsX60, w ∈ wsX6_clear := fun w h => List.mem_cons_of_mem _ (List.mem_append_right _ h)
def wp_X6_clear (a0 : Int32) (A : SA) (B : SB) (Q : SA → Prop) : Prop :=
  vp_in a0 60 ∧
  vp_in a0 60 ∧
  vp_in a0 60 ∧
  Q (u2 (u2 (u2 A 42 a0.toNatClampNeg (vp_nar .boolean (0 : Int32))) 43 a0.toNatClampNeg (vp_nar .boolean (0 : Int32))) 44 a0.toNatClampNeg (0 : Int32))
abbrev rmX6_bracket : Room := { frames := 1, cells := 0, slots := 0, locals := 25 }
theorem hX6_bracket_X6 : ∀ w ∈ wsX60, w ∈ wsX6_bracket := fun w h => List.mem_cons_of_mem _ (List.mem_append_right _ h)
def wp_X6_bracket_91 (E136 : SA → Prop) (Q : Int32 → SA → SB → Prop) (v1 : Int32) (v2 : Int32) (B : SB) : Nat → Int32 → SA → Prop
  | 0, _, _ => False
  | n + 1, v5, A =>
    (((60 : Int32) ≤ v5 →
      E136 A
    ) ∧ (¬ (60 : Int32) ≤ v5 →
      ((v5 < v1 →
        vp_in v5 60 ∧
        wp_X6_clear v5 (u2 A 41 v5.toNatClampNeg (vp_nar .boolean (0 : Int32))) B (fun (A_21 : SA) =>
          ∀ v5_23 : Int32, v5_23 = v5 + 1 →
          wp_X6_bracket_91 E136 Q v1 v2 B n v5_23 A_21
        )
      ) ∧ (¬ v5 < v1 →
        (((v1 + v2) ≤ v5 →
          vp_in v5 60 ∧
          wp_X6_clear v5 (u2 A 41 v5.toNatClampNeg (vp_nar .boolean (0 : Int32))) B (fun (A_27 : SA) =>
            ∀ v5_29 : Int32, v5_29 = v5 + 1 →
            wp_X6_bracket_91 E136 Q v1 v2 B n v5_29 A_27
          )
        ) ∧ (¬ (v1 + v2) ≤ v5 →
          vp_in v5 60 ∧
          wp_X6_clear v5 (u2 A 41 v5.toNatClampNeg (vp_nar .boolean (1 : Int32))) B (fun (A_32 : SA) =>
            ∀ v5_34 : Int32, v5_34 = v5 + 1 →
            wp_X6_bracket_91 E136 Q v1 v2 B n v5_34 A_32
          )
        ))
      ))
    ))
def wp_X6_bracket (a0 : Int32) (a1 : Int32) (a2 : Int32) (a3 : Int32) (A : SA) (B : SB) (Q : Int32 → SA → SB → Prop) : Prop :=
  wp_X6_in a1.toInt64 (1 : Int64) (60 : Int64) A B (fun (r_1 : Int32) =>
    ((r_1 = 0 →
      Q (-1 : Int32) A B
    ) ∧ (¬ r_1 = 0 →
      wp_X6_in a0.toInt64 (0 : Int64) ((A 5 6) - a1).toInt64 A B (fun (r_5 : Int32) =>
        ((r_5 = 0 →
          Q (-1 : Int32) A B
        ) ∧ (¬ r_5 = 0 →
          wp_X6_in a2.toInt64 (1 : Int64) (1000000 : Int64) A B (fun (r_9 : Int32) =>
            ((r_9 = 0 →
              Q (-1 : Int32) A B
            ) ∧ (¬ r_9 = 0 →
              wp_X6_in a3.toInt64 (2 : Int64) (5 : Int64) A B (fun (r_13 : Int32) =>
                ((¬ r_13 = 0 →
                  ∃ n_35 : Nat, wp_X6_bracket_91
                    (fun (A_36 : SA) =>
                      Q (1 : Int32) A_36 (u2L B 5 24 (0 : Int64))
                    )
                    Q a0 a1 (u2L B 5 24 (0 : Int64)) n_35 (0 : Int32) (u2 (u2 (u2 (u2 (u2 A 5 15 (1 : Int32)) 5 20 a2) 5 21 a3) 5 22 (0 : Int32)) 5 23 (0 : Int32))
                ) ∧ (r_13 = 0 →
                  Q (-1 : Int32) A B
                ))
              )
            ))
          )
        ))
      )
    ))
  )
abbrev rmX6_open : Room := { frames := 0, cells := 0, slots := 0, locals := 0 }
theorem hX6_open_X6 : ∀ w ∈ wsX60, w ∈ wsX6_open := fun w h => List.mem_cons_of_mem _ (List.mem_append_right _ h)
def wp_X6_open_4 (E51 : Int32 → Prop) (Q : Int32 → Prop) (A : SA) (B : SB) : Nat → Int32 → Int32 → Prop
  | 0, _, _ => False
  | n + 1, v1, v2 =>
    (((60 : Int32) ≤ v2 →
      E51 v1
    ) ∧ (¬ (60 : Int32) ≤ v2 →
      vp_in v2 60 ∧
      (((A 41 v2.toNatClampNeg) = 0 →
        ∀ x_4 : Int32, x_4 = (v1 + (0 : Int32)) →
        ∀ v2_5 : Int32, v2_5 = v2 + 1 →
        wp_X6_open_4 E51 Q A B n x_4 v2_5
      ) ∧ (¬ (A 41 v2.toNatClampNeg) = 0 →
        vp_in v2 60 ∧
        ((¬ (A 42 v2.toNatClampNeg) = 0 →
          ∀ x_8 : Int32, x_8 = (v1 + (0 : Int32)) →
          ∀ v2_9 : Int32, v2_9 = v2 + 1 →
          wp_X6_open_4 E51 Q A B n x_8 v2_9
        ) ∧ ((A 42 v2.toNatClampNeg) = 0 →
          vp_in v2 60 ∧
          ((¬ (A 43 v2.toNatClampNeg) = 0 →
            ∀ x_12 : Int32, x_12 = (v1 + (0 : Int32)) →
            ∀ v2_13 : Int32, v2_13 = v2 + 1 →
            wp_X6_open_4 E51 Q A B n x_12 v2_13
          ) ∧ ((A 43 v2.toNatClampNeg) = 0 →
            ∀ x_14 : Int32, x_14 = (v1 + (1 : Int32)) →
            ∀ v2_15 : Int32, v2_15 = v2 + 1 →
            wp_X6_open_4 E51 Q A B n x_14 v2_15
          ))
        ))
      ))
    ))
def wp_X6_open  (A : SA) (B : SB) (Q : Int32 → Prop) : Prop :=
  ∃ n_16 : Nat, wp_X6_open_4
    (fun (v1_17 : Int32) =>
      Q v1_17
    )
    Q A B n_16 (0 : Int32) (0 : Int32)
abbrev rmX6_inside : Room := { frames := 0, cells := 0, slots := 0, locals := 0 }
theorem hX6_inside_X6 : ∀ w ∈ wsX60, w ∈ wsX6_inside := fun w h => List.mem_cons_of_mem _ (List.mem_append_right _ h)
def wp_X6_inside_4 (E33 : Int32 → Prop) (Q : Int32 → Prop) (A : SA) (B : SB) : Nat → Int32 → Int32 → Prop
  | 0, _, _ => False
  | n + 1, v1, v2 =>
    (((60 : Int32) ≤ v2 →
      E33 v1
    ) ∧ (¬ (60 : Int32) ≤ v2 →
      vp_in v2 60 ∧
      (((A 41 v2.toNatClampNeg) = 0 →
        ∀ x_4 : Int32, x_4 = (v1 + (0 : Int32)) →
        ∀ v2_5 : Int32, v2_5 = v2 + 1 →
        wp_X6_inside_4 E33 Q A B n x_4 v2_5
      ) ∧ (¬ (A 41 v2.toNatClampNeg) = 0 →
        ∀ x_6 : Int32, x_6 = (v1 + (1 : Int32)) →
        ∀ v2_7 : Int32, v2_7 = v2 + 1 →
        wp_X6_inside_4 E33 Q A B n x_6 v2_7
      ))
    ))
def wp_X6_inside  (A : SA) (B : SB) (Q : Int32 → Prop) : Prop :=
  ∃ n_8 : Nat, wp_X6_inside_4
    (fun (v1_9 : Int32) =>
      Q v1_9
    )
    Q A B n_8 (0 : Int32) (0 : Int32)
abbrev rmX6_result : Room := { frames := 2, cells := 0, slots := 0, locals := 46 }
theorem hX6_result_X6 : ∀ w ∈ wsX60, w ∈ wsX6_result := fun w h => List.mem_cons_of_mem _ (List.mem_append_right _ h)
def wp_X6_result (a0 : Int32) (a1 : Int32) (a2 : Int32) (A : SA) (B : SB) (Q : Int32 → SA → SB → Prop) : Prop :=
  wp_X6_noTrial a0 A B (fun (r_1 : Int32) =>
    ((¬ r_1 = 0 →
      Q (-1 : Int32) A B
    ) ∧ (r_1 = 0 →
      ((a2 = 0 →
        (((A 5 15) = 0 →
          Q (-3 : Int32) A B
        ) ∧ (¬ (A 5 15) = 0 →
          vp_in a0 60 ∧
          (((A 41 a0.toNatClampNeg) = 0 →
            Q (-3 : Int32) A B
          ) ∧ (¬ (A 41 a0.toNatClampNeg) = 0 →
            vp_in a0 60 ∧
            ((¬ (A 42 a0.toNatClampNeg) = 0 →
              Q (-3 : Int32) A B
            ) ∧ ((A 42 a0.toNatClampNeg) = 0 →
              vp_in a0 60 ∧
              (((A 43 a0.toNatClampNeg) = 0 →
                vp_in a0 60 ∧
                ((¬ a2 = 0 →
                  vp_in a0 60 ∧
                  ((a2 = 0 →
                    vp_in a0 60 ∧
                    ∀ x_18 : Int64, x_18 = ((B 5 24) + (A 5 20).toInt64) →
                    wp_X6_open  (u2 (u2 (u2 A 42 a0.toNatClampNeg (vp_nar .boolean a2)) 43 a0.toNatClampNeg (vp_nar .boolean (0 : Int32))) 44 a0.toNatClampNeg (0 : Int32)) (u2L B 5 24 x_18) (fun (r_19 : Int32) =>
                      Q r_19 (u2 (u2 (u2 A 42 a0.toNatClampNeg (vp_nar .boolean a2)) 43 a0.toNatClampNeg (vp_nar .boolean (0 : Int32))) 44 a0.toNatClampNeg (0 : Int32)) (u2L B 5 24 x_18)
                    )
                  ) ∧ (¬ a2 = 0 →
                    vp_in a0 60 ∧
                    ∀ x_23 : Int64, x_23 = ((B 5 24) + (A 5 20).toInt64) →
                    wp_X6_open  (u2 (u2 (u2 A 42 a0.toNatClampNeg (vp_nar .boolean a2)) 43 a0.toNatClampNeg (vp_nar .boolean (0 : Int32))) 44 a0.toNatClampNeg a1) (u2L B 5 24 x_23) (fun (r_24 : Int32) =>
                      Q r_24 (u2 (u2 (u2 A 42 a0.toNatClampNeg (vp_nar .boolean a2)) 43 a0.toNatClampNeg (vp_nar .boolean (0 : Int32))) 44 a0.toNatClampNeg a1) (u2L B 5 24 x_23)
                    )
                  ))
                ) ∧ (a2 = 0 →
                  vp_in a0 60 ∧
                  ((a2 = 0 →
                    vp_in a0 60 ∧
                    ∀ x_30 : Int64, x_30 = ((B 5 24) + (A 5 20).toInt64) →
                    wp_X6_open  (u2 (u2 (u2 A 42 a0.toNatClampNeg (vp_nar .boolean a2)) 43 a0.toNatClampNeg (vp_nar .boolean (1 : Int32))) 44 a0.toNatClampNeg (0 : Int32)) (u2L B 5 24 x_30) (fun (r_31 : Int32) =>
                      Q r_31 (u2 (u2 (u2 A 42 a0.toNatClampNeg (vp_nar .boolean a2)) 43 a0.toNatClampNeg (vp_nar .boolean (1 : Int32))) 44 a0.toNatClampNeg (0 : Int32)) (u2L B 5 24 x_30)
                    )
                  ) ∧ (¬ a2 = 0 →
                    vp_in a0 60 ∧
                    ∀ x_35 : Int64, x_35 = ((B 5 24) + (A 5 20).toInt64) →
                    wp_X6_open  (u2 (u2 (u2 A 42 a0.toNatClampNeg (vp_nar .boolean a2)) 43 a0.toNatClampNeg (vp_nar .boolean (1 : Int32))) 44 a0.toNatClampNeg a1) (u2L B 5 24 x_35) (fun (r_36 : Int32) =>
                      Q r_36 (u2 (u2 (u2 A 42 a0.toNatClampNeg (vp_nar .boolean a2)) 43 a0.toNatClampNeg (vp_nar .boolean (1 : Int32))) 44 a0.toNatClampNeg a1) (u2L B 5 24 x_35)
                    )
                  ))
                ))
              ) ∧ (¬ (A 43 a0.toNatClampNeg) = 0 →
                Q (-3 : Int32) A B
              ))
            ))
          ))
        ))
      ) ∧ (¬ a2 = 0 →
        wp_X6_isScore a1 A B (fun (r_39 : Int32) =>
          ((¬ r_39 = 0 →
            (((A 5 15) = 0 →
              Q (-3 : Int32) A B
            ) ∧ (¬ (A 5 15) = 0 →
              vp_in a0 60 ∧
              (((A 41 a0.toNatClampNeg) = 0 →
                Q (-3 : Int32) A B
              ) ∧ (¬ (A 41 a0.toNatClampNeg) = 0 →
                vp_in a0 60 ∧
                ((¬ (A 42 a0.toNatClampNeg) = 0 →
                  Q (-3 : Int32) A B
                ) ∧ ((A 42 a0.toNatClampNeg) = 0 →
                  vp_in a0 60 ∧
                  (((A 43 a0.toNatClampNeg) = 0 →
                    vp_in a0 60 ∧
                    ((¬ a2 = 0 →
                      vp_in a0 60 ∧
                      ((a2 = 0 →
                        vp_in a0 60 ∧
                        ∀ x_55 : Int64, x_55 = ((B 5 24) + (A 5 20).toInt64) →
                        wp_X6_open  (u2 (u2 (u2 A 42 a0.toNatClampNeg (vp_nar .boolean a2)) 43 a0.toNatClampNeg (vp_nar .boolean (0 : Int32))) 44 a0.toNatClampNeg (0 : Int32)) (u2L B 5 24 x_55) (fun (r_56 : Int32) =>
                          Q r_56 (u2 (u2 (u2 A 42 a0.toNatClampNeg (vp_nar .boolean a2)) 43 a0.toNatClampNeg (vp_nar .boolean (0 : Int32))) 44 a0.toNatClampNeg (0 : Int32)) (u2L B 5 24 x_55)
                        )
                      ) ∧ (¬ a2 = 0 →
                        vp_in a0 60 ∧
                        ∀ x_60 : Int64, x_60 = ((B 5 24) + (A 5 20).toInt64) →
                        wp_X6_open  (u2 (u2 (u2 A 42 a0.toNatClampNeg (vp_nar .boolean a2)) 43 a0.toNatClampNeg (vp_nar .boolean (0 : Int32))) 44 a0.toNatClampNeg a1) (u2L B 5 24 x_60) (fun (r_61 : Int32) =>
                          Q r_61 (u2 (u2 (u2 A 42 a0.toNatClampNeg (vp_nar .boolean a2)) 43 a0.toNatClampNeg (vp_nar .boolean (0 : Int32))) 44 a0.toNatClampNeg a1) (u2L B 5 24 x_60)
                        )
                      ))
                    ) ∧ (a2 = 0 →
                      vp_in a0 60 ∧
                      ((a2 = 0 →
                        vp_in a0 60 ∧
                        ∀ x_67 : Int64, x_67 = ((B 5 24) + (A 5 20).toInt64) →
                        wp_X6_open  (u2 (u2 (u2 A 42 a0.toNatClampNeg (vp_nar .boolean a2)) 43 a0.toNatClampNeg (vp_nar .boolean (1 : Int32))) 44 a0.toNatClampNeg (0 : Int32)) (u2L B 5 24 x_67) (fun (r_68 : Int32) =>
                          Q r_68 (u2 (u2 (u2 A 42 a0.toNatClampNeg (vp_nar .boolean a2)) 43 a0.toNatClampNeg (vp_nar .boolean (1 : Int32))) 44 a0.toNatClampNeg (0 : Int32)) (u2L B 5 24 x_67)
                        )
                      ) ∧ (¬ a2 = 0 →
                        vp_in a0 60 ∧
                        ∀ x_72 : Int64, x_72 = ((B 5 24) + (A 5 20).toInt64) →
                        wp_X6_open  (u2 (u2 (u2 A 42 a0.toNatClampNeg (vp_nar .boolean a2)) 43 a0.toNatClampNeg (vp_nar .boolean (1 : Int32))) 44 a0.toNatClampNeg a1) (u2L B 5 24 x_72) (fun (r_73 : Int32) =>
                          Q r_73 (u2 (u2 (u2 A 42 a0.toNatClampNeg (vp_nar .boolean a2)) 43 a0.toNatClampNeg (vp_nar .boolean (1 : Int32))) 44 a0.toNatClampNeg a1) (u2L B 5 24 x_72)
                        )
                      ))
                    ))
                  ) ∧ (¬ (A 43 a0.toNatClampNeg) = 0 →
                    Q (-3 : Int32) A B
                  ))
                ))
              ))
            ))
          ) ∧ (r_39 = 0 →
            Q (-1 : Int32) A B
          ))
        )
      ))
    ))
  )
abbrev rmX6_halve : Room := { frames := 1, cells := 0, slots := 0, locals := 22 }
theorem hX6_halve_X6 : ∀ w ∈ wsX60, w ∈ wsX6_halve := fun w h => List.mem_cons_of_mem _ (List.mem_append_right _ h)
def wp_X6_halve_47 (E66 : SA → Prop) (Q : Int32 → SA → Prop) (v1 : Int32) (B : SB) : Nat → Int32 → SA → Prop
  | 0, _, _ => False
  | n + 1, v2, A =>
    (((60 : Int32) ≤ v2 →
      E66 A
    ) ∧ (¬ (60 : Int32) ≤ v2 →
      vp_in v2 60 ∧
      ∀ v2_15 : Int32, v2_15 = v2 + 1 →
      wp_X6_halve_47 E66 Q v1 B n v2_15 (u2 A 39 v2.toNatClampNeg (vp_nar .boolean (0 : Int32)))
    ))
def wp_X6_halve_79 (E149 : Int32 → Prop) (Q : Int32 → SA → Prop) (v1 : Int32) (v2 : Int32) (A : SA) (B : SB) : Nat → Int32 → Int32 → Prop
  | 0, _, _ => False
  | n + 1, v3, v4 =>
    (((60 : Int32) ≤ v4 →
      E149 v3
    ) ∧ (¬ (60 : Int32) ≤ v4 →
      vp_in v4 60 ∧
      (((A 41 v4.toNatClampNeg) = 0 →
        ∀ v4_22 : Int32, v4_22 = v4 + 1 →
        wp_X6_halve_79 E149 Q v1 v2 A B n v3 v4_22
      ) ∧ (¬ (A 41 v4.toNatClampNeg) = 0 →
        vp_in v4 60 ∧
        (((A 42 v4.toNatClampNeg) = 0 →
          ∀ v4_25 : Int32, v4_25 = v4 + 1 →
          wp_X6_halve_79 E149 Q v1 v2 A B n v3 v4_25
        ) ∧ (¬ (A 42 v4.toNatClampNeg) = 0 →
          vp_in v4 60 ∧
          ((¬ (A 39 v4.toNatClampNeg) = 0 →
            ∀ v4_28 : Int32, v4_28 = v4 + 1 →
            wp_X6_halve_79 E149 Q v1 v2 A B n v3 v4_28
          ) ∧ ((A 39 v4.toNatClampNeg) = 0 →
            ((v3 < 0 →
              ∀ v4_30 : Int32, v4_30 = v4 + 1 →
              wp_X6_halve_79 E149 Q v1 v2 A B n v4 v4_30
            ) ∧ (¬ v3 < 0 →
              vp_in v4 60 ∧
              vp_in v3 60 ∧
              (((A 44 v4.toNatClampNeg) ≤ (A 44 v3.toNatClampNeg) →
                ∀ v4_34 : Int32, v4_34 = v4 + 1 →
                wp_X6_halve_79 E149 Q v1 v2 A B n v3 v4_34
              ) ∧ (¬ (A 44 v4.toNatClampNeg) ≤ (A 44 v3.toNatClampNeg) →
                ∀ v4_35 : Int32, v4_35 = v4 + 1 →
                wp_X6_halve_79 E149 Q v1 v2 A B n v4 v4_35
              ))
            ))
          ))
        ))
      ))
    ))
def wp_X6_halve_68 (E166 : SA → Prop) (Q : Int32 → SA → Prop) (v1 : Int32) (B : SB) : Nat → Int32 → SA → Prop
  | 0, _, _ => False
  | n + 1, v2, A =>
    ((v1 ≤ v2 →
      E166 A
    ) ∧ (¬ v1 ≤ v2 →
      ∃ n_36 : Nat, wp_X6_halve_79
        (fun (v3_37 : Int32) =>
          ((v3_37 < 0 →
            ∀ v2_39 : Int32, v2_39 = v2 + 1 →
            wp_X6_halve_68 E166 Q v1 B n v2_39 A
          ) ∧ (¬ v3_37 < 0 →
            vp_in v3_37 60 ∧
            ∀ v2_41 : Int32, v2_41 = v2 + 1 →
            wp_X6_halve_68 E166 Q v1 B n v2_41 (u2 A 39 v3_37.toNatClampNeg (vp_nar .boolean (1 : Int32)))
          ))
        )
        Q v1 v2 A B n_36 (-2 : Int32) (0 : Int32)
    ))
def wp_X6_halve_168 (E197 : SA → Prop) (Q : Int32 → SA → Prop) (B : SB) : Nat → Int32 → SA → Prop
  | 0, _, _ => False
  | n + 1, v2, A =>
    (((60 : Int32) ≤ v2 →
      E197 A
    ) ∧ (¬ (60 : Int32) ≤ v2 →
      vp_in v2 60 ∧
      ∀ x_46 : Int32, x_46 = (A 39 v2.toNatClampNeg) →
      vp_in v2 60 ∧
      wp_X6_clear v2 (u2 A 41 v2.toNatClampNeg (vp_nar .boolean x_46)) B (fun (A_49 : SA) =>
        ∀ v2_51 : Int32, v2_51 = v2 + 1 →
        wp_X6_halve_168 E197 Q B n v2_51 A_49
      )
    ))
def wp_X6_halve  (A : SA) (B : SB) (Q : Int32 → SA → Prop) : Prop :=
  (((A 5 15) = 0 →
    Q (-3 : Int32) A
  ) ∧ (¬ (A 5 15) = 0 →
    ((¬ (A 5 23) = 0 →
      Q (-3 : Int32) A
    ) ∧ ((A 5 23) = 0 →
      wp_X6_open  A B (fun (r_3 : Int32) =>
        ((r_3 ≤ 0 →
          wp_X6_inside  A B (fun (r_7 : Int32) =>
            (¬ (A 5 21) = 0) ∧
            ∀ x_11 : Int32, x_11 = (r_7 / (A 5 21)) →
            (((1 : Int32) ≤ x_11 →
              ∃ n_16 : Nat, wp_X6_halve_47
                (fun (A_17 : SA) =>
                  ∃ n_42 : Nat, wp_X6_halve_68
                    (fun (A_43 : SA) =>
                      ∃ n_52 : Nat, wp_X6_halve_168
                        (fun (A_53 : SA) =>
                          ∀ x_54 : Int64, x_54 = ((A_53 5 20).toInt64 * (A_53 5 21).toInt64) →
                          ((x_54 ≤ (1000000000 : Int64) →
                            ∀ x_56 : Int32, x_56 = x_54.toInt32 →
                            ∀ x_57 : Int32, x_57 = ((A_53 5 22) + (1 : Int32)) →
                            wp_X6_inside  (u2 (u2 A_53 5 20 x_56) 5 22 x_57) B (fun (r_58 : Int32) =>
                              (((2 : Int32) ≤ r_58 →
                                wp_X6_inside  (u2 (u2 (u2 A_53 5 20 x_56) 5 22 x_57) 5 23 (0 : Int32)) B (fun (r_62 : Int32) =>
                                  Q r_62 (u2 (u2 (u2 A_53 5 20 x_56) 5 22 x_57) 5 23 (0 : Int32))
                                )
                              ) ∧ (¬ (2 : Int32) ≤ r_58 →
                                wp_X6_inside  (u2 (u2 (u2 A_53 5 20 x_56) 5 22 x_57) 5 23 (1 : Int32)) B (fun (r_65 : Int32) =>
                                  Q r_65 (u2 (u2 (u2 A_53 5 20 x_56) 5 22 x_57) 5 23 (1 : Int32))
                                )
                              ))
                            )
                          ) ∧ (¬ x_54 ≤ (1000000000 : Int64) →
                            ∀ x_68 : Int32, x_68 = ((A_53 5 22) + (1 : Int32)) →
                            wp_X6_inside  (u2 (u2 A_53 5 20 (1000000000 : Int32)) 5 22 x_68) B (fun (r_69 : Int32) =>
                              (((2 : Int32) ≤ r_69 →
                                wp_X6_inside  (u2 (u2 (u2 A_53 5 20 (1000000000 : Int32)) 5 22 x_68) 5 23 (0 : Int32)) B (fun (r_73 : Int32) =>
                                  Q r_73 (u2 (u2 (u2 A_53 5 20 (1000000000 : Int32)) 5 22 x_68) 5 23 (0 : Int32))
                                )
                              ) ∧ (¬ (2 : Int32) ≤ r_69 →
                                wp_X6_inside  (u2 (u2 (u2 A_53 5 20 (1000000000 : Int32)) 5 22 x_68) 5 23 (1 : Int32)) B (fun (r_76 : Int32) =>
                                  Q r_76 (u2 (u2 (u2 A_53 5 20 (1000000000 : Int32)) 5 22 x_68) 5 23 (1 : Int32))
                                )
                              ))
                            )
                          ))
                        )
                        Q B n_52 (0 : Int32) A_43
                    )
                    Q x_11 B n_42 (0 : Int32) A_17
                )
                Q x_11 B n_16 (0 : Int32) A
            ) ∧ (¬ (1 : Int32) ≤ x_11 →
              ∃ n_79 : Nat, wp_X6_halve_47
                (fun (A_80 : SA) =>
                  ∃ n_81 : Nat, wp_X6_halve_68
                    (fun (A_82 : SA) =>
                      ∃ n_83 : Nat, wp_X6_halve_168
                        (fun (A_84 : SA) =>
                          ∀ x_85 : Int64, x_85 = ((A_84 5 20).toInt64 * (A_84 5 21).toInt64) →
                          ((x_85 ≤ (1000000000 : Int64) →
                            ∀ x_87 : Int32, x_87 = x_85.toInt32 →
                            ∀ x_88 : Int32, x_88 = ((A_84 5 22) + (1 : Int32)) →
                            wp_X6_inside  (u2 (u2 A_84 5 20 x_87) 5 22 x_88) B (fun (r_89 : Int32) =>
                              (((2 : Int32) ≤ r_89 →
                                wp_X6_inside  (u2 (u2 (u2 A_84 5 20 x_87) 5 22 x_88) 5 23 (0 : Int32)) B (fun (r_93 : Int32) =>
                                  Q r_93 (u2 (u2 (u2 A_84 5 20 x_87) 5 22 x_88) 5 23 (0 : Int32))
                                )
                              ) ∧ (¬ (2 : Int32) ≤ r_89 →
                                wp_X6_inside  (u2 (u2 (u2 A_84 5 20 x_87) 5 22 x_88) 5 23 (1 : Int32)) B (fun (r_96 : Int32) =>
                                  Q r_96 (u2 (u2 (u2 A_84 5 20 x_87) 5 22 x_88) 5 23 (1 : Int32))
                                )
                              ))
                            )
                          ) ∧ (¬ x_85 ≤ (1000000000 : Int64) →
                            ∀ x_99 : Int32, x_99 = ((A_84 5 22) + (1 : Int32)) →
                            wp_X6_inside  (u2 (u2 A_84 5 20 (1000000000 : Int32)) 5 22 x_99) B (fun (r_100 : Int32) =>
                              (((2 : Int32) ≤ r_100 →
                                wp_X6_inside  (u2 (u2 (u2 A_84 5 20 (1000000000 : Int32)) 5 22 x_99) 5 23 (0 : Int32)) B (fun (r_104 : Int32) =>
                                  Q r_104 (u2 (u2 (u2 A_84 5 20 (1000000000 : Int32)) 5 22 x_99) 5 23 (0 : Int32))
                                )
                              ) ∧ (¬ (2 : Int32) ≤ r_100 →
                                wp_X6_inside  (u2 (u2 (u2 A_84 5 20 (1000000000 : Int32)) 5 22 x_99) 5 23 (1 : Int32)) B (fun (r_107 : Int32) =>
                                  Q r_107 (u2 (u2 (u2 A_84 5 20 (1000000000 : Int32)) 5 22 x_99) 5 23 (1 : Int32))
                                )
                              ))
                            )
                          ))
                        )
                        Q B n_83 (0 : Int32) A_82
                    )
                    Q (1 : Int32) B n_81 (0 : Int32) A_80
                )
                Q (1 : Int32) B n_79 (0 : Int32) A
            ))
          )
        ) ∧ (¬ r_3 ≤ 0 →
          Q (-3 : Int32) A
        ))
      )
    ))
  ))
abbrev rmX6_round : Room := { frames := 1, cells := 0, slots := 0, locals := 25 }
theorem hX6_round_X6 : ∀ w ∈ wsX60, w ∈ wsX6_round := fun w h => List.mem_cons_of_mem _ (List.mem_append_right _ h)
def wp_X6_round (a0 : Int32) (A : SA) (B : SB) (Q : Int32 → Prop) : Prop :=
  wp_X6_in a0.toInt64 (0 : Int64) (3 : Int64) A B (fun (r_1 : Int32) =>
    ((¬ r_1 = 0 →
      ((¬ (A 5 15) = 0 →
        ((¬ a0 = 0 →
          ((¬ a0 = (1 : Int32) →
            ((¬ a0 = (2 : Int32) →
              (((A 5 23) = 0 →
                Q (0 : Int32)
              ) ∧ (¬ (A 5 23) = 0 →
                Q (1 : Int32)
              ))
            ) ∧ (a0 = (2 : Int32) →
              Q (A 5 20)
            ))
          ) ∧ (a0 = (1 : Int32) →
            Q (A 5 22)
          ))
        ) ∧ (a0 = 0 →
          wp_X6_inside  A B (fun (r_10 : Int32) =>
            Q r_10
          )
        ))
      ) ∧ ((A 5 15) = 0 →
        Q (-2 : Int32)
      ))
    ) ∧ (r_1 = 0 →
      Q (-1 : Int32)
    ))
  )
abbrev rmX6_cost : Room := { frames := 0, cells := 0, slots := 0, locals := 0 }
theorem hX6_cost_X6 : ∀ w ∈ wsX60, w ∈ wsX6_cost := fun w h => List.mem_cons_of_mem _ (List.mem_append_right _ h)
def wp_X6_cost  (A : SA) (B : SB) (Q : Int64 → Prop) : Prop :=
  Q (B 5 24)
abbrev rmX6_plan : Room := { frames := 1, cells := 0, slots := 0, locals := 25 }
def wp_X6_plan_55 (E76 : Int32 → Prop) (Q : Int32 → Prop) (v1 : Int32) (v2 : Int32) (v3 : Int32) (v4 : Int32) (A : SA) (B : SB) : Nat → Int32 → Int64 → Prop
  | 0, _, _ => False
  | n + 1, v5, v6 =>
    ((v1.toInt64 < v6 →
      E76 v5
    ) ∧ (¬ v1.toInt64 < v6 →
      ∀ x_16 : Int64, x_16 = (v6 * v2.toInt64) →
      ∀ v5_17 : Int32, v5_17 = v5 + 1 →
      wp_X6_plan_55 E76 Q v1 v2 v3 v4 A B n v5_17 x_16
    ))
def wp_X6_plan_98 (E117 : Int64 → Prop) (Q : Int32 → Prop) (v1 : Int32) (v2 : Int32) (v3 : Int32) (v4 : Int32) (v5 : Int32) (A : SA) (B : SB) : Nat → Int64 → Int32 → Prop
  | 0, _, _ => False
  | n + 1, v6, v8 =>
    ((v3 ≤ v8 →
      E117 v6
    ) ∧ (¬ v3 ≤ v8 →
      ∀ x_25 : Int64, x_25 = (v6 * v2.toInt64) →
      ∀ v8_26 : Int32, v8_26 = v8 + 1 →
      wp_X6_plan_98 E117 Q v1 v2 v3 v4 v5 A B n x_25 v8_26
    ))
def wp_X6_plan (a0 : Int32) (a1 : Int32) (a2 : Int32) (a3 : Int32) (A : SA) (B : SB) (Q : Int32 → Prop) : Prop :=
  wp_X6_in a0.toInt64 (1 : Int64) (1000000 : Int64) A B (fun (r_1 : Int32) =>
    ((r_1 = 0 →
      Q (-1 : Int32)
    ) ∧ (¬ r_1 = 0 →
      wp_X6_in a1.toInt64 (2 : Int64) (5 : Int64) A B (fun (r_5 : Int32) =>
        ((r_5 = 0 →
          Q (-1 : Int32)
        ) ∧ (¬ r_5 = 0 →
          ((¬ a2 = (-1 : Int32) →
            wp_X6_in a3.toInt64 (0 : Int64) (1 : Int64) A B (fun (r_10 : Int32) =>
              ((¬ r_10 = 0 →
                ∀ x_14 : Int64, x_14 = a1.toInt64 →
                ∃ n_18 : Nat, wp_X6_plan_55
                  (fun (v5_19 : Int32) =>
                    wp_X6_in a2.toInt64 (-1 : Int64) v5_19.toInt64 A B (fun (r_20 : Int32) =>
                      ((¬ r_20 = 0 →
                        ∃ n_27 : Nat, wp_X6_plan_98
                          (fun (v6_28 : Int64) =>
                            ((0 ≤ a2 →
                              ((¬ a3 = 0 →
                                (¬ v6_28 = 0) ∧
                                Q (a0.toInt64 / v6_28).toInt32
                              ) ∧ (a3 = 0 →
                                (¬ (a2 + (1 : Int32)).toInt64 = 0) ∧
                                Q ((((v5_19 + (1 : Int32)).toInt64 * v6_28) + a2.toInt64) / (a2 + (1 : Int32)).toInt64).toInt32
                              ))
                            ) ∧ (¬ 0 ≤ a2 →
                              Q v5_19
                            ))
                          )
                          Q a0 a1 a2 a3 v5_19 A B n_27 (1 : Int64) (0 : Int32)
                      ) ∧ (r_20 = 0 →
                        Q (-1 : Int32)
                      ))
                    )
                  )
                  Q a0 a1 a2 a3 A B n_18 (0 : Int32) x_14
              ) ∧ (r_10 = 0 →
                Q (-1 : Int32)
              ))
            )
          ) ∧ (a2 = (-1 : Int32) →
            wp_X6_in a3.toInt64 (0 : Int64) (0 : Int64) A B (fun (r_33 : Int32) =>
              ((¬ r_33 = 0 →
                ∀ x_37 : Int64, x_37 = a1.toInt64 →
                ∃ n_38 : Nat, wp_X6_plan_55
                  (fun (v5_39 : Int32) =>
                    wp_X6_in a2.toInt64 (-1 : Int64) v5_39.toInt64 A B (fun (r_40 : Int32) =>
                      ((¬ r_40 = 0 →
                        ∃ n_44 : Nat, wp_X6_plan_98
                          (fun (v6_45 : Int64) =>
                            ((0 ≤ a2 →
                              ((¬ a3 = 0 →
                                (¬ v6_45 = 0) ∧
                                Q (a0.toInt64 / v6_45).toInt32
                              ) ∧ (a3 = 0 →
                                (¬ (a2 + (1 : Int32)).toInt64 = 0) ∧
                                Q ((((v5_39 + (1 : Int32)).toInt64 * v6_45) + a2.toInt64) / (a2 + (1 : Int32)).toInt64).toInt32
                              ))
                            ) ∧ (¬ 0 ≤ a2 →
                              Q v5_39
                            ))
                          )
                          Q a0 a1 a2 a3 v5_39 A B n_44 (1 : Int64) (0 : Int32)
                      ) ∧ (r_40 = 0 →
                        Q (-1 : Int32)
                      ))
                    )
                  )
                  Q a0 a1 a2 a3 A B n_38 (0 : Int32) x_37
              ) ∧ (r_33 = 0 →
                Q (-1 : Int32)
              ))
            )
          ))
        ))
      )
    ))
  )
abbrev rmX6_folds : Room := { frames := 1, cells := 0, slots := 0, locals := 25 }
theorem hX6_folds_X6 : ∀ w ∈ wsX60, w ∈ wsX6_folds := fun w h => List.mem_cons_of_mem _ (List.mem_append_right _ h)
def wp_X6_folds_77 (E143 : SA → Prop) (Q : Int32 → SA → Prop) (v1 : Int32) (v4 : Int32) (v5 : Int32) (B : SB) : Nat → Int32 → SA → Prop
  | 0, _, _ => False
  | n + 1, v6, A =>
    ((v1 ≤ v6 →
      E143 A
    ) ∧ (¬ v1 ≤ v6 →
      wp_X6_hash v4 v5 A B (fun (r_16 : Int32) =>
        wp_X6_hash v4 v6 A B (fun (r_19 : Int32) =>
          vp_in v5 200 ∧
          ((r_19 < r_16 →
            ∀ x_24 : Int32, x_24 = ((A 45 v5.toNatClampNeg) + (1 : Int32)) →
            vp_in v5 200 ∧
            ∀ v6_26 : Int32, v6_26 = v6 + 1 →
            wp_X6_folds_77 E143 Q v1 v4 v5 B n v6_26 (u2 A 45 v5.toNatClampNeg x_24)
          ) ∧ (¬ r_19 < r_16 →
            ((¬ r_19 = r_16 →
              ∀ x_28 : Int32, x_28 = ((A 45 v5.toNatClampNeg) + (0 : Int32)) →
              vp_in v5 200 ∧
              ∀ v6_30 : Int32, v6_30 = v6 + 1 →
              wp_X6_folds_77 E143 Q v1 v4 v5 B n v6_30 (u2 A 45 v5.toNatClampNeg x_28)
            ) ∧ (r_19 = r_16 →
              ((v5 ≤ v6 →
                ∀ x_32 : Int32, x_32 = ((A 45 v5.toNatClampNeg) + (0 : Int32)) →
                vp_in v5 200 ∧
                ∀ v6_34 : Int32, v6_34 = v6 + 1 →
                wp_X6_folds_77 E143 Q v1 v4 v5 B n v6_34 (u2 A 45 v5.toNatClampNeg x_32)
              ) ∧ (¬ v5 ≤ v6 →
                ∀ x_35 : Int32, x_35 = ((A 45 v5.toNatClampNeg) + (1 : Int32)) →
                vp_in v5 200 ∧
                ∀ v6_37 : Int32, v6_37 = v6 + 1 →
                wp_X6_folds_77 E143 Q v1 v4 v5 B n v6_37 (u2 A 45 v5.toNatClampNeg x_35)
              ))
            ))
          ))
        )
      )
    ))
def wp_X6_folds_60 (E149 : SA → Prop) (Q : Int32 → SA → Prop) (v1 : Int32) (v4 : Int32) (B : SB) : Nat → Int32 → SA → Prop
  | 0, _, _ => False
  | n + 1, v5, A =>
    ((v1 ≤ v5 →
      E149 A
    ) ∧ (¬ v1 ≤ v5 →
      vp_in v5 200 ∧
      ∃ n_38 : Nat, wp_X6_folds_77
        (fun (A_39 : SA) =>
          ∀ v5_40 : Int32, v5_40 = v5 + 1 →
          wp_X6_folds_60 E149 Q v1 v4 B n v5_40 A_39
        )
        Q v1 v4 v5 B n_38 (0 : Int32) (u2 A 45 v5.toNatClampNeg (0 : Int32))
    ))
def wp_X6_folds_152 (E174 : SA → Prop) (Q : Int32 → SA → Prop) (B : SB) : Nat → Int32 → SA → Prop
  | 0, _, _ => False
  | n + 1, v5, A =>
    (((6000 : Int32) ≤ v5 →
      E174 A
    ) ∧ (¬ (6000 : Int32) ≤ v5 →
      vp_in v5 6000 ∧
      ∀ v5_45 : Int32, v5_45 = v5 + 1 →
      wp_X6_folds_152 E174 Q B n v5_45 (u2 A 47 v5.toNatClampNeg (0 : Int32))
    ))
def wp_X6_folds_177 (E198 : SA → Prop) (Q : Int32 → SA → Prop) (B : SB) : Nat → Int32 → SA → Prop
  | 0, _, _ => False
  | n + 1, v5, A =>
    (((10 : Int32) ≤ v5 →
      E198 A
    ) ∧ (¬ (10 : Int32) ≤ v5 →
      vp_in v5 10 ∧
      ∀ v5_50 : Int32, v5_50 = v5 + 1 →
      wp_X6_folds_177 E198 Q B n v5_50 (u2 A 46 v5.toNatClampNeg (vp_nar .boolean (0 : Int32)))
    ))
def wp_X6_folds (a0 : Int32) (a1 : Int32) (a2 : Int32) (a3 : Int32) (A : SA) (B : SB) (Q : Int32 → SA → Prop) : Prop :=
  wp_X6_in a0.toInt64 (1 : Int64) (200 : Int64) A B (fun (r_1 : Int32) =>
    ((r_1 = 0 →
      Q (-1 : Int32) A
    ) ∧ (¬ r_1 = 0 →
      wp_X6_in a1.toInt64 (2 : Int64) (10 : Int64) A B (fun (r_5 : Int32) =>
        ((r_5 = 0 →
          Q (-1 : Int32) A
        ) ∧ (¬ r_5 = 0 →
          wp_X6_in a2.toInt64 (2 : Int64) (10 : Int64) A B (fun (r_9 : Int32) =>
            ((¬ r_9 = 0 →
              ∃ n_41 : Nat, wp_X6_folds_60
                (fun (A_42 : SA) =>
                  ∃ n_46 : Nat, wp_X6_folds_152
                    (fun (A_47 : SA) =>
                      ∃ n_51 : Nat, wp_X6_folds_177
                        (fun (A_52 : SA) =>
                          Q (1 : Int32) A_52
                        )
                        Q B n_51 (0 : Int32) A_47
                    )
                    Q B n_46 (0 : Int32) A_42
                )
                Q a0 a3 B n_41 (0 : Int32) (u2 (u2 (u2 A 5 25 a0) 5 26 a1) 5 27 a2)
            ) ∧ (r_9 = 0 →
              Q (-1 : Int32) A
            ))
          )
        ))
      )
    ))
  )
abbrev rmX6_outerOf : Room := { frames := 0, cells := 0, slots := 0, locals := 0 }
theorem hX6_outerOf_X6 : ∀ w ∈ wsX60, w ∈ wsX6_outerOf := fun w h => List.mem_cons_of_mem _ (List.mem_append_right _ h)
def wp_X6_outerOf (a0 : Int32) (A : SA) (B : SB) (Q : Int32 → Prop) : Prop :=
  vp_in a0 200 ∧
  (¬ (A 5 26) = 0) ∧
  Q ((A 45 a0.toNatClampNeg) - (A 45 a0.toNatClampNeg) / (A 5 26) * (A 5 26))
abbrev rmX6_innerOf : Room := { frames := 0, cells := 0, slots := 0, locals := 0 }
theorem hX6_innerOf_X6 : ∀ w ∈ wsX60, w ∈ wsX6_innerOf := fun w h => List.mem_cons_of_mem _ (List.mem_append_right _ h)
def wp_X6_innerOf (a0 : Int32) (A : SA) (B : SB) (Q : Int32 → Prop) : Prop :=
  vp_in a0 200 ∧
  (¬ (A 5 26) = 0) ∧
  (¬ (A 5 27) = 0) ∧
  Q (((A 45 a0.toNatClampNeg) / (A 5 26)) - ((A 45 a0.toNatClampNeg) / (A 5 26)) / (A 5 27) * (A 5 27))
abbrev rmX6_fold : Room := { frames := 1, cells := 0, slots := 0, locals := 25 }
theorem hX6_fold_X6 : ∀ w ∈ wsX60, w ∈ wsX6_fold := fun w h => List.mem_cons_of_mem _ (List.mem_append_right _ h)
def wp_X6_fold (a0 : Int32) (a1 : Int32) (A : SA) (B : SB) (Q : Int32 → Prop) : Prop :=
  wp_X6_in a0.toInt64 (0 : Int64) ((A 5 25) - (1 : Int32)).toInt64 A B (fun (r_1 : Int32) =>
    ((r_1 = 0 →
      Q (-1 : Int32)
    ) ∧ (¬ r_1 = 0 →
      wp_X6_in a1.toInt64 (0 : Int64) (1 : Int64) A B (fun (r_5 : Int32) =>
        ((¬ r_5 = 0 →
          ((¬ a1 = 0 →
            wp_X6_innerOf a0 A B (fun (r_10 : Int32) =>
              Q r_10
            )
          ) ∧ (a1 = 0 →
            wp_X6_outerOf a0 A B (fun (r_13 : Int32) =>
              Q r_13
            )
          ))
        ) ∧ (r_5 = 0 →
          Q (-1 : Int32)
        ))
      )
    ))
  )
abbrev rmX6_use : Room := { frames := 1, cells := 0, slots := 0, locals := 25 }
theorem hX6_use_X6 : ∀ w ∈ wsX60, w ∈ wsX6_use := fun w h => List.mem_cons_of_mem _ (List.mem_append_right _ h)
def wp_X6_use_60 (E202 : Int32 → SA → Prop) (Q : Int32 → SA → Prop) (v1 : Int32) (v2 : Int32) (B : SB) : Nat → Int32 → Int32 → SA → Prop
  | 0, _, _, _ => False
  | n + 1, v3, v4, A =>
    (((A 5 25) ≤ v4 →
      E202 v3 A
    ) ∧ (¬ (A 5 25) ≤ v4 →
      ∀ x_13 : Int32, x_13 = (((30 : Int32) * v4) + ((3 : Int32) * v1)) →
      wp_X6_outerOf v4 A B (fun (r_14 : Int32) =>
        ((¬ r_14 = v1 →
          ((0 ≤ v2 →
            wp_X6_innerOf v4 A B (fun (r_20 : Int32) =>
              ((¬ r_20 = v2 →
                ∀ x_25 : Int32, x_25 = (x_13 + (0 : Int32)) →
                vp_in x_25 6000 ∧
                ∀ x_27 : Int32, x_27 = ((A 47 x_25.toNatClampNeg) + (1 : Int32)) →
                vp_in (x_13 + (0 : Int32)) 6000 ∧
                ∀ x_30 : Int32, x_30 = (v3 + (0 : Int32)) →
                ∀ v4_31 : Int32, v4_31 = v4 + 1 →
                wp_X6_use_60 E202 Q v1 v2 B n x_30 v4_31 (u2 A 47 (x_13 + (0 : Int32)).toNatClampNeg x_27)
              ) ∧ (r_20 = v2 →
                ∀ x_33 : Int32, x_33 = (x_13 + (1 : Int32)) →
                vp_in x_33 6000 ∧
                ∀ x_35 : Int32, x_35 = ((A 47 x_33.toNatClampNeg) + (1 : Int32)) →
                vp_in (x_13 + (1 : Int32)) 6000 ∧
                ∀ x_38 : Int32, x_38 = (v3 + (1 : Int32)) →
                ∀ v4_39 : Int32, v4_39 = v4 + 1 →
                wp_X6_use_60 E202 Q v1 v2 B n x_38 v4_39 (u2 A 47 (x_13 + (1 : Int32)).toNatClampNeg x_35)
              ))
            )
          ) ∧ (¬ 0 ≤ v2 →
            ∀ x_41 : Int32, x_41 = (x_13 + (0 : Int32)) →
            vp_in x_41 6000 ∧
            ∀ x_43 : Int32, x_43 = ((A 47 x_41.toNatClampNeg) + (1 : Int32)) →
            vp_in (x_13 + (0 : Int32)) 6000 ∧
            ∀ x_46 : Int32, x_46 = (v3 + (0 : Int32)) →
            ∀ v4_47 : Int32, v4_47 = v4 + 1 →
            wp_X6_use_60 E202 Q v1 v2 B n x_46 v4_47 (u2 A 47 (x_13 + (0 : Int32)).toNatClampNeg x_43)
          ))
        ) ∧ (r_14 = v1 →
          ((0 ≤ v2 →
            ∀ v4_50 : Int32, v4_50 = v4 + 1 →
            wp_X6_use_60 E202 Q v1 v2 B n v3 v4_50 A
          ) ∧ (¬ 0 ≤ v2 →
            ∀ x_52 : Int32, x_52 = (x_13 + (2 : Int32)) →
            vp_in x_52 6000 ∧
            ∀ x_54 : Int32, x_54 = ((A 47 x_52.toNatClampNeg) + (1 : Int32)) →
            vp_in (x_13 + (2 : Int32)) 6000 ∧
            ∀ x_57 : Int32, x_57 = (v3 + (1 : Int32)) →
            ∀ v4_58 : Int32, v4_58 = v4 + 1 →
            wp_X6_use_60 E202 Q v1 v2 B n x_57 v4_58 (u2 A 47 (x_13 + (2 : Int32)).toNatClampNeg x_54)
          ))
        ))
      )
    ))
def wp_X6_use (a0 : Int32) (a1 : Int32) (A : SA) (B : SB) (Q : Int32 → SA → Prop) : Prop :=
  (((A 5 25) = 0 →
    Q (-1 : Int32) A
  ) ∧ (¬ (A 5 25) = 0 →
    wp_X6_in a0.toInt64 (0 : Int64) ((A 5 26) - (1 : Int32)).toInt64 A B (fun (r_2 : Int32) =>
      ((r_2 = 0 →
        Q (-1 : Int32) A
      ) ∧ (¬ r_2 = 0 →
        wp_X6_in a1.toInt64 (-1 : Int64) ((A 5 27) - (1 : Int32)).toInt64 A B (fun (r_6 : Int32) =>
          ((¬ r_6 = 0 →
            vp_in a0 10 ∧
            (((A 46 a0.toNatClampNeg) = 0 →
              ∃ n_59 : Nat, wp_X6_use_60
                (fun (v3_60 : Int32) (A_61 : SA) =>
                  ((0 ≤ a1 →
                    vp_in a0 10 ∧
                    Q v3_60 (u2 A_61 46 a0.toNatClampNeg (vp_nar .boolean (0 : Int32)))
                  ) ∧ (¬ 0 ≤ a1 →
                    vp_in a0 10 ∧
                    Q v3_60 (u2 A_61 46 a0.toNatClampNeg (vp_nar .boolean (1 : Int32)))
                  ))
                )
                Q a0 a1 B n_59 (0 : Int32) (0 : Int32) A
            ) ∧ (¬ (A 46 a0.toNatClampNeg) = 0 →
              Q (-3 : Int32) A
            ))
          ) ∧ (r_6 = 0 →
            Q (-1 : Int32) A
          ))
        )
      ))
    )
  ))
abbrev rmX6_used : Room := { frames := 1, cells := 0, slots := 0, locals := 25 }
theorem hX6_used_X6 : ∀ w ∈ wsX60, w ∈ wsX6_used := fun w h => List.mem_cons_of_mem _ (List.mem_append_right _ h)
def wp_X6_used (a0 : Int32) (a1 : Int32) (a2 : Int32) (A : SA) (B : SB) (Q : Int32 → Prop) : Prop :=
  wp_X6_in a0.toInt64 (0 : Int64) ((A 5 25) - (1 : Int32)).toInt64 A B (fun (r_1 : Int32) =>
    ((r_1 = 0 →
      Q (-1 : Int32)
    ) ∧ (¬ r_1 = 0 →
      wp_X6_in a1.toInt64 (0 : Int64) ((A 5 26) - (1 : Int32)).toInt64 A B (fun (r_5 : Int32) =>
        ((r_5 = 0 →
          Q (-1 : Int32)
        ) ∧ (¬ r_5 = 0 →
          wp_X6_in a2.toInt64 (0 : Int64) (2 : Int64) A B (fun (r_9 : Int32) =>
            ((¬ r_9 = 0 →
              ∀ x_13 : Int32, x_13 = ((((30 : Int32) * a0) + ((3 : Int32) * a1)) + a2) →
              vp_in x_13 6000 ∧
              Q (A 47 x_13.toNatClampNeg)
            ) ∧ (r_9 = 0 →
              Q (-1 : Int32)
            ))
          )
        ))
      )
    ))
  )
