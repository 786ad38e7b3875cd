/-! PICK: what is hashed, and that a try below a million is enough -/
def hashG (x1 : Int32) : Int32 :=
  let x2 := (x1 ^^^ (x1.toUInt32 >>> ((16 : Int32).toUInt32 &&& Int32.toUInt32 31)).toInt32) * (-2048144789 : Int32)
  let x3 := (x2 ^^^ (x2.toUInt32 >>> ((13 : Int32).toUInt32 &&& Int32.toUInt32 31)).toInt32) * (-1028477387 : Int32)
  x3 ^^^ (x3.toUInt32 >>> ((16 : Int32).toUInt32 &&& Int32.toUInt32 31)).toInt32
def hashF (s t : Int32) : Int32 := hashG (s + t * (-1640531527 : Int32))
theorem w_hash {s t : Int32} {A : SA} {B : SB} {Q : Int32 → Prop} (h : Q (hashF s t)) : wp_X2_hash s t A B Q := by
  intro x1 e1 x2 e2 x3 e3
  subst e1; subst e2; subst e3
  exact h
theorem w6_hash {s t : Int32} {A : SA} {B : SB} {Q : Int32 → Prop} (h : Q (hashF s t)) : wp_X6_hash s t A B Q := by
  intro x1 e1 x2 e2 x3 e3
  subst e1; subst e2; subst e3
  exact h
def hN (x : Nat) : Nat :=
  let x1 := ((x ^^^ (x / 65536)) * 2246822507) % 4294967296
  let x2 := ((x1 ^^^ (x1 / 8192)) * 3266489909) % 4294967296
  x2 ^^^ (x2 / 65536)
theorem hN_x (x : Int32) (s : Int32) (k : Nat) (hs : ((s.toUInt32 &&& Int32.toUInt32 31).toBitVec % 32).toNat = k) : (x ^^^ (x.toUInt32 >>> (s.toUInt32 &&& Int32.toUInt32 31)).toInt32).toBitVec.toNat = x.toBitVec.toNat ^^^ (x.toBitVec.toNat / 2 ^ k) := by
  rw [Int32.toBitVec_xor, BitVec.toNat_xor, pk_ushr x s k hs]
theorem hashG_N (x : Int32) : (hashG x).toBitVec.toNat = hN x.toBitVec.toNat := by
  have e16 : ∀ x : Int32, (x ^^^ (x.toUInt32 >>> ((16 : Int32).toUInt32 &&& Int32.toUInt32 31)).toInt32).toBitVec.toNat = x.toBitVec.toNat ^^^ (x.toBitVec.toNat / 65536) := fun x => hN_x x 16 16 (by decide +kernel)
  have e13 : ∀ x : Int32, (x ^^^ (x.toUInt32 >>> ((13 : Int32).toUInt32 &&& Int32.toUInt32 31)).toInt32).toBitVec.toNat = x.toBitVec.toNat ^^^ (x.toBitVec.toNat / 8192) := fun x => hN_x x 13 13 (by decide +kernel)
  have c2 : (-2048144789 : Int32).toBitVec.toNat = 2246822507 := by decide +kernel
  have c3 : (-1028477387 : Int32).toBitVec.toNat = 3266489909 := by decide +kernel
  have m1 : ∀ x y : Int32, (x * y).toBitVec.toNat = (x.toBitVec.toNat * y.toBitVec.toNat) % 4294967296 := fun x y => by rw [Int32.toBitVec_mul, BitVec.toNat_mul]
  unfold hashG hN
  simp only [e16, e13, m1, c2, c3]
theorem hashF_N (s t : Int32) : (hashF s t).toBitVec.toNat = hN ((s.toBitVec.toNat + t.toBitVec.toNat * 2654435769) % 4294967296) := by
  have c1 : (-1640531527 : Int32).toBitVec.toNat = 2654435769 := by decide +kernel
  have m1 : ∀ x y : Int32, (x * y).toBitVec.toNat = (x.toBitVec.toNat * y.toBitVec.toNat) % 4294967296 := fun x y => by rw [Int32.toBitVec_mul, BitVec.toNat_mul]
  have a1 : ∀ x y : Int32, (x + y).toBitVec.toNat = (x.toBitVec.toNat + y.toBitVec.toNat) % 4294967296 := fun x y => by rw [Int32.toBitVec_add, BitVec.toNat_add]
  rw [hashF, hashG_N, a1, m1, c1]
  have e : (s.toBitVec.toNat + t.toBitVec.toNat * 2654435769 % 4294967296) % 4294967296 = (s.toBitVec.toNat + t.toBitVec.toNat * 2654435769) % 4294967296 := by omega
  rw [e]
def hgood (w : Nat) : Bool := decide (hN ((2654435769 * w) % 4294967296) < 2147483648)
def hsg : Nat → Nat → Bool
  | 0, _ => false
  | f + 1, w => hgood w || hsg f (w + 2)
theorem hsg_ex : ∀ (f w : Nat), hsg f w = true → ∃ i, i < f ∧ hgood (w + 2 * i) = true
  | 0, w, h => by cases h
  | f + 1, w, h => by
    unfold hsg at h
    by_cases hw : hgood w = true
    · exact ⟨0, by omega, by simpa using hw⟩
    · have h2 : hsg f (w + 2) = true := by simpa [hw] using h
      obtain ⟨i, hi, hg⟩ := hsg_ex f (w + 2) h2
      exact ⟨i + 1, by omega, by rw [show w + 2 * (i + 1) = w + 2 + 2 * i by omega]; exact hg⟩
set_option maxRecDepth 100000 in
theorem hsg_all : (List.range 4096).all (fun j => hsg 64 (j * 1048576) && hsg 64 (j * 1048576 + 1)) = true := by decide +kernel
theorem hgood_near (u : Nat) (hu : u < 4294967296) : ∃ k, k < 1000000 ∧ hgood ((u + (2 * k + 1)) % 4294967296) = true := by
  obtain ⟨b, hb, hpar⟩ : ∃ b, b < 2 ∧ b % 2 = (u + 1) % 2 := ⟨(u + 1) % 2, by omega, by omega⟩
  let j0 := (u + 1) / 1048576 + 1
  have hj : j0 % 4096 < 4096 := by omega
  have h1 := List.all_eq_true.mp hsg_all (j0 % 4096) (List.mem_range.mpr hj)
  simp only [Bool.and_eq_true] at h1
  have h2 : hsg 64 (j0 % 4096 * 1048576 + b) = true := by
    rcases (show b = 0 ∨ b = 1 by omega) with rfl | rfl
    · rw [Nat.add_zero]; exact h1.1
    · exact h1.2
  obtain ⟨i, hi, hg⟩ := hsg_ex _ _ h2
  refine ⟨(j0 * 1048576 + b + 2 * i - (u + 1)) / 2, ?_, ?_⟩
  · show ((((u + 1) / 1048576 + 1) * 1048576 + b + 2 * i - (u + 1)) / 2) < 1000000
    omega
  · have e : (u + (2 * ((j0 * 1048576 + b + 2 * i - (u + 1)) / 2) + 1)) % 4294967296 = j0 % 4096 * 1048576 + b + 2 * i := by
      show (u + (2 * ((((u + 1) / 1048576 + 1) * 1048576 + b + 2 * i - (u + 1)) / 2) + 1)) % 4294967296 = ((u + 1) / 1048576 + 1) % 4096 * 1048576 + b + 2 * i
      omega
    rw [e]
    exact hg
/-- some try below a million has no top bit -/
theorem hash_top (s : Int32) : ∃ k, k < 1000000 ∧ (hashF s (nI (2 * k + 1))).toBitVec.toNat < 2147483648 := by
  obtain ⟨k, hk, hg⟩ := hgood_near ((s.toBitVec.toNat * 340573321) % 4294967296) (Nat.mod_lt _ (by decide))
  refine ⟨k, hk, ?_⟩
  rw [hashF_N, pk_tn (by omega)]
  have h := of_decide_eq_true hg
  have e : (2654435769 * (((s.toBitVec.toNat * 340573321) % 4294967296 + (2 * k + 1)) % 4294967296)) % 4294967296 = (s.toBitVec.toNat + (2 * k + 1) * 2654435769) % 4294967296 := by
    omega
  rw [e] at h
  exact h
/-- the two hashes of one try, side by side -/
def twoF (s k : Int32) : Int64 := ((hashF s (((2 : Int32) * k) + (1 : Int32))).toInt64 <<< ((32 : Int32).toInt64 &&& 63)) ||| ((hashF s (((2 : Int32) * k) + (2 : Int32))).toInt64 &&& (4294967295 : Int64))
theorem w_two {s k : Int32} {A : SA} {B : SB} {Q : Int64 → Prop} (h : Q (twoF s k)) : wp_X2_twoHashes s k A B Q :=
  w_hash (fun x e => w_hash (fun y e2 => by subst e; subst e2; exact h))
def twN (s : Int32) (k : Nat) : Nat := (twoF s (nI k)).toBitVec.toNat
theorem twN_lt (s : Int32) (k : Nat) : twN s k < 2 ^ 64 := (twoF s (nI k)).toBitVec.isLt
theorem twN_eq (s : Int32) (k : Nat) : twoF s (nI k) = lN (twN s k) := by
  obtain ⟨n, hn, e⟩ := wb_of (twoF s (nI k))
  rw [twN, e, wb_tn hn]
theorem tw_top {s : Int32} {k : Nat} (h : (hashF s (nI (2 * k + 1))).toBitVec.toNat < 2147483648) : twN s k < 2 ^ 63 := by
  have e1 : ((2 : Int32) * nI k) + (1 : Int32) = nI (2 * k + 1) := by
    rw [show (2 : Int32) = nI 2 from rfl, pk_mul, nI_1]
  obtain ⟨p1, hp1, ep1⟩ := wb_of32 (hashF s (nI (2 * k + 1)))
  have hp : p1 < 2 ^ 31 := by
    rw [ep1, pk_tn hp1] at h
    exact h
  obtain ⟨y, hy, ey⟩ := wb_of (hashF s (((2 : Int32) * nI k) + (2 : Int32))).toInt64
  have e32 : (32 : Int32) = nI 32 := rfl
  have em : (4294967295 : Int64) = lN (2 ^ 32 - 1) := rfl
  have et : twoF s (nI k) = lN (p1 * 2 ^ 32 ||| y % 2 ^ 32) := by
    have b1 : p1 * 2 ^ 32 < 2 ^ 64 := by omega
    have b2 : y % 2 ^ 32 < 2 ^ 64 := by omega
    rw [twoF, e1, ep1, nI_l hp, ey, e32, wb_shl p1 (by decide), em, wb_mask hy (by decide), wb_or b1 b2]
  have hlt : p1 * 2 ^ 32 ||| y % 2 ^ 32 < 2 ^ 63 := Nat.or_lt_two_pow (by omega) (by omega)
  rw [twN, et, wb_tn (by omega)]
  exact hlt
theorem tw_shr {s : Int32} {k b : Nat} (h0 : 0 < b) (hb : b ≤ 40) : ((twoF s (nI k)).toUInt64 >>> (((64 : Int32) - nI b).toInt64.toUInt64 &&& Int64.toUInt64 63)).toInt64 = lN (twN s k / 2 ^ (64 - b)) := by
  have e : (64 : Int32) - nI b = nI (64 - b) := by
    rw [show (64 : Int32) = nI 64 from rfl]
    exact pk_sub (by omega)
  rw [e, twN_eq, wb_shr (twN_lt s k) (by omega)]
theorem tw_small {s : Int32} {k b : Nat} (h0 : 0 < b) (hb : b ≤ 40) : twN s k / 2 ^ (64 - b) < 2 ^ b := by
  have h := twN_lt s k
  rw [Nat.div_lt_iff_lt_mul (Nat.two_pow_pos _), ← Nat.pow_add]
  rw [show b + (64 - b) = 64 by omega]
  exact h
theorem pow40 {b : Nat} (hb : b ≤ 40) : 2 ^ b ≤ 1099511627776 := Nat.le_trans (Nat.pow_le_pow_right (by decide) hb) (by decide)
theorem w_bits {m : Nat} (h1 : 1 ≤ m) (hm : m ≤ 1099511627776) {A : SA} {B : SB} {Q : Int32 → Prop} (h : ∀ b : Nat, b ≤ 40 → m ≤ 2 ^ b → (∀ c, c < b → 2 ^ c < m) → Q (nI b)) : wp_X2_bitsFor (lN m) A B Q := by
  refine lp1 (wp_X2_bitsFor_2 (fun v => Q v) Q (lN m) A B) (fun v => ∃ b : Nat, v = nI b ∧ b ≤ 40 ∧ ∀ c, c < b → 2 ^ c < m) (fun v => 62 - v.toNatClampNeg) ?_ 0 ⟨0, nI_0.symm, by omega, fun c hc => by omega⟩
  rintro n v ⟨b, rfl, hb, hlt⟩ ih
  have esh : (1 : Int64) <<< ((nI b).toInt64 &&& 63) = lN (2 ^ b) := by
    rw [show (1 : Int64) = lN 1 from rfl, wb_shl 1 (by omega), Nat.one_mul]
  have hpb := pow40 hb
  refine br_f (nI_ge (a := b) (b := 62) (by omega) (by omega)) (pj_le m (2 ^ b) (fun q => h b hb q hlt) (fun q v2 e => ?_) rfl esh (by omega) (by omega))
  subst e
  have hb40 : b < 40 := by
    rcases Nat.lt_or_ge b 40 with z | z
    · exact z
    · have : b = 40 := by omega
      subst this
      omega
  refine ih _ ⟨b + 1, nI_1 b, by omega, fun c hc => ?_⟩ ?_
  · rcases Nat.lt_or_ge c b with z | z
    · exact hlt c z
    · have : c = b := by omega
      subst this
      exact q
  · rw [nI_1, nI_clamp (by omega), nI_clamp (by omega)]
    omega
/-- class and reference pick the same -/
theorem pick_ex (m : Nat) (s : Int32) (h1 : 1 ≤ m) (hm : m ≤ 1099511627776) : ∃ v : Nat, v < m ∧ (∀ (A : SA) (B : SB) (Q : Int64 → Prop), Q (lN v) → wp_X2_pick (lN m) s A B Q) ∧ (∀ (A : SA) (B : SB) (Q : Int64 → Prop), Q (lN v) → wp_X6_pick s (lN m) A B Q) := by
  obtain ⟨b, hb⟩ : ∃ b, m ≤ 2 ^ b := ⟨40, by omega⟩
  obtain ⟨b, hmb, hleast⟩ := pk_least (fun b => m ≤ 2 ^ b) ⟨b, hb⟩
  have hb40 : b ≤ 40 := by
    rcases Nat.lt_or_ge 40 b with z | z
    · exact absurd (show m ≤ 2 ^ 40 by omega) (hleast 40 z)
    · exact z
  have huniq : ∀ c, m ≤ 2 ^ c → (∀ d, d < c → 2 ^ d < m) → c = b := by
    intro c hc hd
    rcases Nat.lt_trichotomy c b with z | z | z
    · exact absurd hc (hleast c z)
    · exact z
    · exact absurd hmb (Nat.not_le.mpr (hd b z))
  have hpb := pow40 hb40
  have e0 : (0 : Int64) = lN 0 := rfl
  -- the reference's bits
  have r_bits : ∀ (A : SA) (B : SB) (Q : Int64 → Prop) (E : Int32 → Prop), E (nI b) → ∃ n, wp_X6_pick_2 E Q s (lN m) A B n 0 := by
    intro A B Q E hE
    refine lp1 (wp_X6_pick_2 E Q s (lN m) A B) (fun v => ∃ c : Nat, v = nI c ∧ c ≤ b) (fun v => 62 - v.toNatClampNeg) ?_ 0 ⟨0, nI_0.symm, by omega⟩
    rintro n v ⟨c, rfl, hc⟩ ih
    have esh : (1 : Int64) <<< ((nI c).toInt64 &&& 63) = lN (2 ^ c) := by
      rw [show (1 : Int64) = lN 1 from rfl, wb_shl 1 (by omega), Nat.one_mul]
    have hpc := pow40 (show c ≤ 40 by omega)
    refine pj_le m (2 ^ c) (fun q => ?_) (fun q v2 e => ?_) rfl esh (by omega) (by omega)
    · have : c = b := by
        rcases Nat.lt_or_ge c b with z | z
        · exact absurd q (hleast c z)
        · omega
      subst this
      exact hE
    · subst e
      have hcb : c < b := by
        rcases Nat.lt_or_ge c b with z | z
        · exact z
        · have : c = b := by omega
          subst this
          omega
      refine ih _ ⟨c + 1, nI_1 c, by omega⟩ ?_
      rw [nI_1, nI_clamp (by omega), nI_clamp (by omega)]
      omega
  by_cases hz : b = 0
  · subst hz
    have hm1 : m = 1 := by simpa using (show m ≤ 1 from by simpa using hmb) |> fun z => Nat.le_antisymm z h1
    refine ⟨0, by omega, fun A B Q hQ => ?_, fun A B Q hQ => ?_⟩
    · refine w_bits h1 hm (fun c hc h2 h3 => ?_)
      have := huniq c h2 h3
      subst this
      exact bn_t nI_0 hQ
    · refine r_bits A B Q _ ⟨1, ?_⟩
      refine w6_hash (w6_hash (fun x e => bn_t nI_0 ?_))
      exact pj_le m 0 (fun q => by omega) (fun q => hQ) rfl e0 (by omega) (by omega)
  · have hb0 : 0 < b := by omega
    obtain ⟨k1, hk1, ht1⟩ := hash_top s
    have hex : ∃ k, twN s k / 2 ^ (64 - b) < m := by
      refine ⟨k1, ?_⟩
      have ht := tw_top ht1
      have h2 : twN s k1 / 2 ^ (64 - b) < 2 ^ (b - 1) := by
        rw [Nat.div_lt_iff_lt_mul (Nat.two_pow_pos _), ← Nat.pow_add, show b - 1 + (64 - b) = 63 by omega]
        exact ht
      have h3 : 2 ^ (b - 1) < m := Nat.not_le.mp (hleast (b - 1) (by omega))
      omega
    have hk1' : twN s k1 / 2 ^ (64 - b) < m := by
      have ht := tw_top ht1
      have h2 : twN s k1 / 2 ^ (64 - b) < 2 ^ (b - 1) := by
        rw [Nat.div_lt_iff_lt_mul (Nat.two_pow_pos _), ← Nat.pow_add, show b - 1 + (64 - b) = 63 by omega]
        exact ht
      have h3 : 2 ^ (b - 1) < m := Nat.not_le.mp (hleast (b - 1) (by omega))
      omega
    obtain ⟨k0, hP, hmin⟩ := pk_least _ hex
    have hk0 : k0 < 1000000 := by
      rcases Nat.lt_or_ge k1 k0 with z | z
      · exact absurd hk1' (hmin k1 z)
      · omega
    have hne : ¬ nI b = 0 := nI_ne0 hb0 (by omega)
    refine ⟨twN s k0 / 2 ^ (64 - b), hP, fun A B Q hQ => ?_, fun A B Q hQ => ?_⟩
    · refine w_bits h1 hm (fun c hc h2 h3 => ?_)
      have := huniq c h2 h3
      subst this
      refine bn_f hne ?_
      refine lp1 (wp_X2_pick_14 Q (lN m) s (nI c) A B) (fun v => ∃ k : Nat, v = nI k ∧ k ≤ k0) (fun v => 1000000 - v.toNatClampNeg) ?_ 0 ⟨0, nI_0.symm, by omega⟩
      rintro n v ⟨k, rfl, hk⟩ ih
      have hs := tw_small (s := s) (k := k) hb0 hb40
      refine br_f (nI_ge (a := k) (b := 1000000) (by omega) (by omega)) (w_two (fun x e => ?_))
      rw [tw_shr hb0 hb40] at e
      refine pj_le m (twN s k / 2 ^ (64 - c)) (fun q v2 e2 => ?_) (fun q => ?_) rfl e (by omega) (by omega)
      · subst e2
        have hkk : k < k0 := by
          rcases Nat.lt_or_ge k k0 with z | z
          · exact z
          · have : k = k0 := by omega
            subst this
            omega
        refine ih _ ⟨k + 1, nI_1 k, by omega⟩ ?_
        rw [nI_1, nI_clamp (by omega), nI_clamp (by omega)]
        omega
      · have : k = k0 := by
          rcases Nat.lt_or_ge k k0 with z | z
          · exact absurd q (hmin k z)
          · omega
        subst this
        rw [e]
        exact hQ
    · refine r_bits A B Q _ ?_
      refine lp1 (wp_X6_pick_19 Q s (lN m) (nI b) A B) (fun v => ∃ k : Nat, v = nI k ∧ k ≤ k0) (fun v => 1000000 - v.toNatClampNeg) ?_ 0 ⟨0, nI_0.symm, by omega⟩
      rintro n v ⟨k, rfl, hk⟩ ih
      have hs := tw_small (s := s) (k := k) hb0 hb40
      refine w6_hash (w6_hash (fun x e => bn_f hne (fun x2 e3 => ?_)))
      have e : x2 = lN (twN s k / 2 ^ (64 - b)) := by
        rw [e3, e]
        exact tw_shr hb0 hb40
      refine pj_le m (twN s k / 2 ^ (64 - b)) (fun q v2 e2 => ?_) (fun q => ?_) rfl e (by omega) (by omega)
      · subst e2
        have hkk : k < k0 := by
          rcases Nat.lt_or_ge k k0 with z | z
          · exact z
          · have : k = k0 := by omega
            subst this
            omega
        refine ih _ ⟨k + 1, nI_1 k, by omega⟩ ?_
        rw [nI_1, nI_clamp (by omega), nI_clamp (by omega)]
        omega
      · have : k = k0 := by
          rcases Nat.lt_or_ge k k0 with z | z
          · exact absurd q (hmin k z)
          · omega
        subst this
        rw [e]
        exact hQ
noncomputable def pickF (m : Nat) (s : Int32) : Nat := if h : 1 ≤ m ∧ m ≤ 1099511627776 then Classical.choose (pick_ex m s h.1 h.2) else 0
theorem pickF_ok (m : Nat) (s : Int32) (h1 : 1 ≤ m) (hm : m ≤ 1099511627776) : pickF m s < m ∧ (∀ (A : SA) (B : SB) (Q : Int64 → Prop), Q (lN (pickF m s)) → wp_X2_pick (lN m) s A B Q) ∧ (∀ (A : SA) (B : SB) (Q : Int64 → Prop), Q (lN (pickF m s)) → wp_X6_pick s (lN m) A B Q) := by
  unfold pickF
  rw [dif_pos ⟨h1, hm⟩]
  exact Classical.choose_spec (pick_ex m s h1 hm)
