/-! the nearest: scored trials in the order of (distance, number) -/
def prc (d : Nat → Nat) (i j : Nat) : Prop := d i < d j ∨ (d i = d j ∧ i < j)
def SqOK (st d : Nat → Nat) (T c : Nat) (e : Nat → Nat) : Prop :=
  c = cntN (fun i => decide (st i = 1)) T ∧ (∀ r, r < c → e r < T ∧ st (e r) = 1) ∧ (∀ r q, r < q → q < c → prc d (e r) (e q)) ∧ ∀ i, i < T → st i = 1 → ∃ r, r < c ∧ e r = i
def insN (e : Nat → Nat) (p x : Nat) : Nat → Nat := fun k => if k < p then e k else if k = p then x else e (k - 1)
theorem sq_pos {d : Nat → Nat} {e : Nat → Nat} {g : Nat} : ∀ c, (∀ r q, r < q → q < c → prc d (e r) (e q)) → ∃ p, p ≤ c ∧ (∀ r, r < p → d (e r) ≤ g) ∧ ∀ r, p ≤ r → r < c → g < d (e r)
  | 0, _ => ⟨0, Nat.le_refl 0, fun r h => by omega, fun r h1 h2 => by omega⟩
  | c + 1, h => by
    obtain ⟨p, h1, h2, h3⟩ := sq_pos (g := g) c (fun r q a b => h r q a (by omega))
    by_cases hp : p = c
    · subst hp
      by_cases hg : d (e p) ≤ g
      · exact ⟨p + 1, Nat.le_refl _, fun r hr => by
          by_cases e : r = p
          · subst e; exact hg
          · exact h2 r (by omega), fun r a b => by omega⟩
      · exact ⟨p, by omega, h2, fun r a b => by rw [show r = p by omega]; omega⟩
    · refine ⟨p, by omega, h2, fun r a b => ?_⟩
      by_cases e : r = c
      · subst e
        have := h3 p (Nat.le_refl p) (by omega)
        rcases h p r (by omega) (by omega) with z | z
        · omega
        · omega
      · exact h3 r a (by omega)
theorem sq_skip {st d : Nat → Nat} {T c : Nat} {e : Nat → Nat} (h : SqOK st d T c e) (hs : st T ≠ 1) : SqOK st d (T + 1) c e := by
  obtain ⟨h1, h2, h3, h4⟩ := h
  refine ⟨?_, fun r hr => ⟨by have := (h2 r hr).1; omega, (h2 r hr).2⟩, h3, fun i hi hsi => ?_⟩
  · simp only [cntN]; rw [if_neg (by simpa using hs)]; omega
  · by_cases e : i = T
    · subst e; exact absurd hsi hs
    · exact h4 i (by omega) hsi
theorem sq_ins {st d : Nat → Nat} {T c p : Nat} {e : Nat → Nat} (h : SqOK st d T c e) (hs : st T = 1) (hp : p ≤ c) (hlo : ∀ r, r < p → d (e r) ≤ d T) (hhi : ∀ r, p ≤ r → r < c → d T < d (e r)) : SqOK st d (T + 1) (c + 1) (insN e p T) := by
  obtain ⟨h1, h2, h3, h4⟩ := h
  refine ⟨?_, fun r hr => ?_, fun r q a b => ?_, fun i hi hsi => ?_⟩
  · simp only [cntN]; rw [if_pos (by simpa using hs)]; omega
  · unfold insN
    by_cases r1 : r < p
    · rw [if_pos r1]; exact ⟨by have := (h2 r (by omega)).1; omega, (h2 r (by omega)).2⟩
    · rw [if_neg r1]
      by_cases r2 : r = p
      · rw [if_pos r2]; exact ⟨by omega, hs⟩
      · rw [if_neg r2]; exact ⟨by have := (h2 (r - 1) (by omega)).1; omega, (h2 (r - 1) (by omega)).2⟩
  · unfold insN
    by_cases r1 : r < p
    · rw [if_pos r1]
      by_cases q1 : q < p
      · rw [if_pos q1]; exact h3 r q a (by omega)
      · rw [if_neg q1]
        by_cases q2 : q = p
        · rw [if_pos q2]
          have := hlo r r1
          have := (h2 r (by omega)).1
          unfold prc
          omega
        · rw [if_neg q2]
          have := hlo r r1
          have := hhi (q - 1) (by omega) (by omega)
          unfold prc
          omega
    · rw [if_neg r1, if_neg (show ¬ q < p by omega), if_neg (show ¬ q = p by omega)]
      by_cases r2 : r = p
      · rw [if_pos r2]
        have := hhi (q - 1) (by omega) (by omega)
        unfold prc
        omega
      · rw [if_neg r2]; exact h3 (r - 1) (q - 1) (by omega) (by omega)
  · by_cases e1 : i = T
    · subst e1; exact ⟨p, by omega, by simp [insN]⟩
    · obtain ⟨r, hr, er⟩ := h4 i (by omega) hsi
      by_cases r1 : r < p
      · exact ⟨r, by omega, by simp [insN, r1, er]⟩
      · exact ⟨r + 1, by omega, by simp [insN, show ¬ r + 1 < p by omega, show r + 1 ≠ p by omega, er]⟩
theorem sq_ex (st d : Nat → Nat) : ∀ T, ∃ c e, SqOK st d T c e
  | 0 => ⟨0, fun _ => 0, rfl, fun r h => by omega, fun r q _ h => by omega, fun i h => by omega⟩
  | T + 1 => by
    obtain ⟨c, e, h⟩ := sq_ex st d T
    by_cases hs : st T = 1
    · obtain ⟨p, h1, h2, h3⟩ := sq_pos (g := d T) c h.2.2.1
      exact ⟨c + 1, _, sq_ins h hs h1 h2 h3⟩
    · exact ⟨c, e, sq_skip h hs⟩
/-- there is but one such order -/
theorem sq_uniq {st d : Nat → Nat} {T c c' : Nat} {e e' : Nat → Nat} (h : SqOK st d T c e) (h' : SqOK st d T c' e') : c = c' ∧ ∀ r, r < c → e r = e' r := by
  have hc : c = c' := by rw [h.1, h'.1]
  subst hc
  refine ⟨rfl, fun r => ?_⟩
  induction r using Nat.strongRecOn with
  | ind r ih =>
    intro hr
    -- e r = e' q for a q; e' r = e s for an s
    obtain ⟨q, hq, eq⟩ := h'.2.2.2 (e r) (h.2.1 r hr).1 (h.2.1 r hr).2
    obtain ⟨s, hs, es⟩ := h.2.2.2 (e' r) (h'.2.1 r hr).1 (h'.2.1 r hr).2
    have irr : ∀ x, ¬ prc d x x := fun x => by unfold prc; omega
    have asy : ∀ x y, prc d x y → ¬ prc d y x := fun x y => by unfold prc; omega
    rcases Nat.lt_trichotomy q r with z | z | z
    · have h1 := ih q z hq
      have h2 := h.2.2.1 q r z hr
      rw [h1, eq] at h2
      exact absurd h2 (irr _)
    · subst z; exact eq.symm
    · rcases Nat.lt_trichotomy s r with y | y | y
      · have h1 := ih s y hs
        have h2 := h'.2.2.1 s r y hr
        rw [← h1, es] at h2
        exact absurd h2 (irr _)
      · subst y; exact es
      · have h1 := h.2.2.1 r s y hs
        have h2 := h'.2.2.1 r q z hq
        rw [es] at h1
        rw [eq] at h2
        exact absurd h2 (asy _ _ h1)
def sumL (f : Nat → Int64) : Nat → Int64
  | 0 => 0
  | k + 1 => sumL f k + f k
theorem sumL_congr {f g : Nat → Int64} : ∀ {k : Nat}, (∀ i, i < k → f i = g i) → sumL f k = sumL g k
  | 0, _ => rfl
  | k + 1, h => by simp only [sumL]; rw [sumL_congr (fun i hi => h i (by omega)), h k (by omega)]
section NR
variable {A : SA} {B : SB}
/-- the class holds one more -/
theorem w_holdNear {st d : Nat → Nat} {s : Nat → Int32} {T c k : Nat} {e : Nat → Nat} (hq : SqOK st d T c e) (hT : st T = 1) (hd : ∀ i, d i < 10000) (hk : 1 ≤ k) (hk5 : k ≤ 5) (hg : ∀ r, r < min k c → A 19 r = nI (d (e r)) ∧ A 20 r = s (e r)) {Q : Int32 → SA → Prop}
    (h : ∀ (e' : Nat → Nat) (f g : Nat → Int32), SqOK st d (T + 1) (c + 1) e' → (∀ r, r < min k (c + 1) → f r = nI (d (e' r)) ∧ g r = s (e' r)) → Q (nI (min k (c + 1))) (va_up (va_up A 19 f) 20 g)) : wp_X4_holdNear (nI (d T)) (s T) (nI (min k c)) (nI k) A B Q := by
  obtain ⟨p, hp1, hp2, hp3⟩ := sq_pos (g := d T) c hq.2.2.1
  have hins := sq_ins hq hT hp1 hp2 hp3
  have hdT := hd T
  have hmin : min k c ≤ 5 := by omega
  unfold wp_X4_holdNear
  generalize hE : (fun (v5 : Int32) => ((v5 < nI k → ∀ x_9 : Int32, x_9 = (if (nI k - (1 : Int32)) < nI (min k c) then (nI k - (1 : Int32)) else nI (min k c)) → ∃ n_20 : Nat, wp_X4_holdNear_50 (fun (A_21 : SA) => vp_in v5 5 ∧ vp_in v5 5 ∧ Q (x_9 + (1 : Int32)) (u2 (u2 A_21 19 v5.toNatClampNeg (nI (d T))) 20 v5.toNatClampNeg (s T))) Q (nI (d T)) (s T) v5 x_9 B n_20 x_9 A) ∧ (¬ v5 < nI k → Q (nI (min k c)) A))) = E
  refine lp1 (wp_X4_holdNear_3 E Q (nI (d T)) (s T) (nI (min k c)) (nI k) A B) (fun v5 => ∃ a : Nat, a ≤ min k c ∧ v5 = nI a ∧ ∀ r, a ≤ r → r < min k c → d T < d (e r)) (fun v5 => v5.toNatClampNeg) ?_ _ ⟨min k c, Nat.le_refl _, rfl, fun r h1 h2 => by omega⟩
  rintro m v5 ⟨a, ha, rfl, hgt⟩ ih
  have ea : (nI a).toNatClampNeg = a := nI_clamp (by omega)
  have fin : (0 < a → d (e (a - 1)) ≤ d T) → E (nI a) := by
    intro hle
    rw [← hE]
    dsimp only
    refine pk_lt a k (fun q x9 e9 => ?_) (fun q => ?_)
    · -- it goes in, at its own place
      have hap : a = p := by
        rcases Nat.lt_trichotomy a p with z | z | z
        · rcases Nat.lt_or_ge a (min k c) with y | y
          · have h1 := hgt a (Nat.le_refl a) y
            have h2 := hp2 a z
            omega
          · omega
        · exact z
        · have h1 := hle (by omega)
          have h2 := hp3 (a - 1) (by omega) (by omega)
          omega
      subst hap
      have e9' : x9 = nI (min (k - 1) (min k c)) := by
        rw [e9, show nI k - (1 : Int32) = nI (k - 1) from pk_sub (a := k) (b := 1) hk]
        by_cases z : k - 1 < min k c
        · rw [if_pos ((nI_ltI (by omega) (by omega)).mpr z)]; congr 1; omega
        · rw [if_neg (fun y => z ((nI_ltI (by omega) (by omega)).mp y))]; congr 1; omega
      subst e9'
      have elast : min (k - 1) (min k c) + 1 = min k (c + 1) := by omega
      generalize hE2 : (fun (A_21 : SA) => vp_in (nI a) 5 ∧ vp_in (nI a) 5 ∧ Q (nI (min (k - 1) (min k c)) + (1 : Int32)) (u2 (u2 A_21 19 (nI a).toNatClampNeg (nI (d T))) 20 (nI a).toNatClampNeg (s T))) = E2
      refine lp2 (wp_X4_holdNear_50 E2 Q (nI (d T)) (s T) (nI a) _ B) (fun v7 A' => ∃ (b : Nat) (f g : Nat → Int32), a ≤ b ∧ b ≤ min (k - 1) (min k c) ∧ v7 = nI b ∧ A' = va_up (va_up A 19 f) 20 g ∧ (∀ r, r < b → f r = A 19 r ∧ g r = A 20 r) ∧ (b = min (k - 1) (min k c) ∨ (f b = A 19 b ∧ g b = A 20 b)) ∧ ∀ r, b < r → r ≤ min (k - 1) (min k c) → f r = A 19 (r - 1) ∧ g r = A 20 (r - 1)) (fun v7 _ => v7.toNatClampNeg) ?_ _ _
        ⟨min (k - 1) (min k c), A 19, A 20, by omega, Nat.le_refl _, rfl, by rw [va_up_id, va_up_id], fun r _ => ⟨rfl, rfl⟩, Or.inl rfl, fun r h1 h2 => by omega⟩
      rintro m2 v7 A' ⟨b, f, g, hb1, hb2, rfl, rfl, hf1, hf2, hf3⟩ ih2
      have eb : (nI b).toNatClampNeg = b := nI_clamp (by omega)
      refine pk_le b a (fun q2 => ?_) (fun q2 x11 e11 => ?_)
      · have hab : b = a := by omega
        subst hab
        rw [← hE2]
        refine ⟨pk_in b 5 (by omega), pk_in b 5 (by omega), ?_⟩
        rw [eb, nI_1, elast]
        have eA : u2 (u2 (va_up (va_up A 19 f) 20 g) 19 b (nI (d T))) 20 b (s T) = va_up (va_up A 19 (upd f b (nI (d T)))) 20 (upd g b (s T)) := by
          funext x
          by_cases h20 : x = 20
          · subst h20; simp [u2, va_up]
          · by_cases h19 : x = 19
            · subst h19; simp [u2, va_up]
            · simp [u2, va_up, h20, h19]
        rw [eA]
        refine h _ _ _ hins (fun r hr => ?_)
        unfold insN upd
        by_cases r1 : r = b
        · subst r1
          simp
        · simp only [r1, if_false]
          by_cases r2 : r < b
          · simp only [r2, if_true]
            have h1 := hf1 r r2
            have h2 := hg r (by omega)
            exact ⟨h1.1.trans h2.1, h1.2.trans h2.2⟩
          · simp only [r2, if_false]
            have h1 := hf3 r (by omega) (by omega)
            have h2 := hg (r - 1) (by omega)
            exact ⟨h1.1.trans h2.1, h1.2.trans h2.2⟩
      · have e11' : x11 = nI (b - 1) := by rw [e11]; exact pk_sub (a := b) (b := 1) (by omega)
        subst e11'
        have eb1 : (nI (b - 1)).toNatClampNeg = b - 1 := nI_clamp (by omega)
        refine ⟨pk_in (b - 1) 5 (by omega), fun x13 e13 => ⟨pk_in b 5 (by omega), fun x15 e15 => ?_⟩⟩
        have e15' : x15 = nI (b - 1) := by rw [e15]; exact pk_sub (a := b) (b := 1) (by omega)
        subst e15'
        refine ⟨pk_in (b - 1) 5 (by omega), fun x17 e17 => ⟨pk_in b 5 (by omega), fun v7 e7 => ?_⟩⟩
        have e7' : v7 = nI (b - 1) := by rw [e7, ← Int32.sub_eq_add_neg]; exact pk_sub (a := b) (b := 1) (by omega)
        rw [eb1, va_up_ne _ _ (by decide), va_up_self, (hf1 (b - 1) (by omega)).1] at e13
        rw [eb1, va_up_self, (hf1 (b - 1) (by omega)).2] at e17
        rw [eb]
        have eA : u2 (u2 (va_up (va_up A 19 f) 20 g) 19 b x13) 20 b x17 = va_up (va_up A 19 (upd f b x13)) 20 (upd g b x17) := by
          funext x
          by_cases h20 : x = 20
          · subst h20; simp [u2, va_up]
          · by_cases h19 : x = 19
            · subst h19; simp [u2, va_up]
            · simp [u2, va_up, h20, h19]
        rw [eA]
        refine ih2 _ _ ⟨b - 1, _, _, by omega, by omega, e7', rfl, fun r hr => ?_, Or.inr ?_, fun r h1 h2 => ?_⟩ (by rw [e7', eb, eb1]; omega)
        · simp only [upd, show r ≠ b by omega, if_false]; exact hf1 r (by omega)
        · simp only [upd, show b - 1 ≠ b by omega, if_false]; exact hf1 (b - 1) (by omega)
        · by_cases rb : r = b
          · subst rb; simp only [upd, if_true]; exact ⟨e13, e17⟩
          · simp only [upd, rb, if_false]; exact hf3 r (by omega) h2
    · -- all that are held are nearer, and there is no room
      have hak : min k c = k := by omega
      have hpk : k ≤ p := by
        rcases Nat.lt_or_ge p k with z | z
        · have h1 := hle (by omega)
          have h2 := hp3 (a - 1) (by omega) (by omega)
          omega
        · exact z
      have := h _ (A 19) (A 20) hins (fun r hr => by
        have h1 : insN e p T r = e r := by simp [insN, show r < p by omega]
        rw [h1]
        exact hg r (by omega))
      rw [va_up_id, va_up_id, show min k (c + 1) = min k c by omega] at this
      exact this
  refine pk_le a 0 (fun q => fin (by omega)) (fun q x2 e2 => ?_)
  have e2' : x2 = nI (a - 1) := by rw [e2]; exact pk_sub (a := a) (b := 1) (by omega)
  subst e2'
  have ea1 : (nI (a - 1)).toNatClampNeg = a - 1 := nI_clamp (by omega)
  have hde := hd (e (a - 1))
  refine ⟨pk_in (a - 1) 5 (by omega), ?_⟩
  rw [ea1, (hg (a - 1) (by omega)).1]
  refine pk_le (d (e (a - 1))) (d T) (fun z => fin (fun _ => z)) (fun z v5 e5 => ?_)
  have e5' : v5 = nI (a - 1) := by rw [e5, ← Int32.sub_eq_add_neg]; exact pk_sub (a := a) (b := 1) (by omega)
  refine ih _ ⟨a - 1, by omega, e5', fun r h1 h2 => ?_⟩ (by rw [e5', ea, ea1]; omega)
  by_cases hr : r = a - 1
  · subst hr; exact z
  · exact hgt r (by omega) h2
end NR
