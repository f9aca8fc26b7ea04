/-! PURE: what is told, in plain numbers -/
def vw (f : pd_M) (a k : Nat) : Nat := if a = 0 then (f 110 12).toNatClampNeg else if 114 ≤ a ∧ a < 134 then (f a k).toNatClampNeg else 0
def abN (lo hi m : Nat) : Nat := (if m = 3 then 7 else 2 ^ m) * ((8 ^ (hi + 1) - 8 ^ lo) / 7)
def pk4 (a b c d : Nat) : Nat := a + 128 * (b + 128 * (c + 128 * d))
def ab (M : Nat → Nat → Nat) (s : Nat) : Nat := abN (M 124 s) (M 125 s) (M 126 s)
def al (M : Nat → Nat → Nat) (s : Nat) : Nat := if M 127 s = 1 then 268435456 else pk4 (M 129 (4 * s)) (M 129 (4 * s + 1)) (M 129 (4 * s + 2)) (M 129 (4 * s + 3))
def dg (a j : Nat) : Nat := a / 7 ^ j % 7
def en (a : Nat) : Nat := if a = 2401 then 268435456 else pk4 (2 ^ dg a 0) (2 ^ dg a 1) (2 ^ dg a 2) (2 ^ dg a 3)
def sAb (M : Nat → Nat → Nat) (s a m : Nat) : Bool := decide (M 124 s ≤ a ∧ a ≤ M 125 s ∧ (M 126 s = 3 ∨ M 126 s = m))
def sWj (M : Nat → Nat → Nat) (s a : Nat) : Nat := ff (fun j => !(M 129 (4 * s + j)).testBit (dg a j)) 4 0
def sWr (M : Nat → Nat → Nat) (s a : Nat) : Nat := if M 127 s = 1 then (if a = 2401 then 9 else 4) else if a = 2401 then 4 else if sWj M s a = 4 then 9 else sWj M s a
def sRu (M : Nat → Nat → Nat) (a m k : Nat) : Bool := decide (M 117 k ≤ a ∧ a ≤ M 118 k ∧ (M 119 k = 3 ∨ M 119 k = m))
def sAns (M : Nat → Nat → Nat) (e a m : Nat) : Nat := if ff (sRu M a m) (M 116 e) (6 * e) = 6 * e + M 116 e then 2401 else M 120 (ff (sRu M a m) (M 116 e) (6 * e))
def sBk (M : Nat → Nat → Nat) (s e c : Nat) : Bool := sAb M s (c / 3) (c % 3) && decide (sWr M s (sAns M e (c / 3) (c % 3)) ≠ 9)
def sBr (M : Nat → Nat → Nat) (s e : Nat) : Nat := ff (sBk M s e) 24 0
def sKp (M : Nat → Nat → Nat) (s e : Nat) : Bool := decide (sBr M s e = 24)
def sKs (M : Nat → Nat → Nat) (g e i : Nat) : Bool := decide (M 123 i = g) && sKp M i (4 * g + e)
/-- one SAYING, in the class and in the reference -/
def Sy (f : pd_M) (i : Nat) : Prop :=
  (f 121 i = nI (vw f 121 i) ∧ f (48 + i) 0 = nI (vw f 121 i) ∧ vw f 121 i < 4) ∧
  (f 122 i = nI (vw f 122 i) ∧ f (48 + i) 1 = nI (vw f 122 i) ∧ vw f 122 i < 4) ∧
  (f 123 i = nI (vw f 123 i) ∧ f (48 + i) 2 = nI (vw f 123 i) ∧ vw f 123 i < 4) ∧
  (f 124 i = nI (vw f 124 i) ∧ f (48 + i) 3 = nI (vw f 124 i)) ∧
  (f 125 i = nI (vw f 125 i) ∧ f (48 + i) 4 = nI (vw f 125 i) ∧ vw f 124 i ≤ vw f 125 i ∧ vw f 125 i < 8) ∧
  (f 126 i = nI (vw f 126 i) ∧ f (48 + i) 5 = nI (vw f 126 i) ∧ vw f 126 i < 4) ∧
  (f 128 i = nI (vw f 128 i) ∧ f (48 + i) 6 = nI (vw f 128 i) ∧ vw f 128 i < 16) ∧
  (f 127 i = nI (vw f 127 i) ∧ vw f 127 i < 2) ∧
  (∀ j, j < 4 → f 129 (4 * i + j) = nI (vw f 129 (4 * i + j)) ∧ 0 < vw f 129 (4 * i + j) ∧ vw f 129 (4 * i + j) < 128) ∧
  f (48 + i) 7 = nI (ab (vw f) i) ∧ f (48 + i) 8 = nI (al (vw f) i)
/-- the rules of one EDITION in the reference, its answers in the class -/
def Ed (f : pd_M) (e : Nat) : Prop :=
  (f 116 e = nI (vw f 116 e) ∧ vw f 116 e ≤ 6) ∧
  (∀ k, 6 * e ≤ k → k < 6 * e + vw f 116 e → f 117 k = nI (vw f 117 k) ∧ vw f 117 k < 8 ∧ f 118 k = nI (vw f 118 k) ∧ vw f 118 k < 8 ∧ f 119 k = nI (vw f 119 k) ∧ vw f 119 k < 4 ∧ f 120 k = nI (vw f 120 k) ∧ vw f 120 k < 2402) ∧
  ∀ c, c < 24 → f (69 + 2 * e) c = nI (en (sAns (vw f) e (c / 3) (c % 3)))
theorem ab_lt : ∀ lo, lo < 8 → ∀ hi, hi < 8 → ∀ m, m < 4 → abN lo hi m < 16777216 := by decide +kernel
theorem ab_bitN : ∀ lo, lo < 8 → ∀ hi, hi < 8 → lo ≤ hi → ∀ m, m < 4 → ∀ c, c < 24 → (abN lo hi m).testBit c = decide (lo ≤ c / 3 ∧ c / 3 ≤ hi ∧ (m = 3 ∨ m = c % 3)) := by decide +kernel
theorem pk4_lt {a b c d : Nat} (ha : a < 128) (hb : b < 128) (hc : c < 128) (hd : d < 128) : pk4 a b c d < 268435456 := by unfold pk4; omega
theorem pk4_fi {a b c d : Nat} (ha : a < 128) (hb : b < 128) (hc : c < 128) (hd : d < 128) : fi (pk4 a b c d) 0 = a ∧ fi (pk4 a b c d) 1 = b ∧ fi (pk4 a b c d) 2 = c ∧ fi (pk4 a b c d) 3 = d := by
  unfold fi pk4
  simp only [show 2 ^ (7 * 0) = 1 from rfl, show 2 ^ (7 * 1) = 128 from rfl, show 2 ^ (7 * 2) = 16384 from rfl, show 2 ^ (7 * 3) = 2097152 from rfl]
  omega
theorem dg_lt (a j : Nat) : dg a j < 7 := Nat.mod_lt _ (by decide)
theorem p2_lt {d : Nat} (h : d < 7) : 2 ^ d < 128 := Nat.pow_lt_pow_right (by decide) h
theorem en_lt (a : Nat) : en a < 536870912 := by
  unfold en
  split
  · decide
  · have := pk4_lt (p2_lt (dg_lt a 0)) (p2_lt (dg_lt a 1)) (p2_lt (dg_lt a 2)) (p2_lt (dg_lt a 3))
    omega
theorem en_fi {a : Nat} (h : a ≠ 2401) {j : Nat} (hj : j < 4) : fi (en a) j = 2 ^ dg a j := by
  unfold en
  rw [if_neg h]
  have := pk4_fi (p2_lt (dg_lt a 0)) (p2_lt (dg_lt a 1)) (p2_lt (dg_lt a 2)) (p2_lt (dg_lt a 3))
  rcases (by omega : j = 0 ∨ j = 1 ∨ j = 2 ∨ j = 3) with rfl | rfl | rfl | rfl
  · exact this.1
  · exact this.2.1
  · exact this.2.2.1
  · exact this.2.2.2
theorem en_28 (a : Nat) : (en a).testBit 28 = decide (a = 2401) := by
  unfold en
  by_cases h : a = 2401
  · rw [if_pos h, decide_eq_true h]; decide +kernel
  · rw [if_neg h, decide_eq_false h]
    exact Nat.testBit_lt_two_pow (pk4_lt (p2_lt (dg_lt a 0)) (p2_lt (dg_lt a 1)) (p2_lt (dg_lt a 2)) (p2_lt (dg_lt a 3)))
/-- of a SAYING: its four spans are fields -/
def Fo (M : Nat → Nat → Nat) (s : Nat) : Prop := ∀ j, j < 4 → 0 < M 129 (4 * s + j) ∧ M 129 (4 * s + j) < 128
theorem al_lt {M : Nat → Nat → Nat} {s : Nat} (h : Fo M s) : al M s < 536870912 := by
  unfold al
  split
  · decide
  · have := pk4_lt (h 0 (by omega)).2 (h 1 (by omega)).2 (h 2 (by omega)).2 (h 3 (by omega)).2
    rw [Nat.add_zero] at this
    omega
theorem al_fi {M : Nat → Nat → Nat} {s : Nat} (h : Fo M s) {j : Nat} (hj : j < 4) : fi (al M s) j = if M 127 s = 1 then 0 else M 129 (4 * s + j) := by
  unfold al
  split
  · rcases (by omega : j = 0 ∨ j = 1 ∨ j = 2 ∨ j = 3) with rfl | rfl | rfl | rfl <;> decide +kernel
  · have := pk4_fi (h 0 (by omega)).2 (h 1 (by omega)).2 (h 2 (by omega)).2 (h 3 (by omega)).2
    rw [Nat.add_zero] at this
    rcases (by omega : j = 0 ∨ j = 1 ∨ j = 2 ∨ j = 3) with rfl | rfl | rfl | rfl
    · exact this.1
    · exact this.2.1
    · exact this.2.2.1
    · exact this.2.2.2
theorem al_28 {M : Nat → Nat → Nat} {s : Nat} (h : Fo M s) : (al M s).testBit 28 = decide (M 127 s = 1) := by
  unfold al
  by_cases e : M 127 s = 1
  · rw [if_pos e, decide_eq_true e]; decide +kernel
  · rw [if_neg e, decide_eq_false e]
    have := pk4_lt (h 0 (by omega)).2 (h 1 (by omega)).2 (h 2 (by omega)).2 (h 3 (by omega)).2
    rw [Nat.add_zero] at this
    exact Nat.testBit_lt_two_pow this
theorem nd_fi {x y : Nat} (hx : x < 536870912) (j : Nat) : fi (nd x y) j = nd (fi x j) (fi y j) := by
  refine Nat.eq_of_testBit_eq fun v => ?_
  rw [nd_bit (Nat.lt_trans (fi_lt x j) (by decide)), fi_bit, fi_bit, fi_bit, nd_bit (Nat.lt_trans hx (by decide))]
  cases decide (v < 7) <;> simp
theorem sub_fi {x y : Nat} (hx : x < 536870912) : nd x y = 0 ↔ (x.testBit 28 = true → y.testBit 28 = true) ∧ ∀ j, j < 4 → nd (fi x j) (fi y j) = 0 := by
  rw [nd_0 (Nat.lt_trans hx (by decide))]
  constructor
  · intro h
    refine ⟨h 28, fun j hj => ?_⟩
    rw [nd_0 (Nat.lt_trans (fi_lt x j) (by decide))]
    intro k hk
    rw [fi_bit] at hk ⊢
    simp only [Bool.and_eq_true] at hk ⊢
    exact ⟨hk.1, h _ hk.2⟩
  · intro ⟨h1, h2⟩ k hk
    by_cases e : k < 28
    · have a := (nd_0 (Nat.lt_trans (fi_lt x (k / 7)) (by decide))).mp (h2 (k / 7) (by omega)) (k % 7)
      rw [fi_bit, fi_bit, show 7 * (k / 7) + k % 7 = k by omega] at a
      simp only [Bool.and_eq_true, decide_eq_true_eq] at a
      exact (a ⟨by omega, hk⟩).2
    · by_cases e2 : k = 28
      · subst e2; exact h1 hk
      · have := tb_hi (a := x) (k := 29) (i := k) (by omega) (by omega)
        rw [this] at hk
        exact absurd hk (by decide)
theorem nd_one {d y : Nat} (hd : d < 7) : nd (2 ^ d) y = 0 ↔ y.testBit d = true := by
  rw [nd_0 (Nat.lt_trans (p2_lt hd) (by decide))]
  constructor
  · intro h
    exact h d (by rw [Nat.testBit_two_pow]; simp)
  · intro h k hk
    rw [Nat.testBit_two_pow] at hk
    simp only [decide_eq_true_eq] at hk
    rw [← hk]; exact h
theorem nd_zero (y : Nat) : nd 0 y = 0 := (nd_0 (by decide)).mpr fun k hk => by rw [Nat.zero_testBit] at hk; exact absurd hk (by decide)
theorem sWj_4 (M : Nat → Nat → Nat) (s a : Nat) : sWj M s a = 4 ↔ ∀ j, j < 4 → (M 129 (4 * s + j)).testBit (dg a j) = true := by
  unfold sWj
  constructor
  · intro h j hj
    have := ff_no (fun j => !(M 129 (4 * s + j)).testBit (dg a j)) 4 0 j (by omega) (by rw [h]; exact hj)
    simpa using this
  · intro h
    refine ff_is (by omega) (by omega) (fun j _ hj => ?_) (fun z => absurd z (by omega))
    simp [h j hj]
theorem en_al {M : Nat → Nat → Nat} {s : Nat} (h : Fo M s) (a : Nat) : nd (en a) (al M s) = 0 ↔ sWr M s a = 9 := by
  rw [sub_fi (en_lt a), en_28, al_28 h]
  unfold sWr
  by_cases e : M 127 s = 1
  · rw [if_pos e]
    by_cases e2 : a = 2401
    · rw [if_pos e2]
      refine ⟨fun _ => rfl, fun _ => ⟨fun _ => decide_eq_true e, fun j hj => ?_⟩⟩
      subst e2
      rw [show fi (en 2401) j = 0 by rcases (by omega : j = 0 ∨ j = 1 ∨ j = 2 ∨ j = 3) with rfl | rfl | rfl | rfl <;> decide +kernel, nd_zero]
    · rw [if_neg e2]
      refine ⟨fun z => ?_, fun z => absurd z (by decide)⟩
      have := z.2 0 (by omega)
      rw [en_fi e2 (by omega), al_fi h (by omega), if_pos e, nd_one (dg_lt a 0), Nat.zero_testBit] at this
      exact absurd this (by decide)
  · rw [if_neg e]
    by_cases e2 : a = 2401
    · rw [if_pos e2]
      refine ⟨fun z => ?_, fun z => absurd z (by decide)⟩
      have := z.1 (decide_eq_true e2)
      simp [e] at this
    · rw [if_neg e2]
      have key : (∀ j, j < 4 → nd (fi (en a) j) (fi (al M s) j) = 0) ↔ sWj M s a = 4 := by
        rw [sWj_4]
        refine forall_congr' fun j => forall_congr' fun hj => ?_
        rw [en_fi e2 hj, al_fi h hj, if_neg e, nd_one (dg_lt a j)]
      rw [key]
      have h5 := ff_le (fun j => !(M 129 (4 * s + j)).testBit (dg a j)) 4 0
      by_cases e3 : sWj M s a = 4
      · rw [if_pos e3]
        exact ⟨fun _ => rfl, fun _ => ⟨fun z => absurd (of_decide_eq_true z) e2, e3⟩⟩
      · rw [if_neg e3]
        refine ⟨fun z => absurd z.2 e3, fun z => ?_⟩
        unfold sWj at z
        omega
