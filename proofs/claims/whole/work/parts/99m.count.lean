/-! PURE: counts -/
def exB (p : Nat → Bool) : Nat → Bool
  | 0 => false
  | n + 1 => exB p n || p n
theorem exB_iff (p : Nat → Bool) : ∀ n, exB p n = true ↔ ∃ k, k < n ∧ p k = true
  | 0 => ⟨fun h => absurd (show false = true from h) Bool.false_ne_true, fun ⟨k, h, _⟩ => absurd h (by omega)⟩
  | n + 1 => by
    unfold exB
    rw [Bool.or_eq_true, exB_iff p n]
    constructor
    · rintro (⟨k, h1, h2⟩ | h)
      · exact ⟨k, by omega, h2⟩
      · exact ⟨n, by omega, h⟩
    · rintro ⟨k, h1, h2⟩
      by_cases e : k = n
      · subst e; exact Or.inr h2
      · exact Or.inl ⟨k, by omega, h2⟩
theorem q_ushr {x n : Nat} (hx : x < 2 ^ 31) (hn : n < 32) : ((nI x).toUInt32 >>> ((nI n).toUInt32 &&& Int32.toUInt32 31)).toInt32 = nI (x / 2 ^ n) := by
  refine b_ext fun i hi => ?_
  rw [b_ushr n hn, bt_nI, bt_nI, Nat.testBit_div_two_pow, Nat.add_comm n i]
  by_cases h : i + n < 32
  · simp [h, hi]
  · rw [tb_hi hx (show 31 ≤ i + n by omega)]
    simp
theorem and_sp {a0 a1 m0 m1 : Nat} (h1 : a0 < 256) (h2 : m0 < 256) : (a0 + 256 * a1) &&& (m0 + 256 * m1) = (a0 &&& m0) + 256 * (a1 &&& m1) := by
  have hl : a0 &&& m0 < 2 ^ 8 := Nat.lt_of_le_of_lt Nat.and_le_left h1
  have e : ∀ x y : Nat, x < 256 → ∀ i, (x + 256 * y).testBit i = if i < 8 then x.testBit i else y.testBit (i - 8) := by
    intro x y hx i
    have h3 := Nat.testBit_two_pow_mul_add (i := 8) y (show x < 2 ^ 8 from hx) i
    rw [show 2 ^ 8 * y + x = x + 256 * y by omega] at h3
    exact h3
  refine Nat.eq_of_testBit_eq fun i => ?_
  rw [Nat.testBit_and, e _ _ h1, e _ _ h2, e _ _ hl]
  by_cases h : i < 8
  · rw [if_pos h, if_pos h, if_pos h, Nat.testBit_and]
  · rw [if_neg h, if_neg h, if_neg h, Nat.testBit_and]
def bu (b : Nat) : Nat := b - (b / 2 &&& 85)
def bw (b : Nat) : Nat := (b &&& 51) + (b / 4 &&& 51)
def bp (b : Nat) : Nat := (b + b / 16) % 16
theorem bu_ok : ∀ b, b < 256 → b / 2 &&& 85 ≤ b ∧ bu b < 256 ∧ bw (bu b) ≤ 68 ∧ bw (bu b) % 16 ≤ 4 ∧ bp (bw (bu b)) ≤ 8 ∧ bp (bw (bu b)) = fb_ct (fun k => b.testBit k) 8 := by decide +kernel
theorem bu_c : ∀ b, b < 256 → ∀ c, c < 2 → (b / 2 + 128 * c) &&& 85 = b / 2 &&& 85 := by decide +kernel
theorem bw_c : ∀ b, b < 256 → ∀ c, c < 4 → (b / 4 + 64 * c) &&& 51 = b / 4 &&& 51 := by decide +kernel
theorem bp_c {w c : Nat} : (w + w / 16 + 16 * c) &&& 15 = bp w := by
  unfold bp
  rw [show 15 = 2 ^ 4 - 1 from rfl, Nat.and_two_pow_sub_one_eq_mod]
  omega
def bcN (x : Nat) : Nat :=
  let x1 := x - (x / 2 &&& 1431655765)
  let x2 := (x1 &&& 858993459) + (x1 / 4 &&& 858993459)
  let x3 := (x2 + x2 / 16) &&& 252645135
  let x4 := x3 + x3 / 256
  let x5 := x4 + x4 / 65536
  x5 &&& 63
theorem bcN_is {b0 b1 b2 : Nat} (h0 : b0 < 256) (h1 : b1 < 256) (h2 : b2 < 128) : bcN (b0 + 256 * (b1 + 256 * b2)) = bp (bw (bu b0)) + bp (bw (bu b1)) + bp (bw (bu b2)) := by
  obtain ⟨p1, p2, p3, p4, p5, -⟩ := bu_ok b0 h0
  obtain ⟨q1, q2, q3, q4, q5, -⟩ := bu_ok b1 h1
  obtain ⟨r1, r2, r3, r4, r5, -⟩ := bu_ok b2 (by omega)
  have m1 : ∀ a0 a1 a2 : Nat, a0 < 256 → a1 < 256 → a2 < 256 → (a0 + 256 * (a1 + 256 * a2)) &&& 1431655765 = (a0 &&& 85) + 256 * ((a1 &&& 85) + 256 * (a2 &&& 85)) := by
    intro a0 a1 a2 g0 g1 g2
    have z := and_sp (a0 := a2) (a1 := 0) (m0 := 85) (m1 := 85) g2 (by decide)
    rw [Nat.mul_zero, Nat.add_zero, Nat.zero_and, Nat.mul_zero, Nat.add_zero] at z
    rw [show 1431655765 = 85 + 256 * (85 + 256 * (85 + 256 * 85)) from rfl, and_sp g0 (by decide), and_sp g1 (by decide), z, Nat.add_zero]
  have m2 : ∀ a0 a1 a2 : Nat, a0 < 256 → a1 < 256 → a2 < 256 → (a0 + 256 * (a1 + 256 * a2)) &&& 858993459 = (a0 &&& 51) + 256 * ((a1 &&& 51) + 256 * (a2 &&& 51)) := by
    intro a0 a1 a2 g0 g1 g2
    have z := and_sp (a0 := a2) (a1 := 0) (m0 := 51) (m1 := 51) g2 (by decide)
    rw [Nat.mul_zero, Nat.add_zero, Nat.zero_and, Nat.mul_zero, Nat.add_zero] at z
    rw [show 858993459 = 51 + 256 * (51 + 256 * (51 + 256 * 51)) from rfl, and_sp g0 (by decide), and_sp g1 (by decide), z, Nat.add_zero]
  have m3 : ∀ a0 a1 a2 : Nat, a0 < 256 → a1 < 256 → a2 < 256 → (a0 + 256 * (a1 + 256 * a2)) &&& 252645135 = (a0 &&& 15) + 256 * ((a1 &&& 15) + 256 * (a2 &&& 15)) := by
    intro a0 a1 a2 g0 g1 g2
    have z := and_sp (a0 := a2) (a1 := 0) (m0 := 15) (m1 := 15) g2 (by decide)
    rw [Nat.mul_zero, Nat.add_zero, Nat.zero_and, Nat.mul_zero, Nat.add_zero] at z
    rw [show 252645135 = 15 + 256 * (15 + 256 * (15 + 256 * 15)) from rfl, and_sp g0 (by decide), and_sp g1 (by decide), z, Nat.add_zero]
  have e1 : (b0 + 256 * (b1 + 256 * b2)) - ((b0 + 256 * (b1 + 256 * b2)) / 2 &&& 1431655765) = bu b0 + 256 * (bu b1 + 256 * bu b2) := by
    rw [show (b0 + 256 * (b1 + 256 * b2)) / 2 = (b0 / 2 + 128 * (b1 % 2)) + 256 * ((b1 / 2 + 128 * (b2 % 2)) + 256 * (b2 / 2)) by omega, m1 _ _ _ (by omega) (by omega) (by omega), bu_c b0 h0 _ (by omega), bu_c b1 h1 _ (by omega)]
    unfold bu
    omega
  have e2 : ((bu b0 + 256 * (bu b1 + 256 * bu b2)) &&& 858993459) + ((bu b0 + 256 * (bu b1 + 256 * bu b2)) / 4 &&& 858993459) = bw (bu b0) + 256 * (bw (bu b1) + 256 * bw (bu b2)) := by
    rw [show (bu b0 + 256 * (bu b1 + 256 * bu b2)) / 4 = (bu b0 / 4 + 64 * (bu b1 % 4)) + 256 * ((bu b1 / 4 + 64 * (bu b2 % 4)) + 256 * (bu b2 / 4)) by omega, m2 _ _ _ p2 q2 r2, m2 _ _ _ (by omega) (by omega) (by omega), bw_c _ p2 _ (by omega), bw_c _ q2 _ (by omega)]
    unfold bw
    omega
  have e3 : ((bw (bu b0) + 256 * (bw (bu b1) + 256 * bw (bu b2))) + (bw (bu b0) + 256 * (bw (bu b1) + 256 * bw (bu b2))) / 16) &&& 252645135 = bp (bw (bu b0)) + 256 * (bp (bw (bu b1)) + 256 * bp (bw (bu b2))) := by
    rw [show (bw (bu b0) + 256 * (bw (bu b1) + 256 * bw (bu b2))) + (bw (bu b0) + 256 * (bw (bu b1) + 256 * bw (bu b2))) / 16 = (bw (bu b0) + bw (bu b0) / 16 + 16 * (bw (bu b1) % 16)) + 256 * ((bw (bu b1) + bw (bu b1) / 16 + 16 * (bw (bu b2) % 16)) + 256 * (bw (bu b2) + bw (bu b2) / 16 + 16 * 0)) by omega, m3 _ _ _ (by omega) (by omega) (by omega), bp_c, bp_c, bp_c]
  unfold bcN
  simp only [e1, e2, e3]
  generalize bp (bw (bu b0)) = c0 at p5 ⊢
  generalize bp (bw (bu b1)) = c1 at q5 ⊢
  generalize bp (bw (bu b2)) = c2 at r5 ⊢
  rw [show 63 = 2 ^ 6 - 1 from rfl, Nat.and_two_pow_sub_one_eq_mod]
  have w1 : (c0 + 256 * (c1 + 256 * c2)) / 256 = c1 + 256 * c2 := by omega
  rw [w1]
  have w2 : (c0 + 256 * (c1 + 256 * c2) + (c1 + 256 * c2)) / 65536 = c2 := by omega
  rw [w2]
  omega
theorem ct_sp (x : Nat) : fb_ct (fun k => x.testBit k) 24 = fb_ct (fun k => (x % 256).testBit k) 8 + fb_ct (fun k => (x / 256 % 256).testBit k) 8 + fb_ct (fun k => (x / 65536 % 256).testBit k) 8 := by
  have e : ∀ y i, i < 8 → (y % 256).testBit i = y.testBit i := fun y i hi => by
    rw [show 256 = 2 ^ 8 from rfl, Nat.testBit_mod_two_pow, decide_eq_true hi, Bool.true_and]
  rw [show 24 = 8 + 16 from rfl, fb_ct_split, show 16 = 8 + 8 from rfl, fb_ct_split (fun k => x.testBit (8 + k)) 8 8, ← Nat.add_assoc]
  congr 1
  · congr 1
    · exact fb_ct_cong fun k hk => (e x k hk).symm
    · exact fb_ct_cong fun k hk => by
        rw [e _ k hk, show 256 = 2 ^ 8 from rfl, Nat.testBit_div_two_pow, Nat.add_comm]
  · exact fb_ct_cong fun k hk => by
      rw [e _ k hk, show 65536 = 2 ^ 16 from rfl, Nat.testBit_div_two_pow, show 8 + (8 + k) = k + 16 by omega]
theorem q_bcN {x : Nat} (hx : x < 2 ^ 23) : fn_J6_bitCount_0f7a4 (nI x) = nI (fb_ct (fun k => x.testBit k) 24) := by
  have hb : bcN x = fb_ct (fun k => x.testBit k) 24 := by
    have := bcN_is (b0 := x % 256) (b1 := x / 256 % 256) (b2 := x / 65536) (by omega) (by omega) (by omega)
    rw [show x % 256 + 256 * (x / 256 % 256 + 256 * (x / 65536)) = x by omega] at this
    rw [this, ct_sp, show x / 65536 % 256 = x / 65536 by omega, (bu_ok _ (show x % 256 < 256 by omega)).2.2.2.2.2, (bu_ok _ (show x / 256 % 256 < 256 by omega)).2.2.2.2.2, (bu_ok _ (show x / 65536 < 256 by omega)).2.2.2.2.2]
  rw [← hb]
  unfold fn_J6_bitCount_0f7a4 bcN
  simp only [pn]
  have u1 : ((nI x).toUInt32 >>> ((1 : Int32).toUInt32 &&& Int32.toUInt32 31)).toInt32 = nI (x / 2) := q_ushr (n := 1) (by omega) (by omega)
  have a1 : x / 2 &&& 1431655765 ≤ x / 2 := Nat.and_le_left
  rw [u1, show (1431655765 : Int32) = nI 1431655765 from rfl, fa_and, pk_sub (by omega)]
  generalize hx1 : x - (x / 2 &&& 1431655765) = x1
  have u2 : ((nI x1).toUInt32 >>> ((2 : Int32).toUInt32 &&& Int32.toUInt32 31)).toInt32 = nI (x1 / 4) := q_ushr (n := 2) (by omega) (by omega)
  have a2 : x1 &&& 858993459 ≤ x1 := Nat.and_le_left
  have a3 : x1 / 4 &&& 858993459 ≤ x1 / 4 := Nat.and_le_left
  rw [u2, show (858993459 : Int32) = nI 858993459 from rfl, fa_and, fa_and, nI_add]
  generalize hx2 : (x1 &&& 858993459) + (x1 / 4 &&& 858993459) = x2
  have u3 : ((nI x2).toUInt32 >>> ((4 : Int32).toUInt32 &&& Int32.toUInt32 31)).toInt32 = nI (x2 / 16) := q_ushr (n := 4) (by omega) (by omega)
  have a4 : (x2 + x2 / 16) &&& 252645135 ≤ x2 + x2 / 16 := Nat.and_le_left
  rw [u3, show (252645135 : Int32) = nI 252645135 from rfl, nI_add, fa_and]
  generalize hx3 : (x2 + x2 / 16) &&& 252645135 = x3 at a4 ⊢
  have u4 : ((nI x3).toUInt32 >>> ((8 : Int32).toUInt32 &&& Int32.toUInt32 31)).toInt32 = nI (x3 / 256) := q_ushr (n := 8) (by omega) (by omega)
  rw [u4, nI_add]
  have u5 : ((nI (x3 + x3 / 256)).toUInt32 >>> ((16 : Int32).toUInt32 &&& Int32.toUInt32 31)).toInt32 = nI ((x3 + x3 / 256) / 65536) := q_ushr (n := 16) (by omega) (by omega)
  rw [u5, nI_add, show (63 : Int32) = nI 63 from rfl, fa_and]
/-! the loops of count -/
theorem lc_sheets {f : pd_M} (hS : SSh f) : ∀ (r n n' k c : Nat), k + r = 8 → r < n → r < n' → ∃ v, lp_X8_countSheets_4 n (nI c) (nI k) f = some v ∧ lp_X9_count_50 n' (nI c) (nI k) (pi_up f 110 0 0) = some v := by
  intro r
  induction r with
  | zero =>
    intro n n' k c h1 h2 h3
    obtain ⟨n, rfl⟩ : ∃ k, n = k + 1 := ⟨n - 1, by omega⟩
    obtain ⟨n', rfl⟩ : ∃ k, n' = k + 1 := ⟨n' - 1, by omega⟩
    refine ⟨nI c, ?_, ?_⟩
    · unfold lp_X8_countSheets_4
      simp (disch := omega) only [l8, ly, show 8 ≤ k by omega, if_true, if_false, ↓reduceIte, Bool.false_eq_true, reduceCtorEq]
    · unfold lp_X9_count_50
      simp (disch := omega) only [l8, ly, show 8 ≤ k by omega, if_true, if_false, ↓reduceIte, Bool.false_eq_true, reduceCtorEq]
  | succ r ih =>
    intro n n' k c h1 h2 h3
    obtain ⟨n, rfl⟩ : ∃ k, n = k + 1 := ⟨n - 1, by omega⟩
    obtain ⟨n', rfl⟩ : ∃ k, n' = k + 1 := ⟨n' - 1, by omega⟩
    unfold lp_X8_countSheets_4 lp_X9_count_50
    rcases (hS k (by omega)).1 with ⟨a1, a2, a3⟩ | ⟨a1, a3⟩
    · have hl : ¬ f 111 k < 0 := by rw [a3]; rcases a2 with z | z | z <;> rw [z] <;> decide
      have h10 : ¬ f (19 + 2 * k) 1 = 0 := by rw [a1]; decide
      obtain ⟨v, e1, e2⟩ := ih n n' (k + 1) (c + 1) (by omega) (by omega) (by omega)
      refine ⟨v, ?_, ?_⟩
      · simp (disch := omega) only [l8, ly, show ¬ 8 ≤ k by omega, zp, nI_clamp, h10, pn, nI_1, o1s, if_true, if_false, ↓reduceIte, Bool.false_eq_true, reduceCtorEq]
        exact e1
      · simp (disch := omega) only [l8, ly, show ¬ 8 ≤ k by omega, zp, nI_clamp, pu_n, hl, pn, nI_1, o1s, if_true, if_false, ↓reduceIte, Bool.false_eq_true, reduceCtorEq]
        exact e2
    · have hl : f 111 k < 0 := by rw [a3]; decide
      obtain ⟨v, e1, e2⟩ := ih n n' (k + 1) c (by omega) (by omega) (by omega)
      refine ⟨v, ?_, ?_⟩
      · simp (disch := omega) only [l8, ly, show ¬ 8 ≤ k by omega, zp, nI_clamp, a1, pn, nI_1, o1s, if_true, if_false, ↓reduceIte, Bool.false_eq_true, reduceCtorEq]
        exact e1
      · simp (disch := omega) only [l8, ly, show ¬ 8 ≤ k by omega, zp, nI_clamp, pu_n, hl, pn, nI_1, o1s, Int32.add_zero, if_true, if_false, ↓reduceIte, Bool.false_eq_true, reduceCtorEq]
        exact e2
theorem lc_within {f : pd_M} (hT : Td f) : ∀ (r n n' k c : Nat), k + r = 4 → r < n → r < n' → ∃ v, lp_X7_countWithin_4 n (nI c) (nI k) f = some v ∧ lp_X9_count_150 n' (nI c) (nI k) (pi_up f 110 0 0) = some v := by
  intro r
  induction r with
  | zero =>
    intro n n' k c h1 h2 h3
    obtain ⟨n, rfl⟩ : ∃ k, n = k + 1 := ⟨n - 1, by omega⟩
    obtain ⟨n', rfl⟩ : ∃ k, n' = k + 1 := ⟨n' - 1, by omega⟩
    refine ⟨nI c, ?_, ?_⟩
    · unfold lp_X7_countWithin_4
      simp (disch := omega) only [l4, ly, show 4 ≤ k by omega, if_true, if_false, ↓reduceIte, Bool.false_eq_true, reduceCtorEq]
    · unfold lp_X9_count_150
      simp (disch := omega) only [l4, ly, show 4 ≤ k by omega, if_true, if_false, ↓reduceIte, Bool.false_eq_true, reduceCtorEq]
  | succ r ih =>
    intro n n' k c h1 h2 h3
    obtain ⟨n, rfl⟩ : ∃ k, n = k + 1 := ⟨n - 1, by omega⟩
    obtain ⟨n', rfl⟩ : ∃ k, n' = k + 1 := ⟨n' - 1, by omega⟩
    have a1 := (hT.2.2.2.2.2.2.2 k (by omega)).1
    unfold lp_X7_countWithin_4 lp_X9_count_150
    by_cases hl : f 132 k = -1000000
    · obtain ⟨v, e1, e2⟩ := ih n n' (k + 1) c (by omega) (by omega) (by omega)
      refine ⟨v, ?_, ?_⟩
      · simp (disch := omega) only [l4, ly, show ¬ 4 ≤ k by omega, zp, nI_clamp, a1, hl, pn, nI_1, o1s, if_true, if_false, ↓reduceIte, Bool.false_eq_true, reduceCtorEq]
        exact e1
      · simp (disch := omega) only [l4, ly, show ¬ 4 ≤ k by omega, zp, nI_clamp, pu_n, hl, pn, nI_1, o1s, Int32.add_zero, if_true, if_false, ↓reduceIte, Bool.false_eq_true, reduceCtorEq]
        exact e2
    · obtain ⟨v, e1, e2⟩ := ih n n' (k + 1) (c + 1) (by omega) (by omega) (by omega)
      refine ⟨v, ?_, ?_⟩
      · simp (disch := omega) only [l4, ly, show ¬ 4 ≤ k by omega, zp, nI_clamp, a1, hl, pn, nI_1, o1s, if_true, if_false, ↓reduceIte, Bool.false_eq_true, reduceCtorEq]
        exact e1
      · simp (disch := omega) only [l4, ly, show ¬ 4 ≤ k by omega, zp, nI_clamp, pu_n, hl, pn, nI_1, o1s, if_true, if_false, ↓reduceIte, Bool.false_eq_true, reduceCtorEq]
        exact e2
theorem lc_eds {f : pd_M} {e : Nat → Nat} (h : ∀ s, s < 4 → f 41 s = nI (e s)) (n : Nat) : lp_X7_countEditions_4 (n + 5) (nI 0) (nI 0) f = some (nI (e 0 + e 1 + e 2 + e 3)) := by
  simp (disch := omega) only [lp_X7_countEditions_4, l4, ly, zp, nI_clamp, h, pn, nI_1, nI_add, Nat.zero_add, Nat.reduceAdd, Nat.reduceLeDiff, if_true, if_false, ↓reduceIte, Bool.false_eq_true, reduceCtorEq]
/-- SAYINGS that some EDITION keeps -/
def kS (M : Nat → Nat → Nat) (i : Nat) : Bool := exB (fun e => sKp M i (4 * M 123 i + e)) (M 114 (M 123 i))
theorem lk_11 {f : pd_M} (hT : Td f) {s : Nat} (hs : s < 4) : ∀ (r n e K : Nat), e + r = vw f 114 s → r < n → ∃ K', lp_X7_countKept_11 n (nI K) (nI s) (nI e) f = some (nI K') ∧ ∀ i, K'.testBit i = true ↔ (K.testBit i = true ∨ ∃ x, e ≤ x ∧ x < vw f 114 s ∧ i < vw f 0 0 ∧ sKs (vw f) s x i = true) := by
  obtain ⟨-, e2, h4⟩ := hT.2.1 s hs
  intro r
  induction r with
  | zero =>
    intro n e K h1 h2
    obtain ⟨n, rfl⟩ : ∃ k, n = k + 1 := ⟨n - 1, by omega⟩
    refine ⟨K, ?_, fun i => ⟨Or.inl, ?_⟩⟩
    · unfold lp_X7_countKept_11
      simp (disch := omega) only [zp, nI_clamp, e2, ly, show vw f 114 s ≤ e by omega, if_true, if_false, ↓reduceIte, Bool.false_eq_true, reduceCtorEq]
    · rintro (h | ⟨x, q1, q2, -⟩)
      · exact h
      · omega
  | succ r ih =>
    intro n e K h1 h2
    obtain ⟨n, rfl⟩ : ∃ k, n = k + 1 := ⟨n - 1, by omega⟩
    have hk := hT.2.2.2.2.1 s hs e (by omega)
    obtain ⟨K', a1, a2⟩ := ih n (e + 1) (K ||| orF (sKs (vw f) s e) (vw f 0 0)) (by omega) (by omega)
    refine ⟨K', ?_, fun i => ?_⟩
    · unfold lp_X7_countKept_11
      simp (disch := omega) only [zp, nI_clamp, e2, ly, show ¬ vw f 114 s ≤ e by omega, c_edOf, o1s, hk, fa_or, pn, nI_1, if_true, if_false, ↓reduceIte, Bool.false_eq_true, reduceCtorEq]
      exact a1
    · rw [a2 i, Nat.testBit_or, orF_bit]
      simp only [Bool.or_eq_true, Bool.and_eq_true, decide_eq_true_eq]
      constructor
      · rintro ((h | ⟨h, h'⟩) | ⟨x, q1, q2, q3⟩)
        · exact Or.inl h
        · exact Or.inr ⟨e, by omega, by omega, h, h'⟩
        · exact Or.inr ⟨x, by omega, q2, q3⟩
      · rintro (h | ⟨x, q1, q2, q3, q4⟩)
        · exact Or.inl (Or.inl h)
        · by_cases z : x = e
          · subst z; exact Or.inl (Or.inr ⟨q3, q4⟩)
          · exact Or.inr ⟨x, by omega, q2, q3, q4⟩
theorem lk_4 {f : pd_M} (hT : Td f) : ∀ (r n s K : Nat), s + r = 4 → r < n → ∃ K', lp_X7_countKept_4 n (nI K) (nI s) f = some (nI K') ∧ ∀ i, K'.testBit i = true ↔ (K.testBit i = true ∨ ∃ g x, s ≤ g ∧ g < 4 ∧ x < vw f 114 g ∧ i < vw f 0 0 ∧ sKs (vw f) g x i = true) := by
  intro r
  induction r with
  | zero =>
    intro n s K h1 h2
    obtain ⟨n, rfl⟩ : ∃ k, n = k + 1 := ⟨n - 1, by omega⟩
    refine ⟨K, ?_, fun i => ⟨Or.inl, ?_⟩⟩
    · unfold lp_X7_countKept_4
      simp (disch := omega) only [l4, ly, show 4 ≤ s by omega, if_true, if_false, ↓reduceIte, Bool.false_eq_true, reduceCtorEq]
    · rintro (h | ⟨g, x, q1, q2, -⟩)
      · exact h
      · omega
  | succ r ih =>
    intro n s K h1 h2
    obtain ⟨n, rfl⟩ : ∃ k, n = k + 1 := ⟨n - 1, by omega⟩
    have h4 := (hT.2.1 s (by omega)).2.2
    obtain ⟨K1, b1, b2⟩ := lk_11 hT (show s < 4 by omega) (vw f 114 s) 5000 0 K (by omega) (by omega)
    have b1 : lp_X7_countKept_11 5000 (nI K) (nI s) 0 f = some (nI K1) := b1
    obtain ⟨K', a1, a2⟩ := ih n (s + 1) K1 (by omega) (by omega)
    refine ⟨K', ?_, fun i => ?_⟩
    · unfold lp_X7_countKept_4
      simp (disch := omega) only [l4, ly, show ¬ 4 ≤ s by omega, b1, o1s, pn, nI_1, if_true, if_false, ↓reduceIte, Bool.false_eq_true, reduceCtorEq]
      exact a1
    · rw [a2 i, b2 i]
      constructor
      · rintro ((h | ⟨x, q1, q2, q3, q4⟩) | ⟨g, x, q1, q2⟩)
        · exact Or.inl h
        · exact Or.inr ⟨s, x, by omega, by omega, q2, q3, q4⟩
        · exact Or.inr ⟨g, x, by omega, q2⟩
      · rintro (h | ⟨g, x, q1, q2, q3, q4⟩)
        · exact Or.inl (Or.inl h)
        · by_cases z : g = s
          · subst z; exact Or.inl (Or.inr ⟨x, by omega, q3, q4⟩)
          · exact Or.inr ⟨g, x, by omega, q2, q3, q4⟩
theorem c_countKept {f : pd_M} (hT : Td f) : fn_X7_countKept f = some (nI (fb_ct (kS (vw f)) (vw f 0 0))) := by
  have hN := hT.1.2.2
  obtain ⟨K, k1, k2⟩ := lk_4 hT 4 5000 0 0 (by omega) (by omega)
  have k1 : lp_X7_countKept_4 5000 0 0 f = some (nI K) := k1
  have eK : K = orF (kS (vw f)) (vw f 0 0) := by
    refine Nat.eq_of_testBit_eq fun i => ?_
    rw [orF_bit, Bool.eq_iff_iff, k2 i, Bool.and_eq_true, decide_eq_true_eq]
    unfold kS
    rw [exB_iff, Nat.zero_testBit]
    constructor
    · rintro (h | ⟨g, x, q1, q2, q3, q4, q5⟩)
      · exact absurd h (by decide)
      · unfold sKs at q5
        rw [Bool.and_eq_true, decide_eq_true_eq] at q5
        obtain ⟨rfl, q6⟩ := q5
        exact ⟨q4, x, q3, q6⟩
    · rintro ⟨h, x, q1, q2⟩
      have h3 := (hT.2.2.1 i h).2.2.1.2.2
      refine Or.inr ⟨vw f 123 i, x, by omega, h3, q1, h, ?_⟩
      unfold sKs
      rw [decide_eq_true rfl, Bool.true_and]
      exact q2
  have hl := orF_lt (kS (vw f)) (vw f 0 0)
  have hl2 : 2 ^ vw f 0 0 ≤ 2 ^ 20 := Nat.pow_le_pow_right (by decide) hN
  unfold fn_X7_countKept
  rw [k1, o1s, eK, q_bcN (by omega)]
  congr 2
  have s1 : fb_ct (fun k => (orF (kS (vw f)) (vw f 0 0)).testBit k) (vw f 0 0) = fb_ct (kS (vw f)) (vw f 0 0) := fb_ct_cong (fun k hk => by rw [orF_bit, decide_eq_true hk, Bool.true_and])
  have s2 : fb_ct (fun k => (orF (kS (vw f)) (vw f 0 0)).testBit (vw f 0 0 + k)) (24 - vw f 0 0) = 0 := fb_ct_zero.mpr (fun k hk => by rw [orF_bit, decide_eq_false (by omega), Bool.false_and])
  have s3 := fb_ct_split (fun k => (orF (kS (vw f)) (vw f 0 0)).testBit k) (vw f 0 0) (24 - vw f 0 0)
  rw [show vw f 0 0 + (24 - vw f 0 0) = 24 by omega, s1, s2, Nat.add_zero] at s3
  exact s3
theorem lm_some {f : pd_M} (hT : Td f) {i : Nat} (hi : i < vw f 0 0) : ∀ (r n e : Nat), e + r = vw f 114 (vw f 123 i) → r < n → lp_X9_isKeptBySome_4 n (nI i) (if exB (fun e => sKp (vw f) i (4 * vw f 123 i + e)) e = true then 1 else 0) (nI e) f = some (if kS (vw f) i = true then 1 else 0) := by
  have hN := hT.1.2.2
  have hy := hT.2.2.1 i hi
  obtain ⟨c1, -, c3⟩ := hy.2.2.1
  obtain ⟨e1, -, h4⟩ := hT.2.1 _ c3
  intro r
  induction r with
  | zero =>
    intro n e h1 h2
    obtain ⟨n, rfl⟩ : ∃ k, n = k + 1 := ⟨n - 1, by omega⟩
    unfold lp_X9_isKeptBySome_4 kS
    simp (disch := omega) only [zp, nI_clamp, c1, e1, ly, show vw f 114 (vw f 123 i) ≤ e by omega, if_true, if_false, ↓reduceIte, Bool.false_eq_true, reduceCtorEq]
    rw [show e = vw f 114 (vw f 123 i) by omega]
  | succ r ih =>
    intro n e h1 h2
    obtain ⟨n, rfl⟩ : ∃ k, n = k + 1 := ⟨n - 1, by omega⟩
    have hk := m_isKept (e := e) (show i < 20 by omega) hy (by omega) (hT.2.2.2.1 _ c3 e (by omega))
    have hi := ih n (e + 1) (by omega) (by omega)
    rw [show exB (fun e => sKp (vw f) i (4 * vw f 123 i + e)) (e + 1) = (exB (fun e => sKp (vw f) i (4 * vw f 123 i + e)) e || sKp (vw f) i (4 * vw f 123 i + e)) from rfl] at hi
    unfold lp_X9_isKeptBySome_4
    simp (disch := omega) only [zp, nI_clamp, c1, e1, ly, show ¬ vw f 114 (vw f 123 i) ≤ e by omega, hk, o1s, pn, nI_1, if_true, if_false, ↓reduceIte, Bool.false_eq_true, reduceCtorEq]
    cases hx : exB (fun e => sKp (vw f) i (4 * vw f 123 i + e)) e
    · cases hq : sKp (vw f) i (4 * vw f 123 i + e)
      · rw [hx, hq] at hi
        simpa [o1s] using hi
      · rw [hx, hq] at hi
        simpa [o1s] using hi
    · rw [hx] at hi
      simpa [o1s] using hi
theorem m_some {f : pd_M} (hT : Td f) {i : Nat} (hi : i < vw f 0 0) : fn_X9_isKeptBySome (nI i) f = some (if kS (vw f) i = true then 1 else 0) := by
  have h4 := (hT.2.1 _ (hT.2.2.1 i hi).2.2.1.2.2).2.2
  have h := lm_some hT hi (vw f 114 (vw f 123 i)) 5000 0 (by omega) (by omega)
  have h : lp_X9_isKeptBySome_4 5000 (nI i) 0 0 f = some (if kS (vw f) i = true then 1 else 0) := h
  unfold fn_X9_isKeptBySome
  rw [h, o1s]
  cases kS (vw f) i <;> rfl
theorem lm_116 {f : pd_M} (hT : Td f) : ∀ (r n i : Nat), i + r = vw f 0 0 → r < n → lp_X9_count_116 n (nI (fb_ct (kS (vw f)) i)) (nI i) f = some (nI (fb_ct (kS (vw f)) (vw f 0 0))) := by
  have hN := hT.1.2.2
  have n1 := hT.1.1
  intro r
  induction r with
  | zero =>
    intro n i h1 h2
    obtain ⟨n, rfl⟩ : ∃ k, n = k + 1 := ⟨n - 1, by omega⟩
    unfold lp_X9_count_116
    simp (disch := omega) only [n1, ly, show vw f 0 0 ≤ i by omega, if_true, if_false, ↓reduceIte, Bool.false_eq_true, reduceCtorEq]
    rw [show i = vw f 0 0 by omega]
  | succ r ih =>
    intro n i h1 h2
    obtain ⟨n, rfl⟩ : ∃ k, n = k + 1 := ⟨n - 1, by omega⟩
    have hi := ih n (i + 1) (by omega) (by omega)
    have hm := m_some hT (show i < vw f 0 0 by omega)
    rw [fb_ct_succ] at hi
    unfold lp_X9_count_116
    simp (disch := omega) only [n1, ly, show ¬ vw f 0 0 ≤ i by omega, hm, o1s, pn, nI_1, if_true, if_false, ↓reduceIte, Bool.false_eq_true, reduceCtorEq]
    cases hk : kS (vw f) i
    · rw [hk] at hi
      simpa [o1s] using hi
    · rw [hk] at hi
      simpa [o1s, nI_1] using hi
theorem op_count {f : pd_M} (hT : Td f) (hS : SSh f) (hTa : Ta f) (p : Int32) : OpR (fn_X8_count p f) (fn_X9_count p f) f := by
  have hz := FrT_zz f
  have hG := Td_fr hz hT
  by_cases p0 : p = 0
  · obtain ⟨v, a1, a2⟩ := lc_sheets hS 8 5000 5000 0 0 (by omega) (by omega) (by omega)
    have a1 : lp_X8_countSheets_4 5000 0 0 f = some v := a1
    have a2 : lp_X9_count_50 5000 0 0 (pi_up f 110 0 0) = some v := a2
    refine ⟨v, ?_, ?_⟩
    · unfold fn_X8_count fn_X8_countSheets
      rw [if_pos p0, a1]
      rfl
    · unfold fn_X9_count
      simp only [pn]
      rw [if_pos p0, a2, o1s]
  by_cases p1 : p = 1
  · have a1 := lc_eds (f := f) (e := vw f 114) (fun s hs => (hT.2.1 s hs).2.1) 4995
    have a1 : lp_X7_countEditions_4 5000 0 0 f = _ := a1
    refine ⟨nI (vw f 114 0 + vw f 114 1 + vw f 114 2 + vw f 114 3), ?_, ?_⟩
    rotate_left
    · unfold fn_X9_count
      simp (disch := omega) only [pn, pu_n]
      rw [if_neg p0, if_pos p1, (hT.2.1 0 (by omega)).1, (hT.2.1 1 (by omega)).1, (hT.2.1 2 (by omega)).1, (hT.2.1 3 (by omega)).1, nI_add, nI_add, nI_add]
    · unfold fn_X8_count fn_X7_countEditions
      rw [if_neg p0, if_pos p1, a1]
      rfl
  by_cases p2 : p = 2
  · refine ⟨nI (vw f 0 0), ?_, ?_⟩
    · unfold fn_X8_count
      rw [if_neg p0, if_neg p1, if_pos p2, hT.1.2.1]
    · unfold fn_X9_count
      simp (disch := omega) only [pn, pu_n]
      rw [if_neg p0, if_neg p1, if_pos p2, hT.1.1]
  by_cases p3 : p = 3
  · have a2 := lm_116 hG (vw (pi_up f 110 0 0) 0 0) 5000 0 (by omega) (by have := hG.1.2.2; omega)
    rw [vw_fr hz] at a2
    have a2 : lp_X9_count_116 5000 0 0 (pi_up f 110 0 0) = some (nI (fb_ct (kS (vw f)) (vw f 0 0))) := a2
    refine ⟨nI (fb_ct (kS (vw f)) (vw f 0 0)), ?_, ?_⟩
    · unfold fn_X8_count
      rw [if_neg p0, if_neg p1, if_neg p2, if_pos p3, c_countKept hT, o1s]
    · unfold fn_X9_count
      simp only [pn]
      rw [if_neg p0, if_neg p1, if_neg p2, if_pos p3, a2, o1s]
  by_cases p4 : p = 4
  · obtain ⟨v, a1, a2⟩ := lc_within hT 4 5000 5000 0 0 (by omega) (by omega) (by omega)
    have a1 : lp_X7_countWithin_4 5000 0 0 f = some v := a1
    have a2 : lp_X9_count_150 5000 0 0 (pi_up f 110 0 0) = some v := a2
    refine ⟨v, ?_, ?_⟩
    · unfold fn_X8_count fn_X7_countWithin
      rw [if_neg p0, if_neg p1, if_neg p2, if_neg p3, if_pos p4, a1]
      rfl
    · unfold fn_X9_count
      simp only [pn]
      rw [if_neg p0, if_neg p1, if_neg p2, if_neg p3, if_pos p4, a2, o1s]
  by_cases p5 : p = 5
  · obtain ⟨L, hL, t1, t2, -⟩ := hTa
    refine ⟨nI L, ?_, ?_⟩
    · unfold fn_X8_count
      rw [if_neg p0, if_neg p1, if_neg p2, if_neg p3, if_neg p4, if_pos p5, t1]
    · unfold fn_X9_count
      simp (disch := omega) only [pn, pu_n]
      rw [if_neg p0, if_neg p1, if_neg p2, if_neg p3, if_neg p4, if_pos p5, t2]
  · refine ⟨-1000001, ?_, ?_⟩
    · unfold fn_X8_count
      rw [if_neg p0, if_neg p1, if_neg p2, if_neg p3, if_neg p4, if_neg p5]
    · unfold fn_X9_count
      simp only [pn]
      rw [if_neg p0, if_neg p1, if_neg p2, if_neg p3, if_neg p4, if_neg p5]
