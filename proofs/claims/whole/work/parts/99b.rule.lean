/-! PURE: one rule of an EDITION -/
theorem sk_ans {e : Nat} (h : e < 16) : sk (69 + 2 * e) = (0, 24) := by
  have : ∀ e, e < 16 → sk (69 + 2 * e) = (0, 24) := by decide +kernel
  exact this e h
theorem vw_of {d : pd_M} {a k n : Nat} (h : d a k = nI n) (hn : n < 2 ^ 31) (ha : 114 ≤ a ∧ a < 134) : vw d a k = n := by
  unfold vw
  rw [if_neg (by omega), if_pos ha, h, nI_clamp hn]
theorem vw_eq {d d' : pd_M} {a k : Nat} (h : d' a k = d a k) (ha : a ≠ 0) : vw d' a k = vw d a k := by
  unfold vw
  rw [if_neg ha, if_neg ha, h]
/-- cases of a span -/
def orc (v : Nat) : Nat → Nat → Nat → Nat
  | z, _, 0 => z
  | z, lo, r + 1 => orc v (z ||| v * 2 ^ (3 * lo)) (lo + 1) r
theorem orc_ab : ∀ lo, lo < 8 → ∀ hi, hi < 8 → lo ≤ hi → ∀ m, m < 4 → orc (if m = 3 then 7 else 2 ^ m) 0 lo (hi + 1 - lo) = abN lo hi m := by decide +kernel
theorem lc_20 {c : pd_M} {hi v : Nat} (hh : hi < 8) : ∀ (r n z lo : Nat), lo + r = hi + 1 → r < n → lp_X8_casesOf_20 n (nI hi) (nI v) (nI z) (nI lo) c = some (nI (orc v z lo r)) := by
  intro r
  induction r with
  | zero =>
    intro n z lo h1 h2
    obtain ⟨n, rfl⟩ : ∃ k, n = k + 1 := ⟨n - 1, by omega⟩
    unfold lp_X8_casesOf_20 orc
    simp (disch := omega) only [lt_, show hi < lo by omega, if_true, if_false, ↓reduceIte, Bool.false_eq_true, reduceCtorEq]
  | succ r ih =>
    intro n z lo h1 h2
    obtain ⟨n, rfl⟩ : ∃ k, n = k + 1 := ⟨n - 1, by omega⟩
    unfold lp_X8_casesOf_20 orc
    simp (disch := omega) only [lt_, show ¬ hi < lo by omega, l3, pk_mul, q_shl, fa_or, pn, nI_1, if_true, if_false, ↓reduceIte, Bool.false_eq_true, reduceCtorEq]
    exact ih n _ (lo + 1) (by omega) (by omega)
theorem c_casesOf {c : pd_M} {lo hi mo : Nat} (h1 : lo ≤ hi) (h2 : hi < 8) (h3 : mo < 4) : fn_X8_casesOf (nI lo) (nI hi) (nI mo) c = some (nI (abN lo hi mo)) := by
  unfold fn_X8_casesOf
  have e : (if nI mo = 3 then some (7 : Int32) else some ((1 : Int32) <<< (nI mo &&& 31))) = some (nI (if mo = 3 then 7 else 2 ^ mo)) := by
    simp (disch := omega) only [l3, lq, q_1shl]
    split <;> rfl
  rw [e]
  simp only [o1s]
  rw [show lp_X8_casesOf_20 5000 (nI hi) (nI (if mo = 3 then 7 else 2 ^ mo)) 0 (nI lo) c = _ from lc_20 h2 (hi + 1 - lo) 5000 0 lo (by omega) (by omega), orc_ab lo (by omega) hi h2 h1 mo h3]
  rfl
/-- cases without an answer get one -/
theorem la_2 {e : Nat} (he : e < 16) {cs : Nat} (hc : cs < 16777216) (g : Int32) : ∀ (r n j : Nat) (c : pd_M), j + r = 24 → r < n → ∃ c', lp_X3_answerBy_2 n (69 + 2 * e) (nI cs) g (nI j) c = some c' ∧ (∀ a k, ¬ (a = 69 + 2 * e ∧ j ≤ k ∧ k < 24) → c' a k = c a k) ∧ ∀ k, j ≤ k → k < 24 → c' (69 + 2 * e) k = if cs.testBit k = true ∧ c (69 + 2 * e) k = 0 then g else c (69 + 2 * e) k := by
  intro r
  induction r with
  | zero =>
    intro n j c h1 h2
    obtain ⟨n, rfl⟩ : ∃ k, n = k + 1 := ⟨n - 1, by omega⟩
    refine ⟨c, ?_, fun _ _ _ => rfl, fun k h3 h4 => absurd h4 (by omega)⟩
    unfold lp_X3_answerBy_2
    simp (disch := omega) only [sk_ans he, l24, ly, show 24 ≤ j by omega, if_true, if_false, ↓reduceIte, Bool.false_eq_true, reduceCtorEq]
  | succ r ih =>
    intro n j c h1 h2
    obtain ⟨n, rfl⟩ : ∃ k, n = k + 1 := ⟨n - 1, by omega⟩
    have hb := q_bit0 (a := cs) (k := j) (by omega) (by omega)
    unfold lp_X3_answerBy_2
    simp (disch := omega) only [sk_ans he, l24, ly, show ¬ 24 ≤ j by omega, zp, nI_clamp, pn, nI_1, hb, if_true, if_false, ↓reduceIte, Bool.false_eq_true, reduceCtorEq]
    by_cases b : cs.testBit j = true
    · by_cases z : c (69 + 2 * e) j = 0
      · obtain ⟨c', e1, e2, e3⟩ := ih n (j + 1) (pi_up c (69 + 2 * e) j g) (by omega) (by omega)
        refine ⟨c', ?_, fun a k q => ?_, fun k h3 h4 => ?_⟩
        · simp only [b, z, o1s, if_true, if_false, ↓reduceIte, Bool.false_eq_true, reduceCtorEq]
          exact e1
        · rw [e2 a k (by omega), pu_n (by omega)]
        · by_cases q : k = j
          · subst q
            rw [e2 _ k (by omega), pu_s, if_pos ⟨b, z⟩]
          · rw [e3 k (by omega) h4, pu_n (by omega)]
      · obtain ⟨c', e1, e2, e3⟩ := ih n (j + 1) c (by omega) (by omega)
        refine ⟨c', ?_, fun a k q => e2 a k (by omega), fun k h3 h4 => ?_⟩
        · simp only [b, z, o1s, if_true, if_false, ↓reduceIte, Bool.false_eq_true, reduceCtorEq]
          exact e1
        · by_cases q : k = j
          · subst q
            rw [e2 _ k (by omega), if_neg (fun y => z y.2)]
          · exact e3 k (by omega) h4
    · have b := Bool.eq_false_iff.mpr b
      obtain ⟨c', e1, e2, e3⟩ := ih n (j + 1) c (by omega) (by omega)
      refine ⟨c', ?_, fun a k q => e2 a k (by omega), fun k h3 h4 => ?_⟩
      · simp only [b, o1s, if_true, if_false, ↓reduceIte, Bool.false_eq_true, reduceCtorEq]
        exact e1
      · by_cases q : k = j
        · subst q
          rw [e2 _ k (by omega), if_neg (fun y => by rw [b] at y; exact absurd y.1 (by decide))]
        · exact e3 k (by omega) h4
theorem c_answerBy {e : Nat} (he : e < 16) {cs : Nat} (hc : cs < 16777216) (g : Int32) (c : pd_M) : ∃ c', fn_X3_answerBy (69 + 2 * e) (nI cs) g c = some c' ∧ (∀ a k, ¬ (a = 69 + 2 * e ∧ k < 24) → c' a k = c a k) ∧ ∀ k, k < 24 → c' (69 + 2 * e) k = if cs.testBit k = true ∧ c (69 + 2 * e) k = 0 then g else c (69 + 2 * e) k := by
  obtain ⟨c', e1, e2, e3⟩ := la_2 he hc g 24 5000 0 c (by omega) (by omega)
  refine ⟨c', ?_, fun a k q => e2 a k (by omega), fun k hk => e3 k (by omega) hk⟩
  unfold fn_X3_answerBy
  rw [if_pos (sk_ans he), show lp_X3_answerBy_2 5000 (69 + 2 * e) (nI cs) g 0 c = some c' from e1]
  rfl
/-- four values -/
theorem number_F {L : Nat} {B : Nat → Nat} {m i k : Nat} {c d : pd_M} (h : Q L B m i k c d) (hk : k ≠ 0) (p1 p2 : Int32) : fn_X3_number p1 p2 c = some (p1, c) := by
  have := h.2.2.2.1.1
  unfold fn_X3_number
  rw [look_F h hk]
  simp (disch := omega) only [o2s, h.2.2.2.1.2.1, zc, hk, if_true, if_false, ↓reduceIte, Bool.false_eq_true, reduceCtorEq]
theorem ra_F {L : Nat} {B : Nat → Nat} {m i k : Nat} {c d : pd_M} (h : Q L B m i k c d) (hk : k ≠ 0) : ∃ A, lp_X3_readAnswer_14 5000 0 0 c = some (A, c) := by
  have e : ∀ (r n z2 : Nat) (z1 : Int32), z2 + r = 4 → r < n → ∃ A, lp_X3_readAnswer_14 n z1 (nI z2) c = some (A, c) := by
    intro r
    induction r with
    | zero =>
      intro n z2 z1 h1 h2
      obtain ⟨n, rfl⟩ : ∃ k, n = k + 1 := ⟨n - 1, by omega⟩
      refine ⟨z1, ?_⟩
      unfold lp_X3_readAnswer_14
      simp (disch := omega) only [l4, ly, show 4 ≤ z2 by omega, if_true, if_false, ↓reduceIte, Bool.false_eq_true, reduceCtorEq]
    | succ r ih =>
      intro n z2 z1 h1 h2
      obtain ⟨n, rfl⟩ : ∃ k, n = k + 1 := ⟨n - 1, by omega⟩
      unfold lp_X3_readAnswer_14
      simp (disch := omega) only [l4, ly, show ¬ 4 ≤ z2 by omega, number_F h hk, o2s, pn, nI_1, if_true, if_false, ↓reduceIte, Bool.false_eq_true, reduceCtorEq]
      exact ih n (z2 + 1) _ (by omega) (by omega)
  exact e 4 5000 0 0 (by omega) (by omega)
theorem rm_F {L : Nat} {B : Nat → Nat} {m i k : Nat} {c d : pd_M} (h : Q L B m i k c d) (hk : k ≠ 0) (z1 z2 z3 z4 z5 z6 z7 : Int32) : ∃ A, lp_X9_readRule_103 5000 z1 z2 z3 z4 z5 z6 z7 1 0 d = some (A, d) := by
  by_cases hz : z6 = 0
  · subst hz
    exact ⟨z7, by
      unfold lp_X9_readRule_103
      rw [if_neg (by decide), if_pos rfl]⟩
  have e : ∀ (r n z9 : Nat) (z7 z8 : Int32), z9 + r = 4 → r < n → ∃ A, lp_X9_readRule_103 n z1 z2 z3 z4 z5 z6 z7 z8 (nI z9) d = some (A, d) := by
    intro r
    induction r with
    | zero =>
      intro n z9 z7 z8 h1 h2
      obtain ⟨n, rfl⟩ : ∃ k, n = k + 1 := ⟨n - 1, by omega⟩
      refine ⟨z7, ?_⟩
      unfold lp_X9_readRule_103
      simp (disch := omega) only [l4, ly, show 4 ≤ z9 by omega, if_true, if_false, ↓reduceIte, Bool.false_eq_true, reduceCtorEq]
    | succ r ih =>
      intro n z9 z7 z8 h1 h2
      obtain ⟨n, rfl⟩ : ∃ k, n = k + 1 := ⟨n - 1, by omega⟩
      unfold lp_X9_readRule_103
      simp (disch := omega) only [l4, ly, show ¬ 4 ≤ z9 by omega, hz, numIn_F h hk, o2s, pn, nI_1, if_true, if_false, ↓reduceIte, Bool.false_eq_true, reduceCtorEq]
      exact ih n (z9 + 1) _ _ (by omega) (by omega)
  exact e 4 5000 0 z7 1 (by omega) (by omega)
theorem en_of {x0 x1 x2 x3 : Nat} (h0 : x0 ≤ 6) (h1 : x1 ≤ 6) (h2 : x2 ≤ 6) (h3 : x3 ≤ 6) : en (x0 + 7 * x1 + 49 * x2 + 343 * x3) = pk4 (2 ^ x0) (2 ^ x1) (2 ^ x2) (2 ^ x3) := by
  have e0 : dg (x0 + 7 * x1 + 49 * x2 + 343 * x3) 0 = x0 := by unfold dg; simp only [Nat.pow_zero]; omega
  have e1 : dg (x0 + 7 * x1 + 49 * x2 + 343 * x3) 1 = x1 := by unfold dg; simp only [Nat.pow_one]; omega
  have e2 : dg (x0 + 7 * x1 + 49 * x2 + 343 * x3) 2 = x2 := by unfold dg; simp only [show 7 ^ 2 = 49 from rfl]; omega
  have e3 : dg (x0 + 7 * x1 + 49 * x2 + 343 * x3) 3 = x3 := by unfold dg; simp only [show 7 ^ 3 = 343 from rfl]; omega
  unfold en
  rw [if_neg (by omega), e0, e1, e2, e3]
theorem or_add {a x k : Nat} (h : a < 2 ^ k) : a ||| x * 2 ^ k = a + x * 2 ^ k := by
  rw [Nat.or_comm, ← Nat.shiftLeft_eq, ← Nat.shiftLeft_add_eq_or_of_lt h, Nat.add_comm]
theorem pk4_or : ∀ x0, x0 ≤ 6 → ∀ x1, x1 ≤ 6 → ∀ x2, x2 ≤ 6 → ∀ x3, x3 ≤ 6 → (((0 ||| 2 ^ (7 * 0 + x0)) ||| 2 ^ (7 * 1 + x1)) ||| 2 ^ (7 * 2 + x2)) ||| 2 ^ (7 * 3 + x3) = pk4 (2 ^ x0) (2 ^ x1) (2 ^ x2) (2 ^ x3) := by
  intro x0 h0 x1 h1 x2 h2 x3 h3
  have a0 : 2 ^ x0 < 128 := Nat.pow_lt_pow_right (n := 7) (by decide) (by omega)
  have a1 : 2 ^ x1 < 128 := Nat.pow_lt_pow_right (n := 7) (by decide) (by omega)
  have a2 : 2 ^ x2 < 128 := Nat.pow_lt_pow_right (n := 7) (by decide) (by omega)
  rw [Nat.zero_or, show 2 ^ (7 * 0 + x0) = 2 ^ x0 by rw [Nat.mul_zero, Nat.zero_add], show 2 ^ (7 * 1 + x1) = 2 ^ x1 * 2 ^ 7 by rw [Nat.pow_add, Nat.mul_comm], show 2 ^ (7 * 2 + x2) = 2 ^ x2 * 2 ^ 14 by rw [Nat.pow_add, Nat.mul_comm], show 2 ^ (7 * 3 + x3) = 2 ^ x3 * 2 ^ 21 by rw [Nat.pow_add, Nat.mul_comm]]
  rw [or_add (k := 7) (by omega), or_add (k := 14) (by omega), or_add (k := 21) (by omega)]
  unfold pk4
  omega
theorem ra_st {L : Nat} {B : Nat → Nat} {m i : Nat} {c d : pd_M} (h : Q L B m i 0 c d) (z1 z2 z3 z4 z5 z6 : Int32) (hz : z6 ≠ 0) :
    ∃ a w i' k' c' d', a < 2401 ∧ lp_X3_readAnswer_14 5000 0 0 c = some (nI (en a), c') ∧ lp_X9_readRule_103 5000 z1 z2 z3 z4 z5 z6 0 1 0 d = some (w, d') ∧ Q L B m i' k' c' d' ∧ Fc c c' ∧ Fx 33 38 d d' ∧ i ≤ i' ∧ (k' = 0 → w = nI a) := by
  obtain ⟨x0, w0, i1, k1, c1, d1, -, b0, p0, q0, h1, f0, g0, j0, r0⟩ := num_st h 0 6 (by omega) (by omega) 0 6 0 (fun _ => ⟨rfl, rfl, rfl⟩)
  obtain ⟨x1, w1, i2, k2, c2, d2, -, b1, p1, q1, h2, f1, g1, j1, r1⟩ := num_st h1 0 6 (by omega) (by omega) 0 6 0 (fun _ => ⟨rfl, rfl, rfl⟩)
  obtain ⟨x2, w2, i3, k3, c3, d3, -, b2, p2, q2, h3, f2, g2, j2, r2⟩ := num_st h2 0 6 (by omega) (by omega) 0 6 0 (fun _ => ⟨rfl, rfl, rfl⟩)
  obtain ⟨x3, w3, i4, k4, c4, d4, -, b3, p3, q3, h4, f3, g3, j3, r3⟩ := num_st h3 0 6 (by omega) (by omega) 0 6 0 (fun _ => ⟨rfl, rfl, rfl⟩)
  refine ⟨x0 + 7 * x1 + 49 * x2 + 343 * x3, ((((0 : Int32) + 1 * w0) + 1 * 7 * w1) + 1 * 7 * 7 * w2) + 1 * 7 * 7 * 7 * w3, i4, k4, c4, d4, by omega, ?_, ?_, h4, Fc_tr f0 (Fc_tr f1 (Fc_tr f2 f3)), Fx_tr g0 (Fx_tr g1 (Fx_tr g2 g3)), by omega, fun z => ?_⟩
  · have p0 : fn_X3_number 0 6 c = _ := p0
    have p1 : fn_X3_number 0 6 c1 = _ := p1
    have p2 : fn_X3_number 0 6 c2 = _ := p2
    have p3 : fn_X3_number 0 6 c3 = _ := p3
    have e : ∀ n, lp_X3_readAnswer_14 (n + 5) (nI 0) (nI 0) c = some (nI (pk4 (2 ^ x0) (2 ^ x1) (2 ^ x2) (2 ^ x3)), c4) := by
      intro n
      rw [← pk4_or x0 b0 x1 b1 x2 b2 x3 b3]
      simp only [lp_X3_readAnswer_14, pn, nI_1, Nat.zero_add, Nat.reduceAdd]
      simp (disch := omega) only [l4, ly, Nat.reduceLeDiff, p0, p1, p2, p3, o2s, l7, pk_mul, nI_add, q_1shl, fa_or, if_true, if_false, ↓reduceIte, Bool.false_eq_true, reduceCtorEq]
    rw [en_of b0 b1 b2 b3]
    exact e 4995
  · have e : ∀ n, lp_X9_readRule_103 (n + 5) z1 z2 z3 z4 z5 z6 0 1 (nI 0) d = some (((((0 : Int32) + 1 * w0) + 1 * 7 * w1) + 1 * 7 * 7 * w2) + 1 * 7 * 7 * 7 * w3, d4) := by
      intro n
      simp only [lp_X9_readRule_103, pn, nI_1, Nat.zero_add, Nat.reduceAdd, hz]
      simp (disch := omega) only [l4, ly, Nat.reduceLeDiff, q0, q1, q2, q3, o2s, if_true, if_false, ↓reduceIte, Bool.false_eq_true, reduceCtorEq]
    exact e 4995
  · obtain ⟨z3, e3⟩ := r3 z
    obtain ⟨z2, e2⟩ := r2 z3
    obtain ⟨z1, e1⟩ := r1 z2
    obtain ⟨-, e0⟩ := r0 z1
    rw [e0, e1, e2, e3, show (1 : Int32) * 7 * 7 * 7 = nI 343 from rfl, show (1 : Int32) * 7 * 7 = nI 49 from rfl, show (1 : Int32) * 7 = nI 7 from rfl, l1_, show (0 : Int32) = nI 0 from rfl]
    simp only [pk_mul, nI_add]
    congr 1
    omega
/-- of an EDITION whose first r rules are read -/
def EdP (c d : pd_M) (e r : Nat) : Prop :=
  (d 116 e = nI r ∧ r ≤ 6) ∧
  (∀ k, 6 * e ≤ k → k < 6 * e + r → d 117 k = nI (vw d 117 k) ∧ vw d 117 k < 8 ∧ d 118 k = nI (vw d 118 k) ∧ vw d 118 k < 8 ∧ d 119 k = nI (vw d 119 k) ∧ vw d 119 k < 4 ∧ d 120 k = nI (vw d 120 k) ∧ vw d 120 k < 2402) ∧
  ∀ j, j < 24 → c (69 + 2 * e) j = if ff (sRu (vw d) (j / 3) (j % 3)) r (6 * e) = 6 * e + r then 0 else nI (en (vw d 120 (ff (sRu (vw d) (j / 3) (j % 3)) r (6 * e))))
theorem ff_snoc (p : Nat → Bool) (r k : Nat) : ff p (r + 1) k = if ff p r k < k + r then ff p r k else if p (k + r) = true then k + r else k + r + 1 := by
  have a := ff_le p r k
  by_cases h : ff p r k < k + r
  · rw [if_pos h]
    exact ff_is a.1 (by omega) (fun j h1 h2 => ff_no p r k j h1 h2) (fun _ => ff_yes p r k h)
  · rw [if_neg h]
    have e : ff p r k = k + r := by omega
    by_cases hp : p (k + r) = true
    · rw [if_pos hp]
      exact ff_is (by omega) (by omega) (fun j h1 h2 => ff_no p r k j h1 (by omega)) (fun _ => hp)
    · rw [if_neg hp]
      refine ff_is (by omega) (by omega) (fun j h1 h2 => ?_) (fun z => absurd z (by omega))
      by_cases q : j = k + r
      · subst q; exact Bool.eq_false_iff.mpr hp
      · exact ff_no p r k j h1 (by omega)
theorem en_pos (a : Nat) : 0 < en a := by
  unfold en
  split
  · decide
  · have := Nat.two_pow_pos (dg a 0)
    unfold pk4
    omega
theorem en_31 (a : Nat) : en a < 2 ^ 31 := Nat.lt_trans (en_lt a) (by decide)
/-- what readers of rules change -/
def FcE (e : Nat) (c c' : pd_M) : Prop := ∀ a j, ¬ (a = 100 ∧ (j = 3 ∨ j = 4)) → a ≠ 69 + 2 * e → c' a j = c a j
def FxE (e : Nat) (d d' : pd_M) : Prop := ∀ a j, ¬ (a = 110 ∧ 33 ≤ j ∧ j ≤ 38) → ¬ (a = 116 ∧ j = e) → ¬ (117 ≤ a ∧ a ≤ 120 ∧ 6 * e ≤ j ∧ j < 6 * e + 6) → d' a j = d a j
theorem EdP_fr {c c' d d' : pd_M} {e r : Nat} (h : EdP c d e r) (h1 : ∀ j, c' (69 + 2 * e) j = c (69 + 2 * e) j) (h2 : d' 116 e = d 116 e) (h3 : ∀ a k, 117 ≤ a → a ≤ 120 → 6 * e ≤ k → k < 6 * e + 6 → d' a k = d a k) : EdP c' d' e r := by
  obtain ⟨⟨a1, a2⟩, b, q⟩ := h
  refine ⟨⟨by rw [h2]; exact a1, a2⟩, fun k k1 k2 => ?_, fun j hj => ?_⟩
  · rw [vw_eq (h3 117 k (by omega) (by omega) k1 (by omega)) (by omega), vw_eq (h3 118 k (by omega) (by omega) k1 (by omega)) (by omega), vw_eq (h3 119 k (by omega) (by omega) k1 (by omega)) (by omega), vw_eq (h3 120 k (by omega) (by omega) k1 (by omega)) (by omega), h3 117 k (by omega) (by omega) k1 (by omega), h3 118 k (by omega) (by omega) k1 (by omega), h3 119 k (by omega) (by omega) k1 (by omega), h3 120 k (by omega) (by omega) k1 (by omega)]
    exact b k k1 k2
  · have ef : ff (sRu (vw d') (j / 3) (j % 3)) r (6 * e) = ff (sRu (vw d) (j / 3) (j % 3)) r (6 * e) := ff_cong (fun k k1 k2 => by
      unfold sRu
      rw [vw_eq (h3 117 k (by omega) (by omega) k1 (by omega)) (by omega), vw_eq (h3 118 k (by omega) (by omega) k1 (by omega)) (by omega), vw_eq (h3 119 k (by omega) (by omega) k1 (by omega)) (by omega)])
    have hl := ff_le (sRu (vw d) (j / 3) (j % 3)) r (6 * e)
    rw [h1, ef, q j hj]
    by_cases z : ff (sRu (vw d) (j / 3) (j % 3)) r (6 * e) = 6 * e + r
    · rw [if_pos z, if_pos z]
    · rw [if_neg z, if_neg z, vw_eq (h3 120 _ (by omega) (by omega) hl.1 (by omega)) (by omega)]
theorem EdP_add {c c' d d' : pd_M} {e r lo hi mo an : Nat} (h : EdP c d e r) (hr : r < 6) (hlh : lo ≤ hi) (hh : hi < 8) (hm : mo < 4) (ha : an < 2402)
    (h2 : d' 116 e = nI (r + 1)) (h3 : ∀ a k, 117 ≤ a → a ≤ 120 → 6 * e ≤ k → k < 6 * e + r → d' a k = d a k)
    (g1 : d' 117 (6 * e + r) = nI lo) (g2 : d' 118 (6 * e + r) = nI hi) (g3 : d' 119 (6 * e + r) = nI mo) (g4 : d' 120 (6 * e + r) = nI an)
    (h1 : ∀ j, j < 24 → c' (69 + 2 * e) j = if (abN lo hi mo).testBit j = true ∧ c (69 + 2 * e) j = 0 then nI (en an) else c (69 + 2 * e) j) : EdP c' d' e (r + 1) := by
  obtain ⟨⟨a1, a2⟩, b, q⟩ := h
  have v1 := vw_of g1 (by omega) (by omega)
  have v2 := vw_of g2 (by omega) (by omega)
  have v3 := vw_of g3 (by omega) (by omega)
  have v4 := vw_of g4 (by omega) (by omega)
  refine ⟨⟨h2, by omega⟩, fun k k1 k2 => ?_, fun j hj => ?_⟩
  · by_cases z : k = 6 * e + r
    · subst z
      rw [v1, v2, v3, v4]
      exact ⟨g1, by omega, g2, by omega, g3, by omega, g4, ha⟩
    · rw [vw_eq (h3 117 k (by omega) (by omega) k1 (by omega)) (by omega), vw_eq (h3 118 k (by omega) (by omega) k1 (by omega)) (by omega), vw_eq (h3 119 k (by omega) (by omega) k1 (by omega)) (by omega), vw_eq (h3 120 k (by omega) (by omega) k1 (by omega)) (by omega), h3 117 k (by omega) (by omega) k1 (by omega), h3 118 k (by omega) (by omega) k1 (by omega), h3 119 k (by omega) (by omega) k1 (by omega), h3 120 k (by omega) (by omega) k1 (by omega)]
      exact b k k1 (by omega)
  · have ef : ff (sRu (vw d') (j / 3) (j % 3)) r (6 * e) = ff (sRu (vw d) (j / 3) (j % 3)) r (6 * e) := ff_cong (fun k k1 k2 => by
      unfold sRu
      rw [vw_eq (h3 117 k (by omega) (by omega) k1 (by omega)) (by omega), vw_eq (h3 118 k (by omega) (by omega) k1 (by omega)) (by omega), vw_eq (h3 119 k (by omega) (by omega) k1 (by omega)) (by omega)])
    have hl := ff_le (sRu (vw d) (j / 3) (j % 3)) r (6 * e)
    have hab : (abN lo hi mo).testBit j = sRu (vw d') (j / 3) (j % 3) (6 * e + r) := by
      rw [ab_bitN lo (by omega) hi hh hlh mo hm j hj]
      unfold sRu
      rw [v1, v2, v3]
    rw [h1 j hj, ff_snoc, ef, hab, q j hj]
    by_cases z : ff (sRu (vw d) (j / 3) (j % 3)) r (6 * e) = 6 * e + r
    · rw [if_pos z, if_neg (show ¬ ff (sRu (vw d) (j / 3) (j % 3)) r (6 * e) < 6 * e + r by omega)]
      by_cases y : sRu (vw d') (j / 3) (j % 3) (6 * e + r) = true
      · rw [if_pos ⟨y, rfl⟩, if_pos y, if_neg (by omega), v4]
      · rw [if_neg (fun x => y x.1), if_neg y, if_pos (by omega)]
    · simp only [if_neg z]
      rw [if_neg (show ¬ (sRu (vw d') (j / 3) (j % 3) (6 * e + r) = true ∧ nI (en (vw d 120 (ff (sRu (vw d) (j / 3) (j % 3)) r (6 * e)))) = 0) from fun x => nI_ne0 (en_pos _) (en_31 _) x.2)]
      simp only [if_pos (show ff (sRu (vw d) (j / 3) (j % 3)) r (6 * e) < 6 * e + r by omega)]
      rw [if_neg (show ¬ ff (sRu (vw d) (j / 3) (j % 3)) r (6 * e) = 6 * e + (r + 1) by omega), vw_eq (h3 120 _ (by omega) (by omega) hl.1 (by omega)) (by omega)]
