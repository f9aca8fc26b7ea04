/-! PURE: quarrels, in the reference -/
def mm (m : Nat) : Nat := if m = 3 then 7 else 2 ^ m
theorem mm_bit : ∀ m, m < 4 → ∀ k, k < 3 → (mm m).testBit k = decide (m = 3 ∨ m = k) := by decide +kernel
theorem mm_lt : ∀ m, m < 4 → mm m < 8 := by decide +kernel
theorem ab_bit' {f : pd_M} {s : Nat} (hy : Sy f s) {c : Nat} (hc : c < 24) : (ab (vw f) s).testBit c = (decide (vw f 124 s ≤ c / 3 ∧ c / 3 ≤ vw f 125 s) && (mm (vw f 126 s)).testBit (c % 3)) := by
  rw [ab_bit hy hc, mm_bit _ hy.2.2.2.2.2.1.2.2 _ (by omega)]
  unfold sAb
  by_cases h1 : vw f 124 s ≤ c / 3
  · by_cases h2 : c / 3 ≤ vw f 125 s
    · simp [h1, h2]
    · simp [h1, h2]
  · simp [h1]
theorem ne0_24 {x : Nat} (h : x < 16777216) : x ≠ 0 ↔ ∃ c, c < 24 ∧ x.testBit c = true := by
  constructor
  · intro h0
    refine Classical.byContradiction fun q => h0 ?_
    refine Nat.eq_of_testBit_eq fun i => ?_
    rw [Nat.zero_testBit]
    by_cases hi : i < 24
    · exact Bool.eq_false_iff.mpr fun e => q ⟨i, hi, e⟩
    · exact tb_hi (k := 24) h (by omega)
  · rintro ⟨c, -, hc⟩ e
    rw [e, Nat.zero_testBit] at hc
    exact absurd hc (by decide)
theorem ne0_8 : ∀ x, x < 8 → (x ≠ 0 ↔ ∃ c, c < 3 ∧ x.testBit c = true) := by
  intro x hx
  constructor
  · intro h0
    refine Classical.byContradiction fun q => h0 ?_
    refine Nat.eq_of_testBit_eq fun i => ?_
    rw [Nat.zero_testBit]
    by_cases hi : i < 3
    · exact Bool.eq_false_iff.mpr fun e => q ⟨i, hi, e⟩
    · exact tb_hi (k := 3) hx (by omega)
  · rintro ⟨c, -, hc⟩ e
    rw [e, Nat.zero_testBit] at hc
    exact absurd hc (by decide)
theorem ex24 {x lo hi mo : Nat} (hx : x < 16777216) (hm : mo < 8) (hh : hi < 8) (hb : ∀ c, c < 24 → x.testBit c = (decide (lo ≤ c / 3 ∧ c / 3 ≤ hi) && mo.testBit (c % 3))) : x ≠ 0 ↔ (lo ≤ hi ∧ mo ≠ 0) := by
  rw [ne0_24 hx, ne0_8 mo hm]
  constructor
  · rintro ⟨c, hc, h⟩
    rw [hb c hc, Bool.and_eq_true, decide_eq_true_eq] at h
    exact ⟨by omega, c % 3, by omega, h.2⟩
  · rintro ⟨h1, k, hk, h2⟩
    refine ⟨3 * lo + k, by omega, ?_⟩
    rw [hb _ (by omega), show (3 * lo + k) / 3 = lo by omega, show (3 * lo + k) % 3 = k by omega, h2]
    simp [h1]
/-- the end of doQuarrel -/
def dqR (lo hi mo re gi a b c d : Nat) : Bool := decide (lo ≤ hi ∧ mo ≠ 0 ∧ ((0 < re ∧ 0 < gi) ∨ (re = 0 ∧ (a = 0 ∨ b = 0 ∨ c = 0 ∨ d = 0))))
theorem dq_end {f : pd_M} {g S lo hi mo re gi a b c d : Nat} (h1 : lo < 2 ^ 20) (h2 : hi < 2 ^ 20) (h3 : mo < 2 ^ 20) (h4 : re < 2 ^ 20) (h5 : gi < 2 ^ 20) (ha : a < 2 ^ 20) (hb : b < 2 ^ 20) (hc : c < 2 ^ 20) (hd : d < 2 ^ 20)
    (h : lp_X9_doQuarrel_35 5000 (nI g) (nI S) 0 7 7 0 0 127 127 127 127 0 f = some (.inr (nI lo, nI hi, nI mo, nI re, nI gi, nI a, nI b, nI c, nI d))) : fn_X9_doQuarrel (nI g) (nI S) f = some (if dqR lo hi mo re gi a b c d = true then 1 else 0) := by
  unfold fn_X9_doQuarrel
  rw [h]
  unfold dqR
  simp (disch := omega) only [os9, lt_, zc, zd, ze]
  by_cases q1 : hi < lo
  · simp [q1, show ¬ lo ≤ hi by omega]
  · by_cases q2 : mo = 0
    · simp [q1, q2]
    · by_cases q3 : re = 0
      · by_cases qa : a = 0
        · simp [q1, q2, q3, qa, show lo ≤ hi by omega]
        · by_cases qb : b = 0
          · simp [q1, q2, q3, qa, qb, show lo ≤ hi by omega]
          · by_cases qc : c = 0
            · simp [q1, q2, q3, qa, qb, qc, show lo ≤ hi by omega]
            · by_cases qd : d = 0
              · simp [q1, q2, q3, qa, qb, qc, qd, show lo ≤ hi by omega]
              · simp [q1, q2, q3, qa, qb, qc, qd]
      · by_cases q4 : 0 < gi
        · simp [q1, q2, q3, q4, show lo ≤ hi by omega, show 0 < re by omega]
        · simp [q1, q2, q3, q4]
theorem dq_skip {f : pd_M} (hT : Td f) {S : Nat} (hS : S < 2 ^ 31) (z1 z3 z4 z5 z6 z7 z8 z9 z10 z11 : Int32) : ∀ (r n i : Nat), (∀ j, i ≤ j → j < i + r → S.testBit j = false) → i + r ≤ vw f 0 0 → lp_X9_doQuarrel_35 (n + r) z1 (nI S) z3 z4 z5 z6 z7 z8 z9 z10 z11 (nI i) f = lp_X9_doQuarrel_35 n z1 (nI S) z3 z4 z5 z6 z7 z8 z9 z10 z11 (nI (i + r)) f := by
  have hn := hT.1.2.2
  intro r
  induction r with
  | zero => intro n i _ _; rfl
  | succ r ih =>
    intro n i h1 h2
    have hb := h1 i (by omega) (by omega)
    rw [show n + (r + 1) = n + r + 1 by omega, lp_X9_doQuarrel_35]
    simp (disch := omega) only [hT.1.1, ly, q_bit1, hb, pn, nI_1, show ¬ vw f 0 0 ≤ i by omega, if_true, if_false, ↓reduceIte, Bool.false_eq_true, reduceCtorEq]
    rw [ih n (i + 1) (fun j a b => h1 j (by omega) (by omega)) (by omega), show i + 1 + r = i + (r + 1) by omega]
theorem dq_step {f : pd_M} (hT : Td f) {g S i : Nat} (hS : S < 2 ^ 31) (hiN : i < vw f 0 0) (hb : S.testBit i = true) (hg : g < 4) {lo hi mo re gi a b c d : Nat} (h1 : lo < 2 ^ 20) (h2 : hi < 2 ^ 20) (n : Nat) :
    lp_X9_doQuarrel_35 (n + 1) (nI g) (nI S) (nI lo) (nI hi) (nI mo) (nI re) (nI gi) (nI a) (nI b) (nI c) (nI d) (nI i) f = if vw f 123 i = g then lp_X9_doQuarrel_35 n (nI g) (nI S) (nI (if vw f 124 i ≤ lo then lo else vw f 124 i)) (nI (if hi ≤ vw f 125 i then hi else vw f 125 i)) (nI (mo &&& mm (vw f 126 i))) (nI (re + vw f 127 i)) (nI (gi + (1 - vw f 127 i))) (nI (a &&& vw f 129 (4 * i))) (nI (b &&& vw f 129 (4 * i + 1))) (nI (c &&& vw f 129 (4 * i + 2))) (nI (d &&& vw f 129 (4 * i + 3))) (nI (i + 1)) f else some (.inl 0) := by
  have hn := hT.1.2.2
  obtain ⟨-, -, ⟨c1, -, c3⟩, ⟨d1, -⟩, ⟨e1, -, e3, e4⟩, ⟨g1, -, g3⟩, -, ⟨r1, r2⟩, F, -⟩ := hT.2.2.1 i hiN
  have F0 := (F 0 (by omega)).1
  have F1 := (F 1 (by omega)).1
  have F2 := (F 2 (by omega)).1
  have F3 := (F 3 (by omega)).1
  rw [Nat.add_zero] at F0
  rw [lp_X9_doQuarrel_35]
  by_cases q : vw f 123 i = g
  · have hmood : (if vw f 126 i = 3 then some (7 : Int32) else some ((1 : Int32) <<< (nI (vw f 126 i) &&& 31))) = some (nI (mm (vw f 126 i))) := by
      unfold mm
      by_cases q3 : vw f 126 i = 3
      · rw [if_pos q3, if_pos q3]; rfl
      · rw [if_neg q3, if_neg q3, q_1shl (by omega)]
    simp (disch := omega) only [hT.1.1, ly, lq, zc, q_bit1, hb, zp, nI_clamp, c1, d1, e1, g1, r1, q, l3, hmood, show ¬ vw f 0 0 ≤ i by omega, if_true, if_false, ↓reduceIte, Bool.false_eq_true, reduceCtorEq]
    have x1 : (if vw f 124 i ≤ lo then some (nI lo) else some (nI (vw f 124 i))) = some (nI (if vw f 124 i ≤ lo then lo else vw f 124 i)) := by split <;> rfl
    have x2 : (if hi ≤ vw f 125 i then some (nI hi) else some (nI (vw f 125 i))) = some (nI (if hi ≤ vw f 125 i then hi else vw f 125 i)) := by split <;> rfl
    have x3 : (if vw f 127 i = 0 then some (0 : Int32) else some 1) = some (nI (vw f 127 i)) := by
      rcases (by omega : vw f 127 i = 0 ∨ vw f 127 i = 1) with e | e <;> rw [e] <;> rfl
    have x4 : (if vw f 127 i = 0 then some (1 : Int32) else some 0) = some (nI (1 - vw f 127 i)) := by
      rcases (by omega : vw f 127 i = 0 ∨ vw f 127 i = 1) with e | e <;> rw [e] <;> rfl
    simp (disch := omega) only [x1, x2, x3, x4, hmood, ob1, pn, fa_and, nI_add, l2, l3, l4, pk_mul, nI_1, zp, nI_clamp, F0, F1, F2, F3, if_true, if_false, ↓reduceIte, Bool.false_eq_true, reduceCtorEq]
  · simp (disch := omega) only [hT.1.1, ly, lq, q_bit1, hb, zp, nI_clamp, c1, q, show ¬ vw f 0 0 ≤ i by omega, if_true, if_false, ↓reduceIte, Bool.false_eq_true, reduceCtorEq]
theorem dq_last {f : pd_M} (hT : Td f) (z1 z2 z3 z4 z5 z6 z7 z8 z9 z10 z11 : Int32) (n : Nat) : lp_X9_doQuarrel_35 (n + 1) z1 z2 z3 z4 z5 z6 z7 z8 z9 z10 z11 (nI (vw f 0 0)) f = some (.inr (z3, z4, z5, z6, z7, z8, z9, z10, z11)) := by
  have hn := hT.1.2.2
  rw [lp_X9_doQuarrel_35]
  simp (disch := omega) only [hT.1.1, ly, Nat.le_refl, if_true, if_false, ↓reduceIte, Bool.false_eq_true, reduceCtorEq]
theorem and127 {x : Nat} (h : x < 128) : 127 &&& x = x := by rw [Nat.and_comm, show 127 = 2 ^ 7 - 1 from rfl, Nat.and_two_pow_sub_one_eq_mod, Nat.mod_eq_of_lt h]
theorem and7 {x : Nat} (h : x < 8) : 7 &&& x = x := by rw [Nat.and_comm, show 7 = 2 ^ 3 - 1 from rfl, Nat.and_two_pow_sub_one_eq_mod, Nat.mod_eq_of_lt h]
theorem p2_31 {a : Nat} (h : a < 20) : 2 ^ a < 2 ^ 31 := Nat.pow_lt_pow_right (by decide) (by omega)
theorem or_31 {a b : Nat} (ha : a < 2 ^ 31) (hb : b < 2 ^ 31) : a ||| b < 2 ^ 31 := Nat.or_lt_two_pow ha hb
theorem and_lt {a b k : Nat} (h : a < k) : a &&& b < k := Nat.lt_of_le_of_lt Nat.and_le_left h
theorem bit2 (a b i : Nat) : (2 ^ a ||| 2 ^ b).testBit i = (decide (a = i) || decide (b = i)) := by rw [Nat.testBit_or, Nat.testBit_two_pow, Nat.testBit_two_pow]
theorem bit3 (a b c i : Nat) : ((2 ^ a ||| 2 ^ b) ||| 2 ^ c).testBit i = ((decide (a = i) || decide (b = i)) || decide (c = i)) := by rw [Nat.testBit_or, bit2, Nat.testBit_two_pow]
theorem m_dq2 {f : pd_M} (hT : Td f) {g a b : Nat} (hg : g < 4) (hba : b < a) (ha : a < vw f 0 0) : fn_X9_doQuarrel (nI g) (nI (2 ^ a ||| 2 ^ b)) f = some (if sP2 (vw f) g b a = true then 1 else 0) := by
  have hn := hT.1.2.2
  have hS : 2 ^ a ||| 2 ^ b < 2 ^ 31 := or_31 (p2_31 (by omega)) (p2_31 (by omega))
  have sa := hT.2.2.1 a ha
  have sb := hT.2.2.1 b (by omega)
  have Fa := Sy_Fo sa
  have Fb := Sy_Fo sb
  have s1 := dq_skip hT hS (nI g) (nI 0) (nI 7) (nI 7) (nI 0) (nI 0) (nI 127) (nI 127) (nI 127) (nI 127) b (5000 - b) 0 (fun j _ h => by rw [bit2]; simp; omega) (by omega)
  have s2 := dq_step hT hS (i := b) (by omega) (by rw [bit2]; simp) hg (lo := 0) (hi := 7) (mo := 7) (re := 0) (gi := 0) (a := 127) (b := 127) (c := 127) (d := 127) (by decide) (by decide) (4999 - b)
  rw [show 5000 - b + b = 5000 by omega, Nat.zero_add, show 5000 - b = 4999 - b + 1 by omega, s2] at s1
  obtain ⟨-, -, ⟨-, -, ca⟩, -, ⟨-, -, la, ea⟩, ⟨-, -, ma⟩, -, ⟨-, ra⟩, -⟩ := id sa
  obtain ⟨-, -, ⟨-, -, cb⟩, -, ⟨-, -, lb, eb⟩, ⟨-, -, mb⟩, -, ⟨-, rb⟩, -⟩ := id sb
  by_cases q1 : vw f 123 b = g
  · rw [if_pos q1] at s1
    have s3 := dq_skip hT hS (nI g) (nI (if vw f 124 b ≤ 0 then 0 else vw f 124 b)) (nI (if 7 ≤ vw f 125 b then 7 else vw f 125 b)) (nI (7 &&& mm (vw f 126 b))) (nI (0 + vw f 127 b)) (nI (0 + (1 - vw f 127 b))) (nI (127 &&& vw f 129 (4 * b))) (nI (127 &&& vw f 129 (4 * b + 1))) (nI (127 &&& vw f 129 (4 * b + 2))) (nI (127 &&& vw f 129 (4 * b + 3))) (a - b - 1) (5000 - a) (b + 1) (fun j h h2 => by rw [bit2]; simp; omega) (by omega)
    rw [show 5000 - a + (a - b - 1) = 4999 - b by omega, show b + 1 + (a - b - 1) = a by omega] at s3
    have s4 := dq_step hT hS (i := a) ha (by rw [bit2]; simp) hg (lo := if vw f 124 b ≤ 0 then 0 else vw f 124 b) (hi := if 7 ≤ vw f 125 b then 7 else vw f 125 b) (mo := 7 &&& mm (vw f 126 b)) (re := 0 + vw f 127 b) (gi := 0 + (1 - vw f 127 b)) (a := 127 &&& vw f 129 (4 * b)) (b := 127 &&& vw f 129 (4 * b + 1)) (c := 127 &&& vw f 129 (4 * b + 2)) (d := 127 &&& vw f 129 (4 * b + 3)) (by split <;> omega) (by split <;> omega) (4999 - a)
    rw [show 5000 - a = 4999 - a + 1 by omega, s4] at s3
    rw [s3] at s1
    by_cases q2 : vw f 123 a = g
    · rw [if_pos q2] at s1
      have s5 := dq_skip hT hS (nI g) (nI (if vw f 124 a ≤ (if vw f 124 b ≤ 0 then 0 else vw f 124 b) then (if vw f 124 b ≤ 0 then 0 else vw f 124 b) else vw f 124 a)) (nI (if (if 7 ≤ vw f 125 b then 7 else vw f 125 b) ≤ vw f 125 a then (if 7 ≤ vw f 125 b then 7 else vw f 125 b) else vw f 125 a)) (nI ((7 &&& mm (vw f 126 b)) &&& mm (vw f 126 a))) (nI (0 + vw f 127 b + vw f 127 a)) (nI (0 + (1 - vw f 127 b) + (1 - vw f 127 a))) (nI ((127 &&& vw f 129 (4 * b)) &&& vw f 129 (4 * a))) (nI ((127 &&& vw f 129 (4 * b + 1)) &&& vw f 129 (4 * a + 1))) (nI ((127 &&& vw f 129 (4 * b + 2)) &&& vw f 129 (4 * a + 2))) (nI ((127 &&& vw f 129 (4 * b + 3)) &&& vw f 129 (4 * a + 3))) (vw f 0 0 - a - 1) (5000 - vw f 0 0) (a + 1) (fun j h h2 => by rw [bit2]; simp; omega) (by omega)
      rw [show 5000 - vw f 0 0 + (vw f 0 0 - a - 1) = 4999 - a by omega, show a + 1 + (vw f 0 0 - a - 1) = vw f 0 0 by omega, show 5000 - vw f 0 0 = 4999 - vw f 0 0 + 1 by omega, dq_last hT] at s5
      rw [s5] at s1
      have fd := dq_end (by split <;> (try split) <;> omega) (by split <;> (try split) <;> omega) (and_lt (and_lt (by decide))) (by omega) (by omega) (and_lt (and_lt (by decide))) (and_lt (and_lt (by decide))) (and_lt (and_lt (by decide))) (and_lt (and_lt (by decide))) s1
      rw [fd]
      refine congrArg some (ifc ?_)
      have hov : ab (vw f) b &&& ab (vw f) a ≠ 0 ↔ _ := ex24 (x := ab (vw f) b &&& ab (vw f) a) (lo := if vw f 124 a ≤ vw f 124 b then vw f 124 b else vw f 124 a) (hi := if vw f 125 b ≤ vw f 125 a then vw f 125 b else vw f 125 a) (mo := mm (vw f 126 b) &&& mm (vw f 126 a)) (and_lt (ab_31 sb)) (and_lt (mm_lt _ mb)) (by split <;> omega) (fun c hc => by
        rw [Nat.testBit_and, Nat.testBit_and, ab_bit' sb hc, ab_bit' sa hc]
        have : decide ((if vw f 124 a ≤ vw f 124 b then vw f 124 b else vw f 124 a) ≤ c / 3 ∧ c / 3 ≤ (if vw f 125 b ≤ vw f 125 a then vw f 125 b else vw f 125 a)) = (decide (vw f 124 b ≤ c / 3 ∧ c / 3 ≤ vw f 125 b) && decide (vw f 124 a ≤ c / 3 ∧ c / 3 ≤ vw f 125 a)) := by
          rw [← Bool.decide_and]
          refine decide_eq_decide.mpr ?_
          split <;> split <;> omega
        rw [this]
        cases decide (vw f 124 b ≤ c / 3 ∧ c / 3 ≤ vw f 125 b) <;> cases decide (vw f 124 a ≤ c / 3 ∧ c / 3 ≤ vw f 125 a) <;> cases (mm (vw f 126 b)).testBit (c % 3) <;> cases (mm (vw f 126 a)).testBit (c % 3) <;> rfl)
      unfold sP2 dqR sHn
      rw [Nat.testBit_and, al_28 Fa, al_28 Fb, fi_and, fi_and, fi_and, fi_and, al_fi Fa (by omega), al_fi Fa (by omega), al_fi Fa (by omega), al_fi Fa (by omega), al_fi Fb (by omega), al_fi Fb (by omega), al_fi Fb (by omega), al_fi Fb (by omega)]
      simp only [Bool.and_eq_true, decide_eq_true_eq, hov, q1, q2, true_and, Nat.zero_add, Nat.add_zero]
      rw [and7 (mm_lt _ mb), and127 (by have := (Fb 0 (by omega)).2; rwa [Nat.add_zero] at this), and127 (Fb 1 (by omega)).2, and127 (Fb 2 (by omega)).2, and127 (Fb 3 (by omega)).2]
      have hlo : (if vw f 124 b ≤ 0 then 0 else vw f 124 b) = vw f 124 b := by split <;> omega
      have hhi : (if 7 ≤ vw f 125 b then 7 else vw f 125 b) = vw f 125 b := by split <;> omega
      rw [hlo, hhi, and_assoc]
      refine and_congr_right fun _ => and_congr_right fun _ => ?_
      rcases (by omega : vw f 127 b = 0 ∨ vw f 127 b = 1) with e1 | e1
      · rcases (by omega : vw f 127 a = 0 ∨ vw f 127 a = 1) with e2 | e2
        · simp [e1, e2]
        · simp [e1, e2]
      · rcases (by omega : vw f 127 a = 0 ∨ vw f 127 a = 1) with e2 | e2
        · simp [e1, e2]
        · simp [e1, e2]
    · rw [if_neg q2] at s1
      unfold fn_X9_doQuarrel
      rw [show lp_X9_doQuarrel_35 5000 (nI g) (nI (2 ^ a ||| 2 ^ b)) 0 7 7 0 0 127 127 127 127 0 f = _ from s1]
      have : sP2 (vw f) g b a = false := by unfold sP2; simp [q2]
      rw [this]
      rfl
  · rw [if_neg q1] at s1
    unfold fn_X9_doQuarrel
    rw [show lp_X9_doQuarrel_35 5000 (nI g) (nI (2 ^ a ||| 2 ^ b)) 0 7 7 0 0 127 127 127 127 0 f = _ from s1]
    have : sP2 (vw f) g b a = false := by unfold sP2; simp [q1]
    rw [this]
    rfl
