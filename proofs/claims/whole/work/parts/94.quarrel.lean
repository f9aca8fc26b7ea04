/-! PURE: quarrels of three, and the searches -/
theorem dq_first {f : pd_M} (hT : Td f) {g S b : Nat} (hg : g < 4) (hS : S < 2 ^ 31) (hb : b < vw f 0 0) (h0 : ∀ j, j < b → S.testBit j = false) (h1 : S.testBit b = true) :
    lp_X9_doQuarrel_35 5000 (nI g) (nI S) 0 7 7 0 0 127 127 127 127 0 f = if vw f 123 b = g then lp_X9_doQuarrel_35 (4999 - b) (nI g) (nI S) (nI (vw f 124 b)) (nI (vw f 125 b)) (nI (mm (vw f 126 b))) (nI (vw f 127 b)) (nI (1 - vw f 127 b)) (nI (vw f 129 (4 * b))) (nI (vw f 129 (4 * b + 1))) (nI (vw f 129 (4 * b + 2))) (nI (vw f 129 (4 * b + 3))) (nI (b + 1)) f else some (.inl 0) := by
  have hn := hT.1.2.2
  have sb := hT.2.2.1 b (by omega)
  have Fb := Sy_Fo sb
  have s1 := dq_skip hT hS (nI g) (nI 0) (nI 7) (nI 7) (nI 0) (nI 0) (nI 127) (nI 127) (nI 127) (nI 127) b (5000 - b) 0 (fun j _ h => h0 j (by omega)) (by omega)
  have s2 := dq_step hT hS (i := b) (by omega) h1 hg (lo := 0) (hi := 7) (mo := 7) (re := 0) (gi := 0) (a := 127) (b := 127) (c := 127) (d := 127) (by decide) (by decide) (4999 - b)
  obtain ⟨-, -, ⟨-, -, cb⟩, -, ⟨-, -, lb, eb⟩, ⟨-, -, mb⟩, -, ⟨-, rb⟩, -⟩ := id sb
  have hlo : (if vw f 124 b ≤ 0 then 0 else vw f 124 b) = vw f 124 b := by split <;> omega
  have hhi : (if 7 ≤ vw f 125 b then 7 else vw f 125 b) = vw f 125 b := by split <;> omega
  rw [and7 (mm_lt _ mb), and127 (by have := (Fb 0 (by omega)).2; rwa [Nat.add_zero] at this), and127 (Fb 1 (by omega)).2, and127 (Fb 2 (by omega)).2, and127 (Fb 3 (by omega)).2, hlo, hhi, Nat.zero_add, Nat.zero_add] at s2
  rw [show 5000 - b + b = 5000 by omega, Nat.zero_add, show 5000 - b = 4999 - b + 1 by omega, s2] at s1
  exact s1
theorem dq_next {f : pd_M} (hT : Td f) {g S b a : Nat} (hg : g < 4) (hS : S < 2 ^ 31) (hba : b < a) (ha : a < vw f 0 0) (h0 : ∀ j, b < j → j < a → S.testBit j = false) (h1 : S.testBit a = true) {lo hi mo re gi x y z w : Nat} (hl : lo < 2 ^ 20) (hh : hi < 2 ^ 20) :
    lp_X9_doQuarrel_35 (4999 - b) (nI g) (nI S) (nI lo) (nI hi) (nI mo) (nI re) (nI gi) (nI x) (nI y) (nI z) (nI w) (nI (b + 1)) f = if vw f 123 a = g then lp_X9_doQuarrel_35 (4999 - a) (nI g) (nI S) (nI (if vw f 124 a ≤ lo then lo else vw f 124 a)) (nI (if hi ≤ vw f 125 a then hi else vw f 125 a)) (nI (mo &&& mm (vw f 126 a))) (nI (re + vw f 127 a)) (nI (gi + (1 - vw f 127 a))) (nI (x &&& vw f 129 (4 * a))) (nI (y &&& vw f 129 (4 * a + 1))) (nI (z &&& vw f 129 (4 * a + 2))) (nI (w &&& vw f 129 (4 * a + 3))) (nI (a + 1)) f else some (.inl 0) := by
  have hn := hT.1.2.2
  have s1 := dq_skip hT hS (nI g) (nI lo) (nI hi) (nI mo) (nI re) (nI gi) (nI x) (nI y) (nI z) (nI w) (a - b - 1) (5000 - a) (b + 1) (fun j q1 q2 => h0 j (by omega) (by omega)) (by omega)
  have s2 := dq_step hT hS (i := a) ha h1 hg (lo := lo) (hi := hi) (mo := mo) (re := re) (gi := gi) (a := x) (b := y) (c := z) (d := w) hl hh (4999 - a)
  rw [show 5000 - a + (a - b - 1) = 4999 - b by omega, show b + 1 + (a - b - 1) = a by omega, show 5000 - a = 4999 - a + 1 by omega, s2] at s1
  exact s1
theorem dq_fin {f : pd_M} (hT : Td f) {g S a : Nat} (hS : S < 2 ^ 31) (ha : a < vw f 0 0) (h0 : ∀ j, a < j → S.testBit j = false) (z3 z4 z5 z6 z7 z8 z9 z10 z11 : Int32) : lp_X9_doQuarrel_35 (4999 - a) (nI g) (nI S) z3 z4 z5 z6 z7 z8 z9 z10 z11 (nI (a + 1)) f = some (.inr (z3, z4, z5, z6, z7, z8, z9, z10, z11)) := by
  have hn := hT.1.2.2
  have s5 := dq_skip hT hS (nI g) z3 z4 z5 z6 z7 z8 z9 z10 z11 (vw f 0 0 - a - 1) (5000 - vw f 0 0) (a + 1) (fun j h h2 => h0 j (by omega)) (by omega)
  rw [show 5000 - vw f 0 0 + (vw f 0 0 - a - 1) = 4999 - a by omega, show a + 1 + (vw f 0 0 - a - 1) = vw f 0 0 by omega, show 5000 - vw f 0 0 = 4999 - vw f 0 0 + 1 by omega, dq_last hT] at s5
  exact s5
theorem dq_no {f : pd_M} {g S : Nat} (h : lp_X9_doQuarrel_35 5000 (nI g) (nI S) 0 7 7 0 0 127 127 127 127 0 f = some (.inl 0)) : fn_X9_doQuarrel (nI g) (nI S) f = some 0 := by
  unfold fn_X9_doQuarrel
  rw [h]
  rfl
theorem m_dq3 {f : pd_M} (hT : Td f) {g a b c : Nat} (hg : g < 4) (hcb : c < b) (hba : b < a) (ha : a < vw f 0 0) : fn_X9_doQuarrel (nI g) (nI ((2 ^ a ||| 2 ^ b) ||| 2 ^ c)) f = some (if sP3 (vw f) g c b a = true then 1 else 0) := by
  have hn := hT.1.2.2
  have hS : (2 ^ a ||| 2 ^ b) ||| 2 ^ c < 2 ^ 31 := or_31 (or_31 (p2_31 (by omega)) (p2_31 (by omega))) (p2_31 (by omega))
  have sa := hT.2.2.1 a ha
  have sb := hT.2.2.1 b (by omega)
  have sc := hT.2.2.1 c (by omega)
  have Fa := Sy_Fo sa
  have Fb := Sy_Fo sb
  have Fc := Sy_Fo sc
  obtain ⟨-, -, ⟨-, -, ca⟩, -, ⟨-, -, la, ea⟩, ⟨-, -, ma⟩, -, ⟨-, ra⟩, -⟩ := id sa
  obtain ⟨-, -, ⟨-, -, cb⟩, -, ⟨-, -, lb, eb⟩, ⟨-, -, mb⟩, -, ⟨-, rb⟩, -⟩ := id sb
  obtain ⟨-, -, ⟨-, -, cc⟩, -, ⟨-, -, lc, ec⟩, ⟨-, -, mc⟩, -, ⟨-, rc⟩, -⟩ := id sc
  have s1 := dq_first hT hg hS (b := c) (by omega) (fun j h => by rw [bit3]; simp; omega) (by rw [bit3]; simp)
  by_cases q1 : vw f 123 c = g
  · rw [if_pos q1, dq_next hT hg hS hcb (by omega) (fun j h h2 => by rw [bit3]; simp; omega) (by rw [bit3]; simp) (by omega) (by omega)] at s1
    by_cases q2 : vw f 123 b = g
    · rw [if_pos q2, dq_next hT hg hS hba ha (fun j h h2 => by rw [bit3]; simp; omega) (by rw [bit3]; simp) (by split <;> omega) (by split <;> omega)] at s1
      by_cases q3 : vw f 123 a = g
      · rw [if_pos q3, dq_fin hT hS ha (fun j h => by rw [bit3]; simp; omega)] at s1
        have fd := dq_end (by split <;> (try split) <;> omega) (by split <;> (try split) <;> omega) (and_lt (and_lt (Nat.lt_trans (mm_lt _ mc) (by decide)))) (by omega) (by omega) (and_lt (and_lt (by have := (Fc 0 (by omega)).2; rw [Nat.add_zero] at this; omega))) (and_lt (and_lt (by have := (Fc 1 (by omega)).2; omega))) (and_lt (and_lt (by have := (Fc 2 (by omega)).2; omega))) (and_lt (and_lt (by have := (Fc 3 (by omega)).2; omega))) s1
        rw [fd]
        refine congrArg some (ifc ?_)
        have hov : (ab (vw f) b &&& ab (vw f) a) &&& ab (vw f) c ≠ 0 ↔ _ := ex24 (x := (ab (vw f) b &&& ab (vw f) a) &&& ab (vw f) c) (lo := if vw f 124 a ≤ (if vw f 124 b ≤ vw f 124 c then vw f 124 c else vw f 124 b) then (if vw f 124 b ≤ vw f 124 c then vw f 124 c else vw f 124 b) else vw f 124 a) (hi := if (if vw f 125 c ≤ vw f 125 b then vw f 125 c else vw f 125 b) ≤ vw f 125 a then (if vw f 125 c ≤ vw f 125 b then vw f 125 c else vw f 125 b) else vw f 125 a) (mo := (mm (vw f 126 c) &&& mm (vw f 126 b)) &&& mm (vw f 126 a)) (and_lt (and_lt (ab_31 sb))) (and_lt (and_lt (mm_lt _ mc))) (by split <;> (try split) <;> omega) (fun x hx => by
          rw [Nat.testBit_and, Nat.testBit_and, Nat.testBit_and, Nat.testBit_and, ab_bit' sb hx, ab_bit' sa hx, ab_bit' sc hx]
          have : decide ((if vw f 124 a ≤ (if vw f 124 b ≤ vw f 124 c then vw f 124 c else vw f 124 b) then (if vw f 124 b ≤ vw f 124 c then vw f 124 c else vw f 124 b) else vw f 124 a) ≤ x / 3 ∧ x / 3 ≤ (if (if vw f 125 c ≤ vw f 125 b then vw f 125 c else vw f 125 b) ≤ vw f 125 a then (if vw f 125 c ≤ vw f 125 b then vw f 125 c else vw f 125 b) else vw f 125 a)) = ((decide (vw f 124 b ≤ x / 3 ∧ x / 3 ≤ vw f 125 b) && decide (vw f 124 a ≤ x / 3 ∧ x / 3 ≤ vw f 125 a)) && decide (vw f 124 c ≤ x / 3 ∧ x / 3 ≤ vw f 125 c)) := by
            rw [← Bool.decide_and, ← Bool.decide_and]
            refine decide_eq_decide.mpr ?_
            by_cases t1 : vw f 124 b ≤ vw f 124 c
            · rw [if_pos t1]
              by_cases t2 : vw f 125 c ≤ vw f 125 b
              · rw [if_pos t2]; split <;> split <;> omega
              · rw [if_neg t2]; split <;> split <;> omega
            · rw [if_neg t1]
              by_cases t2 : vw f 125 c ≤ vw f 125 b
              · rw [if_pos t2]; split <;> split <;> omega
              · rw [if_neg t2]; split <;> split <;> omega
          rw [this]
          cases decide (vw f 124 b ≤ x / 3 ∧ x / 3 ≤ vw f 125 b) <;> cases decide (vw f 124 a ≤ x / 3 ∧ x / 3 ≤ vw f 125 a) <;> cases decide (vw f 124 c ≤ x / 3 ∧ x / 3 ≤ vw f 125 c) <;> cases (mm (vw f 126 b)).testBit (x % 3) <;> cases (mm (vw f 126 a)).testBit (x % 3) <;> cases (mm (vw f 126 c)).testBit (x % 3) <;> rfl)
        unfold sP3 dqR sHn
        rw [Nat.testBit_and, Nat.testBit_and, al_28 Fa, al_28 Fb, al_28 Fc]
        simp only [fi_and]
        rw [al_fi Fa (by omega), al_fi Fa (by omega), al_fi Fa (by omega), al_fi Fa (by omega), al_fi Fb (by omega), al_fi Fb (by omega), al_fi Fb (by omega), al_fi Fb (by omega), al_fi Fc (by omega), al_fi Fc (by omega), al_fi Fc (by omega), al_fi Fc (by omega)]
        simp only [Bool.and_eq_true, decide_eq_true_eq, hov, q1, q2, q3, true_and, Nat.add_zero]
        rw [and_assoc]
        refine and_congr_right fun _ => and_congr_right fun _ => ?_
        have sw : ∀ x y z : Nat, (x &&& y) &&& z = (y &&& z) &&& x := fun x y z => by rw [Nat.and_assoc, Nat.and_comm]
        rcases (by omega : vw f 127 b = 0 ∨ vw f 127 b = 1) with e1 | e1
        · rcases (by omega : vw f 127 a = 0 ∨ vw f 127 a = 1) with e2 | e2
          · rcases (by omega : vw f 127 c = 0 ∨ vw f 127 c = 1) with e3 | e3
            · simp [e1, e2, e3, sw (vw f 129 (4 * c)), sw (vw f 129 (4 * c + 1)), sw (vw f 129 (4 * c + 2)), sw (vw f 129 (4 * c + 3))]
            · simp [e1, e2, e3]
          · rcases (by omega : vw f 127 c = 0 ∨ vw f 127 c = 1) with e3 | e3
            · simp [e1, e2, e3]
            · simp [e1, e2, e3]
        · rcases (by omega : vw f 127 a = 0 ∨ vw f 127 a = 1) with e2 | e2
          · rcases (by omega : vw f 127 c = 0 ∨ vw f 127 c = 1) with e3 | e3
            · simp [e1, e2, e3]
            · simp [e1, e2, e3]
          · rcases (by omega : vw f 127 c = 0 ∨ vw f 127 c = 1) with e3 | e3
            · simp [e1, e2, e3]
            · simp [e1, e2, e3]
      · rw [if_neg q3] at s1
        rw [dq_no s1, show sP3 (vw f) g c b a = false by unfold sP3; simp [q3]]
        rfl
    · rw [if_neg q2] at s1
      rw [dq_no s1, show sP3 (vw f) g c b a = false by unfold sP3; simp [q2]]
      rfl
  · rw [if_neg q1] at s1
    rw [dq_no s1, show sP3 (vw f) g c b a = false by unfold sP3; simp [q1]]
    rfl
theorem sQ2_le (M : Nat → Nat → Nat) (g c : Nat) : sQ2 M g c ≤ c := by have := ff_le (fun b => sP2 M g b c) c 0; unfold sQ2; omega
theorem sQ3_le (M : Nat → Nat → Nat) (g b c : Nat) : sQ3 M g b c ≤ b := by have := ff_le (fun a => sP3 M g a b c) b 0; unfold sQ3; omega
theorem sQb_le (M : Nat → Nat → Nat) (g c : Nat) : sQb M g c ≤ c := by have := ff_le (fun b => decide (sQ3 M g b c < b)) c 0; unfold sQb; omega
theorem p2_pos (a : Nat) : 0 < 2 ^ a := Nat.two_pow_pos a
theorem or_pos {a b : Nat} (h : 0 < b) : a ||| b ≠ 0 := by
  intro e
  have := Nat.right_le_or (n := a) (m := b)
  omega
/-- a pair for a greater one -/
theorem lm_q2 {f : pd_M} (hT : Td f) {g a : Nat} (hg : g < 4) (ha : a < vw f 0 0) : ∀ (r n b : Nat), b + r = a → r < n → lp_X9_quarrelOf_19 n (nI g) 0 (nI a) (nI b) f = some (if ff (fun b => sP2 (vw f) g b a) r b = a then 0 else nI (2 ^ a ||| 2 ^ ff (fun b => sP2 (vw f) g b a) r b)) := by
  have hn := hT.1.2.2
  intro r
  induction r with
  | zero =>
    intro n b hb hn2
    obtain ⟨n, rfl⟩ : ∃ k, n = k + 1 := ⟨n - 1, by omega⟩
    simp (disch := omega) only [lp_X9_quarrelOf_19, ly, ff, show b = a by omega, Nat.le_refl, if_true, if_false, ↓reduceIte, Bool.false_eq_true, reduceCtorEq]
  | succ r ih =>
    intro n b hb hn2
    obtain ⟨n, rfl⟩ : ∃ k, n = k + 1 := ⟨n - 1, by omega⟩
    have hi := ih n (b + 1) (by omega) (by omega)
    have hS : 2 ^ a ||| 2 ^ b < 2 ^ 31 := or_31 (p2_31 (by omega)) (p2_31 (by omega))
    rw [lp_X9_quarrelOf_19]
    rw [show ff (fun b => sP2 (vw f) g b a) (r + 1) b = if sP2 (vw f) g b a = true then b else ff (fun b => sP2 (vw f) g b a) r (b + 1) from rfl]
    simp (disch := omega) only [ly, show ¬ a ≤ b by omega, q_1shl, fa_or, m_dq2 hT hg (show b < a by omega) ha, ob1, pn, nI_1, if_true, if_false, ↓reduceIte, Bool.false_eq_true, reduceCtorEq]
    cases q : sP2 (vw f) g b a
    · simp only [Bool.false_eq_true, if_false, if_true]
      exact hi
    · simp only [if_true, o10, if_false, show ¬ b = a by omega]
      obtain ⟨n, rfl⟩ : ∃ k, n = k + 1 := ⟨n - 1, by omega⟩
      rw [lp_X9_quarrelOf_19]
      by_cases q2 : nI a ≤ nI (b + 1)
      · rw [if_pos q2]
      · rw [if_neg q2, if_neg]
        rw [zc hS]
        exact or_pos (p2_pos b)
theorem lm_q2o {f : pd_M} (hT : Td f) {g : Nat} (hg : g < 4) : ∀ (r n a : Nat), a + r = vw f 0 0 → r < n → lp_X9_quarrelOf_4 n (nI g) 0 (nI a) f = some (if ff (fun c => decide (sQ2 (vw f) g c < c)) r a = vw f 0 0 then 0 else nI (2 ^ ff (fun c => decide (sQ2 (vw f) g c < c)) r a ||| 2 ^ sQ2 (vw f) g (ff (fun c => decide (sQ2 (vw f) g c < c)) r a))) := by
  have hn := hT.1.2.2
  intro r
  induction r with
  | zero =>
    intro n a ha hn2
    obtain ⟨n, rfl⟩ : ∃ k, n = k + 1 := ⟨n - 1, by omega⟩
    simp (disch := omega) only [lp_X9_quarrelOf_4, hT.1.1, ly, ff, show a = vw f 0 0 by omega, Nat.le_refl, if_true, if_false, ↓reduceIte, Bool.false_eq_true, reduceCtorEq]
  | succ r ih =>
    intro n a ha hn2
    obtain ⟨n, rfl⟩ : ∃ k, n = k + 1 := ⟨n - 1, by omega⟩
    have hi := ih n (a + 1) (by omega) (by omega)
    have h2 := lm_q2 hT hg (show a < vw f 0 0 by omega) a 5000 0 (by omega) (by omega)
    rw [show nI 0 = (0 : Int32) from rfl] at h2
    have hle := ff_le (fun b => sP2 (vw f) g b a) a 0
    rw [lp_X9_quarrelOf_4]
    rw [show ff (fun c => decide (sQ2 (vw f) g c < c)) (r + 1) a = if decide (sQ2 (vw f) g a < a) = true then a else ff (fun c => decide (sQ2 (vw f) g c < c)) r (a + 1) from rfl]
    simp (disch := omega) only [hT.1.1, ly, show ¬ vw f 0 0 ≤ a by omega, h2, ob1, pn, nI_1, if_true, if_false, ↓reduceIte, Bool.false_eq_true, reduceCtorEq]
    have e2 : sQ2 (vw f) g a = ff (fun b => sP2 (vw f) g b a) a 0 := rfl
    by_cases q : ff (fun b => sP2 (vw f) g b a) a 0 = a
    · simp only [q, if_true, e2, Nat.lt_irrefl, decide_false, Bool.false_eq_true, if_false]
      exact hi
    · have hS : 2 ^ a ||| 2 ^ ff (fun b => sP2 (vw f) g b a) a 0 < 2 ^ 31 := or_31 (p2_31 (by omega)) (p2_31 (by omega))
      simp only [q, if_false, e2, show ff (fun b => sP2 (vw f) g b a) a 0 < a by omega, decide_true, if_true, show ¬ a = vw f 0 0 by omega]
      obtain ⟨n, rfl⟩ : ∃ k, n = k + 1 := ⟨n - 1, by omega⟩
      rw [lp_X9_quarrelOf_4]
      by_cases q2 : f 110 12 ≤ nI (a + 1)
      · rw [if_pos q2]
      · rw [if_neg q2, if_neg]
        rw [zc hS]
        exact or_pos (p2_pos _)
theorem lm_q3 {f : pd_M} (hT : Td f) {g a b : Nat} (hg : g < 4) (hba : b < a) (ha : a < vw f 0 0) : ∀ (r n c : Nat), c + r = b → r < n → lp_X9_quarrelOf_100 n (nI g) 0 (nI a) (nI b) (nI c) f = some (if ff (fun c => sP3 (vw f) g c b a) r c = b then 0 else nI ((2 ^ a ||| 2 ^ b) ||| 2 ^ ff (fun c => sP3 (vw f) g c b a) r c)) := by
  have hn := hT.1.2.2
  intro r
  induction r with
  | zero =>
    intro n c hc hn2
    obtain ⟨n, rfl⟩ : ∃ k, n = k + 1 := ⟨n - 1, by omega⟩
    simp (disch := omega) only [lp_X9_quarrelOf_100, ly, ff, show c = b by omega, Nat.le_refl, if_true, if_false, ↓reduceIte, Bool.false_eq_true, reduceCtorEq]
  | succ r ih =>
    intro n c hc hn2
    obtain ⟨n, rfl⟩ : ∃ k, n = k + 1 := ⟨n - 1, by omega⟩
    have hi := ih n (c + 1) (by omega) (by omega)
    have hS : (2 ^ a ||| 2 ^ b) ||| 2 ^ c < 2 ^ 31 := or_31 (or_31 (p2_31 (by omega)) (p2_31 (by omega))) (p2_31 (by omega))
    rw [lp_X9_quarrelOf_100]
    rw [show ff (fun c => sP3 (vw f) g c b a) (r + 1) c = if sP3 (vw f) g c b a = true then c else ff (fun c => sP3 (vw f) g c b a) r (c + 1) from rfl]
    simp (disch := omega) only [ly, show ¬ b ≤ c by omega, q_1shl, fa_or, m_dq3 hT hg (show c < b by omega) hba ha, ob1, pn, nI_1, if_true, if_false, ↓reduceIte, Bool.false_eq_true, reduceCtorEq]
    cases q : sP3 (vw f) g c b a
    · simp only [Bool.false_eq_true, if_false, if_true]
      exact hi
    · simp only [if_true, o10, if_false, show ¬ c = b by omega]
      obtain ⟨n, rfl⟩ : ∃ k, n = k + 1 := ⟨n - 1, by omega⟩
      rw [lp_X9_quarrelOf_100]
      by_cases q2 : nI b ≤ nI (c + 1)
      · rw [if_pos q2]
      · rw [if_neg q2, if_neg]
        rw [zc hS]
        exact or_pos (p2_pos c)
theorem lm_q3m {f : pd_M} (hT : Td f) {g a : Nat} (hg : g < 4) (ha : a < vw f 0 0) : ∀ (r n b : Nat), b + r = a → r < n → lp_X9_quarrelOf_87 n (nI g) 0 (nI a) (nI b) f = some (if ff (fun b => decide (sQ3 (vw f) g b a < b)) r b = a then 0 else nI ((2 ^ a ||| 2 ^ ff (fun b => decide (sQ3 (vw f) g b a < b)) r b) ||| 2 ^ sQ3 (vw f) g (ff (fun b => decide (sQ3 (vw f) g b a < b)) r b) a)) := by
  have hn := hT.1.2.2
  intro r
  induction r with
  | zero =>
    intro n b hb hn2
    obtain ⟨n, rfl⟩ : ∃ k, n = k + 1 := ⟨n - 1, by omega⟩
    simp (disch := omega) only [lp_X9_quarrelOf_87, ly, ff, show b = a by omega, Nat.le_refl, if_true, if_false, ↓reduceIte, Bool.false_eq_true, reduceCtorEq]
  | succ r ih =>
    intro n b hb hn2
    obtain ⟨n, rfl⟩ : ∃ k, n = k + 1 := ⟨n - 1, by omega⟩
    have hi := ih n (b + 1) (by omega) (by omega)
    have h2 := lm_q3 hT hg (show b < a by omega) ha b 5000 0 (by omega) (by omega)
    rw [show nI 0 = (0 : Int32) from rfl] at h2
    have hle := ff_le (fun c => sP3 (vw f) g c b a) b 0
    rw [lp_X9_quarrelOf_87]
    rw [show ff (fun b => decide (sQ3 (vw f) g b a < b)) (r + 1) b = if decide (sQ3 (vw f) g b a < b) = true then b else ff (fun b => decide (sQ3 (vw f) g b a < b)) r (b + 1) from rfl]
    simp (disch := omega) only [ly, show ¬ a ≤ b by omega, h2, ob1, pn, nI_1, if_true, if_false, ↓reduceIte, Bool.false_eq_true, reduceCtorEq]
    have e2 : sQ3 (vw f) g b a = ff (fun c => sP3 (vw f) g c b a) b 0 := rfl
    by_cases q : ff (fun c => sP3 (vw f) g c b a) b 0 = b
    · simp only [q, if_true, e2, Nat.lt_irrefl, decide_false, Bool.false_eq_true, if_false]
      exact hi
    · have hS : (2 ^ a ||| 2 ^ b) ||| 2 ^ ff (fun c => sP3 (vw f) g c b a) b 0 < 2 ^ 31 := or_31 (or_31 (p2_31 (by omega)) (p2_31 (by omega))) (p2_31 (by omega))
      simp only [q, if_false, e2, show ff (fun c => sP3 (vw f) g c b a) b 0 < b by omega, decide_true, if_true, show ¬ b = a by omega]
      obtain ⟨n, rfl⟩ : ∃ k, n = k + 1 := ⟨n - 1, by omega⟩
      rw [lp_X9_quarrelOf_87]
      by_cases q2 : nI a ≤ nI (b + 1)
      · rw [if_pos q2]
      · rw [if_neg q2, if_neg]
        rw [zc hS]
        exact or_pos (p2_pos _)
theorem lm_q3o {f : pd_M} (hT : Td f) {g : Nat} (hg : g < 4) : ∀ (r n a : Nat), a + r = vw f 0 0 → r < n → lp_X9_quarrelOf_72 n (nI g) 0 (nI a) f = some (if ff (fun c => decide (sQb (vw f) g c < c)) r a = vw f 0 0 then 0 else nI ((2 ^ ff (fun c => decide (sQb (vw f) g c < c)) r a ||| 2 ^ sQb (vw f) g (ff (fun c => decide (sQb (vw f) g c < c)) r a)) ||| 2 ^ sQ3 (vw f) g (sQb (vw f) g (ff (fun c => decide (sQb (vw f) g c < c)) r a)) (ff (fun c => decide (sQb (vw f) g c < c)) r a))) := by
  have hn := hT.1.2.2
  intro r
  induction r with
  | zero =>
    intro n a ha hn2
    obtain ⟨n, rfl⟩ : ∃ k, n = k + 1 := ⟨n - 1, by omega⟩
    simp (disch := omega) only [lp_X9_quarrelOf_72, hT.1.1, ly, ff, show a = vw f 0 0 by omega, Nat.le_refl, if_true, if_false, ↓reduceIte, Bool.false_eq_true, reduceCtorEq]
  | succ r ih =>
    intro n a ha hn2
    obtain ⟨n, rfl⟩ : ∃ k, n = k + 1 := ⟨n - 1, by omega⟩
    have hi := ih n (a + 1) (by omega) (by omega)
    have h2 := lm_q3m hT hg (show a < vw f 0 0 by omega) a 5000 0 (by omega) (by omega)
    rw [show nI 0 = (0 : Int32) from rfl] at h2
    have hle := ff_le (fun b => decide (sQ3 (vw f) g b a < b)) a 0
    have hle3 := ff_le (fun c => sP3 (vw f) g c (ff (fun b => decide (sQ3 (vw f) g b a < b)) a 0) a) (ff (fun b => decide (sQ3 (vw f) g b a < b)) a 0) 0
    rw [lp_X9_quarrelOf_72]
    rw [show ff (fun c => decide (sQb (vw f) g c < c)) (r + 1) a = if decide (sQb (vw f) g a < a) = true then a else ff (fun c => decide (sQb (vw f) g c < c)) r (a + 1) from rfl]
    simp (disch := omega) only [hT.1.1, ly, show ¬ vw f 0 0 ≤ a by omega, h2, ob1, pn, nI_1, if_true, if_false, ↓reduceIte, Bool.false_eq_true, reduceCtorEq]
    have e2 : sQb (vw f) g a = ff (fun b => decide (sQ3 (vw f) g b a < b)) a 0 := rfl
    by_cases q : ff (fun b => decide (sQ3 (vw f) g b a < b)) a 0 = a
    · simp only [q, if_true, e2, Nat.lt_irrefl, decide_false, Bool.false_eq_true, if_false]
      exact hi
    · have hS : (2 ^ a ||| 2 ^ ff (fun b => decide (sQ3 (vw f) g b a < b)) a 0) ||| 2 ^ sQ3 (vw f) g (ff (fun b => decide (sQ3 (vw f) g b a < b)) a 0) a < 2 ^ 31 := or_31 (or_31 (p2_31 (by omega)) (p2_31 (by omega))) (p2_31 (by have := sQ3_le (vw f) g (ff (fun b => decide (sQ3 (vw f) g b a < b)) a 0) a; omega))
      simp only [q, if_false, e2, show ff (fun b => decide (sQ3 (vw f) g b a < b)) a 0 < a by omega, decide_true, if_true, show ¬ a = vw f 0 0 by omega]
      obtain ⟨n, rfl⟩ : ∃ k, n = k + 1 := ⟨n - 1, by omega⟩
      rw [lp_X9_quarrelOf_72]
      by_cases q2 : f 110 12 ≤ nI (a + 1)
      · rw [if_pos q2]
      · rw [if_neg q2, if_neg]
        rw [zc hS]
        exact or_pos (p2_pos _)
theorem sQ_lt {M : Nat → Nat → Nat} (g : Nat) (hn : M 0 0 ≤ 20) : sQ M g < 2 ^ 31 := by
  unfold sQ
  have h1 := ff_le (fun b => sP2 M g b (sQi M g)) (sQi M g) 0
  have h2 := ff_le (fun b => decide (sQ3 M g b (sQk M g) < b)) (sQk M g) 0
  have h3 := ff_le (fun c => sP3 M g c (sQb M g (sQk M g)) (sQk M g)) (sQb M g (sQk M g)) 0
  split
  · exact or_31 (p2_31 (by have := sQ2_le M g (sQi M g); omega)) (p2_31 (by omega))
  · split
    · exact or_31 (or_31 (p2_31 (by have := sQ3_le M g (sQb M g (sQk M g)) (sQk M g); have := sQb_le M g (sQk M g); omega)) (p2_31 (by have := sQb_le M g (sQk M g); omega))) (p2_31 (by omega))
    · decide
theorem m_quarrelOf {f : pd_M} (hT : Td f) {g : Nat} (hg : g < 4) : fn_X9_quarrelOf (nI g) f = some (nI (sQ (vw f) g)) := by
  have hn := hT.1.2.2
  have h1 := lm_q2o hT hg (vw f 0 0) 5000 0 (by omega) (by omega)
  have h2 := lm_q3o hT hg (vw f 0 0) 5000 0 (by omega) (by omega)
  rw [show nI 0 = (0 : Int32) from rfl] at h1 h2
  have hle := ff_le (fun c => decide (sQ2 (vw f) g c < c)) (vw f 0 0) 0
  have hle2 := ff_le (fun c => decide (sQb (vw f) g c < c)) (vw f 0 0) 0
  unfold fn_X9_quarrelOf
  rw [h1]
  unfold sQ
  rw [show sQi (vw f) g = ff (fun c => decide (sQ2 (vw f) g c < c)) (vw f 0 0) 0 from rfl, show sQk (vw f) g = ff (fun c => decide (sQb (vw f) g c < c)) (vw f 0 0) 0 from rfl]
  by_cases q : ff (fun c => decide (sQ2 (vw f) g c < c)) (vw f 0 0) 0 = vw f 0 0
  · simp only [q, if_true, ob1, h2, Nat.lt_irrefl, if_false]
    by_cases q2 : ff (fun c => decide (sQb (vw f) g c < c)) (vw f 0 0) 0 = vw f 0 0
    · simp only [q2, if_true, Nat.lt_irrefl, if_false]; rfl
    · simp only [q2, if_false, show ff (fun c => decide (sQb (vw f) g c < c)) (vw f 0 0) 0 < vw f 0 0 by omega, if_true]
      congr 2
      rw [Nat.or_comm (2 ^ sQ3 _ _ _ _) (2 ^ sQb _ _ _), Nat.or_comm (2 ^ ff _ _ _) (2 ^ sQb _ _ _), Nat.or_assoc, Nat.or_assoc, Nat.or_comm (2 ^ ff _ _ _)]
  · have h3 := ff_le (fun b => sP2 (vw f) g b (ff (fun c => decide (sQ2 (vw f) g c < c)) (vw f 0 0) 0)) (ff (fun c => decide (sQ2 (vw f) g c < c)) (vw f 0 0) 0) 0
    have hS : 2 ^ ff (fun c => decide (sQ2 (vw f) g c < c)) (vw f 0 0) 0 ||| 2 ^ sQ2 (vw f) g (ff (fun c => decide (sQ2 (vw f) g c < c)) (vw f 0 0) 0) < 2 ^ 31 := or_31 (p2_31 (by omega)) (p2_31 (by have := sQ2_le (vw f) g (ff (fun c => decide (sQ2 (vw f) g c < c)) (vw f 0 0) 0); omega))
    have hz : ∀ z : Int32, z ≠ 0 → ∀ n, lp_X9_quarrelOf_72 (n + 1) (nI g) z 0 f = some z := by
      intro z hz n
      rw [lp_X9_quarrelOf_72]
      by_cases e : f 110 12 ≤ 0
      · rw [if_pos e]
      · rw [if_neg e, if_neg hz]
    simp only [q, if_false, ob1, show ff (fun c => decide (sQ2 (vw f) g c < c)) (vw f 0 0) 0 < vw f 0 0 by omega, if_true]
    rw [show lp_X9_quarrelOf_72 5000 (nI g) _ 0 f = _ from hz (nI (2 ^ ff (fun c => decide (sQ2 (vw f) g c < c)) (vw f 0 0) 0 ||| 2 ^ sQ2 (vw f) g (ff (fun c => decide (sQ2 (vw f) g c < c)) (vw f 0 0) 0))) (by rw [ne_eq, zc hS]; exact or_pos (p2_pos _)) 4999]
    rw [Nat.or_comm]
theorem op_quarrel {f : pd_M} (hT : Td f) (p : Int32) : OpR (fn_X8_quarrel p f) (fn_X9_quarrel p f) f := by
  have hz := FrT_zz f
  rcases q_ix p (n := 4) (by decide) with h | ⟨s, hs, rfl⟩
  · refine ⟨-1000001, ?_, ?_⟩
    · unfold fn_X8_quarrel
      rw [if_pos (show fn_X8_isBelow p 4 = 0 from qB_out (n := 4) (by decide) h)]
    · simp [fn_X9_quarrel, pn, ser_out h, ob1]
  · have hB : fn_X8_isBelow (nI s) 4 = 1 := qB_in (n := 4) hs (by decide)
    have hm := m_quarrelOf (Td_fr hz hT) hs
    rw [vw_fr hz] at hm
    refine ⟨nI (sQ (vw f) s), ?_, ?_⟩
    · unfold fn_X8_quarrel
      simp (disch := omega) only [hB, o10, zp, nI_clamp, hT.2.2.2.2.2.1 s hs, if_true, if_false, ↓reduceIte, Bool.false_eq_true, reduceCtorEq]
    · unfold fn_X9_quarrel
      simp (disch := omega) only [pn, ser_in hs, ob1, o10, hm, if_true, if_false, ↓reduceIte, Bool.false_eq_true, reduceCtorEq]
