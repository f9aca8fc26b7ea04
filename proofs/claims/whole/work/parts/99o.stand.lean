/-! PURE: stand-ins -/
def sOw (M : Nat → Nat → Nat) (cl ed gv c i : Nat) : Bool := decide (M 121 i = cl ∧ M 122 i = ed ∧ M 123 i = gv) && sAb M i (c / 3) (c % 3)
def sTi (M : Nat → Nat → Nat) (cl ed gv c : Nat) : Nat → Nat
  | 0 => 536870911
  | i + 1 => if sOw M cl ed gv c i = true then sTi M cl ed gv c i &&& al M i else sTi M cl ed gv c i
theorem sTi_lt (M : Nat → Nat → Nat) (cl ed gv c : Nat) : ∀ i, sTi M cl ed gv c i < 536870912
  | 0 => by unfold sTi; omega
  | i + 1 => by
    have := sTi_lt M cl ed gv c i
    unfold sTi
    split
    · exact Nat.lt_of_le_of_lt Nat.and_le_left this
    · exact this
theorem nd_and {a x y : Nat} (ha : a < 2 ^ 31) : nd a (x &&& y) = 0 ↔ nd a x = 0 ∧ nd a y = 0 := by
  rw [nd_0 ha, nd_0 ha, nd_0 ha]
  constructor
  · intro h
    refine ⟨fun k hk => ?_, fun k hk => ?_⟩
    · have := h k hk
      rw [Nat.testBit_and, Bool.and_eq_true] at this
      exact this.1
    · have := h k hk
      rw [Nat.testBit_and, Bool.and_eq_true] at this
      exact this.2
  · rintro ⟨h1, h2⟩ k hk
    rw [Nat.testBit_and, h1 k hk, h2 k hk]
    rfl
theorem en_31' (a : Nat) : en a < 2 ^ 31 := Nat.lt_trans (en_lt a) (by decide)
theorem sTi_mono {M : Nat → Nat → Nat} {cl ed gv c a i : Nat} : ∀ r, nd (en a) (sTi M cl ed gv c (i + r)) = 0 → nd (en a) (sTi M cl ed gv c i) = 0
  | 0, h => h
  | r + 1, h => by
    refine sTi_mono r ?_
    have h : nd (en a) (sTi M cl ed gv c (i + r + 1)) = 0 := h
    unfold sTi at h
    split at h
    · exact ((nd_and (en_31' a)).mp h).1
    · exact h
theorem lc_ti {f : pd_M} (hT : Td f) {cl ed gv c : Nat} (h1 : cl < 4) (h2 : ed < 4) (h3 : gv < 4) (hc : c < 24) : ∀ (r n i : Nat), i + r = vw f 0 0 → r < n → lp_X7_standIns_7 n (nI cl) (nI ed) (nI gv) (nI c) (nI (sTi (vw f) cl ed gv c i)) (nI i) f = some (nI (sTi (vw f) cl ed gv c (vw f 0 0))) := by
  have hN := hT.1.2.2
  have n2 := hT.1.2.1
  intro r
  induction r with
  | zero =>
    intro n i e1 e2
    obtain ⟨n, rfl⟩ : ∃ k, n = k + 1 := ⟨n - 1, by omega⟩
    unfold lp_X7_standIns_7
    simp (disch := omega) only [n2, ly, show vw f 0 0 ≤ i by omega, if_true, if_false, ↓reduceIte, Bool.false_eq_true, reduceCtorEq]
    rw [show i = vw f 0 0 by omega]
  | succ r ih =>
    intro n i e1 e2
    obtain ⟨n, rfl⟩ : ∃ k, n = k + 1 := ⟨n - 1, by omega⟩
    have hi := ih n (i + 1) (by omega) (by omega)
    have hy := hT.2.2.1 i (by omega)
    have hb := ab_31 hy
    have ha := ab_bit hy hc
    obtain ⟨⟨-, a2, a3⟩, ⟨-, b2, b3⟩, ⟨-, c2, c3⟩, -, -, -, -, -, -, w0, w1⟩ := hy
    unfold lp_X7_standIns_7
    simp (disch := omega) only [n2, ly, show ¬ vw f 0 0 ≤ i by omega, zp, nI_clamp, a2, b2, c2, w0, w1, lq, q_bit0, ha, fa_and, pn, nI_1, if_true, if_false, ↓reduceIte, Bool.false_eq_true, reduceCtorEq]
    rw [show sTi (vw f) cl ed gv c (i + 1) = if sOw (vw f) cl ed gv c i = true then sTi (vw f) cl ed gv c i &&& al (vw f) i else sTi (vw f) cl ed gv c i from rfl] at hi
    unfold sOw at hi
    by_cases g1 : vw f 121 i = cl
    · by_cases g2 : vw f 122 i = ed
      · by_cases g3 : vw f 123 i = gv
        · cases g4 : sAb (vw f) i (c / 3) (c % 3)
          · rw [g4] at hi
            simpa [g1, g2, g3, o1s] using hi
          · rw [g4] at hi
            simpa [g1, g2, g3, o1s] using hi
        · simpa [g1, g2, g3, o1s] using hi
      · simpa [g1, g2, o1s] using hi
    · simpa [g1, o1s] using hi
theorem lm_all {f : pd_M} (hT : Td f) {cl ed gv k m a : Nat} (h1 : cl < 4) (h2 : ed < 4) (h3 : gv < 4) (hk : k < 8) (hm : m < 3) (ha : a < 2402) : ∀ (r n i : Nat), i + r = vw f 0 0 → r < n → lp_X9_isAllowedByAll_6 n (nI cl) (nI ed) (nI gv) (nI k) (nI m) (nI a) (if nd (en a) (sTi (vw f) cl ed gv (3 * k + m) i) = 0 then 1 else 0) (nI i) f = some (if nd (en a) (sTi (vw f) cl ed gv (3 * k + m) (vw f 0 0)) = 0 then 1 else 0) := by
  have hN := hT.1.2.2
  have n1 := hT.1.1
  intro r
  induction r with
  | zero =>
    intro n i e1 e2
    obtain ⟨n, rfl⟩ : ∃ k, n = k + 1 := ⟨n - 1, by omega⟩
    unfold lp_X9_isAllowedByAll_6
    simp (disch := omega) only [n1, ly, show vw f 0 0 ≤ i by omega, if_true, if_false, ↓reduceIte, Bool.false_eq_true, reduceCtorEq]
    rw [show i = vw f 0 0 by omega]
  | succ r ih =>
    intro n i e1 e2
    obtain ⟨n, rfl⟩ : ∃ k, n = k + 1 := ⟨n - 1, by omega⟩
    have hi := ih n (i + 1) (by omega) (by omega)
    have hy := hT.2.2.1 i (by omega)
    have hab := m_isAbout (f := f) (s := i) (a := k) (m := m) (by omega) hy hk hm
    have hwr := m_wrongIn (f := f) (s := i) (a := a) (by omega) hy ha
    have hal := en_al (Sy_Fo hy) a
    have h10 := sWr_lt (vw f) i a
    obtain ⟨⟨a1, a2, a3⟩, ⟨b1, b2, b3⟩, ⟨c1, c2, c3⟩, -⟩ := hy
    by_cases hz : nd (en a) (sTi (vw f) cl ed gv (3 * k + m) i) = 0
    · rw [if_pos hz]
      unfold lp_X9_isAllowedByAll_6
      simp (disch := omega) only [n1, ly, show ¬ vw f 0 0 ≤ i by omega, o10, zp, nI_clamp, a1, b1, c1, lq, hab, hwr, o1s, pn, nI_1, if_true, if_false, ↓reduceIte, Bool.false_eq_true, reduceCtorEq]
      rw [show sTi (vw f) cl ed gv (3 * k + m) (i + 1) = if sOw (vw f) cl ed gv (3 * k + m) i = true then sTi (vw f) cl ed gv (3 * k + m) i &&& al (vw f) i else sTi (vw f) cl ed gv (3 * k + m) i from rfl] at hi
      unfold sOw at hi
      rw [show (3 * k + m) / 3 = k by omega, show (3 * k + m) % 3 = m by omega] at hi
      by_cases g1 : vw f 121 i = cl
      · by_cases g2 : vw f 122 i = ed
        · by_cases g3 : vw f 123 i = gv
          · cases g4 : sAb (vw f) i k m
            · rw [g4] at hi
              simp only [g1, g2, g3, eq_self, and_self, decide_true, Bool.true_and, Bool.false_eq_true, if_false, hz, if_true] at hi
              simp only [g1, g2, g3, eq_self, if_true, if_false, Bool.false_eq_true, o1s]
              exact hi
            · rw [g4] at hi
              simp only [g1, g2, g3, eq_self, and_self, decide_true, Bool.true_and, if_true] at hi
              simp only [g1, g2, g3, eq_self, if_true, if_false, o10, o1s]
              by_cases g5 : sWr (vw f) i a = 9
              · rw [if_pos ((nd_and (en_31' a)).mpr ⟨hz, hal.mpr g5⟩)] at hi
                rw [g5, if_pos (show wI 9 = -1000000 from rfl), o1s]
                exact hi
              · rw [if_neg (fun z => g5 (hal.mp ((nd_and (en_31' a)).mp z).2))] at hi
                rw [if_neg (show ¬ wI (sWr (vw f) i a) = -1000000 by unfold wI; rw [if_neg g5, zj (by omega)]; exact id), o1s]
                exact hi
          · simp only [g1, g2, g3, eq_self, and_false, decide_false, Bool.false_and, Bool.false_eq_true, if_false, hz, if_true] at hi
            simp only [g1, g2, g3, eq_self, if_true, if_false, o1s]
            exact hi
        · simp only [g1, g2, eq_self, false_and, and_false, decide_false, Bool.false_and, Bool.false_eq_true, if_false, hz, if_true] at hi
          simp only [g1, g2, eq_self, if_true, if_false, o1s]
          exact hi
      · simp only [g1, eq_self, false_and, decide_false, Bool.false_and, Bool.false_eq_true, if_false, hz, if_true] at hi
        simp only [g1, eq_self, if_true, if_false, o1s]
        exact hi
    · have hz2 : ¬ nd (en a) (sTi (vw f) cl ed gv (3 * k + m) (vw f 0 0)) = 0 := fun z => hz (sTi_mono (vw f 0 0 - i) (by rw [show i + (vw f 0 0 - i) = vw f 0 0 by omega]; exact z))
      rw [if_neg hz, if_neg hz2]
      unfold lp_X9_isAllowedByAll_6
      simp (disch := omega) only [n1, ly, show ¬ vw f 0 0 ≤ i by omega, if_true, if_false, ↓reduceIte, Bool.false_eq_true, reduceCtorEq]
/-- which ANSWERS are allowed -/
def sPa (A a : Nat) : Bool := decide (nd (en a) A = 0)
theorem m_all {f : pd_M} (hT : Td f) {cl ed gv k m a : Nat} (h1 : cl < 4) (h2 : ed < 4) (h3 : gv < 4) (hk : k < 8) (hm : m < 3) (ha : a < 2402) : fn_X9_isAllowedByAll (nI cl) (nI ed) (nI gv) (nI k) (nI m) (nI a) f = some (if sPa (sTi (vw f) cl ed gv (3 * k + m) (vw f 0 0)) a = true then 1 else 0) := by
  have hN := hT.1.2.2
  have h := lm_all hT h1 h2 h3 hk hm ha (vw f 0 0) 5000 0 (by omega) (by omega)
  have h0 : nd (en a) (sTi (vw f) cl ed gv (3 * k + m) 0) = 0 := by
    rw [nd_0 (en_31' a)]
    intro q hq
    have : q < 29 := by
      refine Decidable.byContradiction fun z => ?_
      rw [tb_hi (k := 29) (en_lt a) (by omega)] at hq
      exact absurd hq (by decide)
    show (2 ^ 29 - 1).testBit q = true
    rw [Nat.testBit_two_pow_sub_one]
    exact decide_eq_true this
  rw [if_pos h0] at h
  have h : lp_X9_isAllowedByAll_6 5000 (nI cl) (nI ed) (nI gv) (nI k) (nI m) (nI a) 1 0 f = _ := h
  unfold fn_X9_isAllowedByAll sPa
  rw [h, o1s]
  by_cases z : nd (en a) (sTi (vw f) cl ed gv (3 * k + m) (vw f 0 0)) = 0
  · rw [if_pos z, decide_eq_true z]
    rfl
  · rw [if_neg z, decide_eq_false z]
    rfl
/-! numbers of four figures -/
theorem ct_blk {p q : Nat → Bool} {B : Nat} : ∀ (d b : Nat), b ≤ B → fb_ct (fun a => p (a % B) && q (a / B)) (B * d + b) = fb_ct p B * fb_ct q d + (if q d = true then fb_ct p b else 0) := by
  have row : ∀ d b, b ≤ B → fb_ct (fun k => p ((B * d + k) % B) && q ((B * d + k) / B)) b = if q d = true then fb_ct p b else 0 := by
    intro d b hb
    have e : fb_ct (fun k => p ((B * d + k) % B) && q ((B * d + k) / B)) b = fb_ct (fun k => p k && q d) b := fb_ct_cong (fun k hk => by
      show (p ((B * d + k) % B) && q ((B * d + k) / B)) = (p k && q d)
      rw [Nat.mul_add_mod, Nat.mod_eq_of_lt (by omega), Nat.mul_add_div (by omega), Nat.div_eq_of_lt (by omega), Nat.add_zero])
    rw [e]
    cases q d
    · rw [if_neg (by decide)]
      exact fb_ct_zero.mpr (fun k _ => Bool.and_false _)
    · rw [if_pos rfl]
      exact fb_ct_cong (fun k _ => Bool.and_true _)
  intro d
  induction d with
  | zero =>
    intro b hb
    have := row 0 b hb
    rw [fb_ct_split, this, Nat.mul_zero]
    rfl
  | succ d ih =>
    intro b hb
    have h1 := ih B (Nat.le_refl _)
    rw [fb_ct_split, row (d + 1) b hb, show B * (d + 1) = B * d + B from Nat.mul_succ B d, h1, fb_ct_succ]
    cases q d
    · simp
    · simp [Nat.mul_add]
def dP (v : Nat → Nat) : Nat → Nat → Bool
  | 0, _ => true
  | m + 1, a => dP v m (a % 7 ^ m) && (v m).testBit (a / 7 ^ m)
def dC (v : Nat → Nat) : Nat → Nat
  | 0 => 1
  | m + 1 => dC v m * pc (v m)
theorem dC_is (v : Nat → Nat) : ∀ m, fb_ct (dP v m) (7 ^ m) = dC v m
  | 0 => rfl
  | m + 1 => by
    have h := ct_blk (p := dP v m) (q := fun k => (v m).testBit k) (B := 7 ^ m) 7 0 (Nat.zero_le _)
    rw [Nat.add_zero, ← Nat.pow_succ, dC_is v m] at h
    show fb_ct (fun a => dP v m (a % 7 ^ m) && (v m).testBit (a / 7 ^ m)) (7 ^ (m + 1)) = dC v m * pc (v m)
    rw [h]
    split <;> rfl
theorem dC_rank (v : Nat → Nat) {m b d : Nat} (hb : b < 7 ^ m) (hd : (v m).testBit d = true) : fb_ct (dP v (m + 1)) (7 ^ m * d + b) = dC v m * fb_ct (fun k => (v m).testBit k) d + fb_ct (dP v m) b := by
  have h := ct_blk (p := dP v m) (q := fun k => (v m).testBit k) (B := 7 ^ m) d b (by omega)
  rw [dC_is v m, if_pos hd] at h
  exact h
theorem dP_here (v : Nat → Nat) {m b d : Nat} (hb : b < 7 ^ m) (h1 : dP v m b = true) (hd : (v m).testBit d = true) : dP v (m + 1) (7 ^ m * d + b) = true := by
  show (dP v m ((7 ^ m * d + b) % 7 ^ m) && (v m).testBit ((7 ^ m * d + b) / 7 ^ m)) = true
  rw [Nat.mul_add_mod, Nat.mod_eq_of_lt hb, Nat.mul_add_div (by omega), Nat.div_eq_of_lt hb, Nat.add_zero, h1, hd]
  rfl
theorem nb_ok {v i : Nat} (h : i < pc v) : nb v i < 7 ∧ v.testBit (nb v i) = true ∧ fb_ct (fun j => v.testBit j) (nb v i) = i := by
  obtain ⟨d, h1, h2, h3⟩ := fb_ct_kth (p := fun j => v.testBit j) (n := 7) h
  have hl := ff_le (fun k => v.testBit k && decide (fb_ct (fun j => v.testBit j) k = i)) 7 0
  have h7 : nb v i < 7 := by
    refine Decidable.byContradiction fun z => ?_
    unfold nb at z
    have := ff_no (fun k => v.testBit k && decide (fb_ct (fun j => v.testBit j) k = i)) 7 0 d (by omega) (by omega)
    have h2 : v.testBit d = true := h2
    simp only [h2, h3, decide_true, Bool.and_self, Bool.true_eq_false] at this
  have hy := ff_yes (fun k => v.testBit k && decide (fb_ct (fun j => v.testBit j) k = i)) 7 0 (by unfold nb at h7; omega)
  have hy : (v.testBit (nb v i) && decide (fb_ct (fun j => v.testBit j) (nb v i) = i)) = true := hy
  rw [Bool.and_eq_true, decide_eq_true_eq] at hy
  exact ⟨h7, hy.1, hy.2⟩
theorem p7_4 : ∀ m, m ≤ 4 → 7 ^ m ≤ 2401 := by decide
theorem dC_pos {v : Nat → Nat} {m : Nat} (h : 0 < dC v (m + 1)) : 0 < dC v m ∧ 0 < pc (v m) := by
  have h : 0 < dC v m * pc (v m) := h
  exact ⟨Nat.pos_of_mul_pos_right h, Nat.pos_of_mul_pos_left h⟩
theorem dC_p {v : Nat → Nat} : ∀ {m k : Nat}, 0 < dC v (m + k) → 0 < dC v m
  | _, 0, h => h
  | m, k + 1, h => dC_p (k := k) (dC_pos (m := m + k) h).1
theorem lc_nth {f : pd_M} {A n : Nat} (hA : A < 536870912) (hn : n < dC (fi A) 4) (hn2 : n < 2402) : ∀ (r u m b : Nat), m + r = 4 → r < u → b < 7 ^ m → dP (fi A) m b = true → fb_ct (dP (fi A) m) b = n % dC (fi A) m → ∃ a, lp_X8_nthGiven_10 u (nI A) (nI b) (nI (7 ^ m)) (nI (n / dC (fi A) m)) (nI m) f = some (.inr (nI a)) ∧ a < 2401 ∧ dP (fi A) 4 a = true ∧ fb_ct (dP (fi A) 4) a = n := by
  intro r
  induction r with
  | zero =>
    intro u m b h1 h2 h3 h4 h5
    obtain ⟨u, rfl⟩ : ∃ k, u = k + 1 := ⟨u - 1, by omega⟩
    have : m = 4 := by omega
    subst this
    refine ⟨b, ?_, h3, h4, by rw [h5, Nat.mod_eq_of_lt hn]⟩
    unfold lp_X8_nthGiven_10
    simp (disch := omega) only [l4, ly, Nat.le_refl, if_true, if_false, ↓reduceIte, Bool.false_eq_true, reduceCtorEq]
  | succ r ih =>
    intro u m b h1 h2 h3 h4 h5
    obtain ⟨u, rfl⟩ : ∃ k, u = k + 1 := ⟨u - 1, by omega⟩
    have hp : 0 < dC (fi A) (m + 1) := dC_p (k := 3 - m) (by rw [show m + 1 + (3 - m) = 4 by omega]; omega)
    obtain ⟨hc, hv⟩ := dC_pos hp
    have hv7 := pc_le (fi A m)
    have hv128 := fi_lt A m
    have hdl : n / dC (fi A) m ≤ n := Nat.div_le_self _ _
    have hml : n / dC (fi A) m % pc (fi A m) < pc (fi A m) := Nat.mod_lt _ hv
    obtain ⟨k1, k2, k3⟩ := nb_ok hml
    have hnb := c_nthBit (f := f) (v := fi A m) (i := n / dC (fi A) m % pc (fi A m)) hv128 (by omega)
    rw [if_neg (by omega)] at hnb
    have h7 := p7_4 m (by omega)
    have hbn : 7 ^ m * nb (fi A m) (n / dC (fi A) m % pc (fi A m)) + b < 7 ^ (m + 1) := by
      have : 7 ^ m * nb (fi A m) (n / dC (fi A) m % pc (fi A m)) ≤ 7 ^ m * 6 := Nat.mul_le_mul_left _ (by omega)
      rw [Nat.pow_succ]
      omega
    obtain ⟨a, e1, e2⟩ := ih u (m + 1) (7 ^ m * nb (fi A m) (n / dC (fi A) m % pc (fi A m)) + b) (by omega) (by omega) hbn (dP_here (fi A) h3 h4 k2) (by
      rw [dC_rank (fi A) h3 k2, k3, h5]
      show _ = n % (dC (fi A) m * pc (fi A m))
      rw [Nat.mod_mul]
      omega)
    refine ⟨a, ?_, e2⟩
    unfold lp_X8_nthGiven_10
    have hr : nI (n / dC (fi A) m) - nI (n / dC (fi A) m / pc (fi A m) * pc (fi A m)) = nI (n / dC (fi A) m % pc (fi A m)) := by
      have hq := Nat.div_add_mod (n / dC (fi A) m) (pc (fi A m))
      rw [Nat.mul_comm] at hq
      rw [pk_sub (Nat.div_mul_le_self _ _), show n / dC (fi A) m - n / dC (fi A) m / pc (fi A m) * pc (fi A m) = n / dC (fi A) m % pc (fi A m) by omega]
    have hd : nI (n / dC (fi A) m) / nI (pc (fi A m)) = nI (n / dC (fi A) m / pc (fi A m)) := pk_div (by omega) hv (by omega)
    simp (disch := omega) only [l4, ly, show ¬ 4 ≤ m by omega, pn, q_field, q_bc, zc, show ¬ pc (fi A m) = 0 by omega, hr, hnb, o1s, hd, pk_mul, nI_add, l7, nI_1, if_true, if_false, ↓reduceIte, Bool.false_eq_true, reduceCtorEq]
    rw [Nat.div_div_eq_div_mul, Nat.add_comm b, ← Nat.pow_succ]
    exact e1
theorem c_nth {f : pd_M} {A n : Nat} (hA : A < 536870912) (hn : n < dC (fi A) 4) (hn2 : n < 2402) : ∃ a, fn_X8_nthGiven (nI A) (nI n) f = some (nI a) ∧ a < 2401 ∧ dP (fi A) 4 a = true ∧ fb_ct (dP (fi A) 4) a = n := by
  obtain ⟨a, e1, e2⟩ := lc_nth (f := f) hA hn hn2 4 5000 0 0 (by omega) (by omega) (by decide) rfl (by
    show 0 = n % 1
    omega)
  refine ⟨a, ?_, e2⟩
  rw [show dC (fi A) 0 = 1 from rfl, Nat.div_one] at e1
  have e1 : lp_X8_nthGiven_10 5000 (nI A) 0 1 (nI n) 0 f = some (.inr (nI a)) := e1
  unfold fn_X8_nthGiven
  rw [e1]
  rfl
theorem sPa_d {A a : Nat} (ha : a < 2401) : sPa A a = dP (fi A) 4 a := by
  unfold sPa
  have e : (nd (en a) A = 0) = (∀ j, j < 4 → (fi A j).testBit (dg a j) = true) := by
    rw [sub_fi (en_lt a), en_28]
    refine propext ⟨fun h j hj => ?_, fun h => ⟨fun z => absurd (of_decide_eq_true z) (by omega), fun j hj => ?_⟩⟩
    · have := h.2 j hj
      rw [en_fi (by omega) hj, nd_one (dg_lt a j)] at this
      exact this
    · rw [en_fi (by omega) hj, nd_one (dg_lt a j)]
      exact h j hj
  have e0 : a % 343 % 49 % 7 / 1 = dg a 0 := by unfold dg; simp only [Nat.pow_zero, Nat.div_one]; omega
  have e1 : a % 343 % 49 / 7 = dg a 1 := by unfold dg; rw [Nat.pow_one]; omega
  have e2 : a % 343 / 49 = dg a 2 := by unfold dg; rw [show 7 ^ 2 = 49 from rfl]; omega
  have e3 : a / 343 = dg a 3 := by unfold dg; rw [show 7 ^ 3 = 343 from rfl]; omega
  have ed : dP (fi A) 4 a = ((((true && (fi A 0).testBit (a % 343 % 49 % 7 / 1)) && (fi A 1).testBit (a % 343 % 49 / 7)) && (fi A 2).testBit (a % 343 / 49)) && (fi A 3).testBit (a / 343)) := rfl
  rw [ed, e0, e1, e2, e3, Bool.true_and, Bool.eq_iff_iff, decide_eq_true_eq, e]
  simp only [Bool.and_eq_true]
  constructor
  · intro h
    exact ⟨⟨⟨h 0 (by omega), h 1 (by omega)⟩, h 2 (by omega)⟩, h 3 (by omega)⟩
  · intro h j hj
    rcases (by omega : j = 0 ∨ j = 1 ∨ j = 2 ∨ j = 3) with rfl | rfl | rfl | rfl
    · exact h.1.1.1
    · exact h.1.1.2
    · exact h.1.2
    · exact h.2
theorem sPa_r (A : Nat) : sPa A 2401 = A.testBit 28 := by
  unfold sPa
  rw [Bool.eq_iff_iff, decide_eq_true_eq, sub_fi (en_lt 2401), en_28]
  constructor
  · intro h
    exact h.1 (decide_eq_true rfl)
  · intro h
    refine ⟨fun _ => h, fun j hj => ?_⟩
    rw [show fi (en 2401) j = 0 by rcases (by omega : j = 0 ∨ j = 1 ∨ j = 2 ∨ j = 3) with rfl | rfl | rfl | rfl <;> decide +kernel, nd_zero]
theorem sPa_c (A : Nat) {a : Nat} (ha : a ≤ 2401) : fb_ct (sPa A) a = fb_ct (dP (fi A) 4) a := fb_ct_cong fun k hk => sPa_d (by omega)
theorem sPa_2401 (A : Nat) : fb_ct (sPa A) 2401 = dC (fi A) 4 := by
  rw [sPa_c A (Nat.le_refl _)]
  exact dC_is (fi A) 4
theorem sPa_2402 (A : Nat) : fb_ct (sPa A) 2402 = dC (fi A) 4 + (if A.testBit 28 = true then 1 else 0) := by
  rw [show 2402 = 2401 + 1 from rfl, fb_ct_succ, sPa_2401, sPa_r]
section
variable {f : pd_M} {cl ed gv k m A : Nat}
theorem lm_no (q : Int32) : (∀ a, a < 2402 → fn_X9_isAllowedByAll (nI cl) (nI ed) (nI gv) (nI k) (nI m) (nI a) f = some (if sPa A a = true then 1 else 0)) → ∀ (r n a : Nat), a + r = 2402 → r < n → (∀ b, a ≤ b → b < 2402 → sPa A b = true → ¬ nI (fb_ct (sPa A) b) = q) → lp_X9_standIn_77 n (nI cl) (nI ed) (nI gv) (nI k) (nI m) q (nI (fb_ct (sPa A) a)) (nI a) f = some (.inr (nI (fb_ct (sPa A) 2402))) := by
  intro hA r
  induction r with
  | zero =>
    intro n a h1 h2 _
    obtain ⟨n, rfl⟩ : ∃ k, n = k + 1 := ⟨n - 1, by omega⟩
    have : a = 2402 := by omega
    subst this
    unfold lp_X9_standIn_77
    simp (disch := omega) only [l2401, lt_, show 2401 < 2402 by omega, if_true, if_false, ↓reduceIte, Bool.false_eq_true, reduceCtorEq]
  | succ r ih =>
    intro n a h1 h2 h3
    obtain ⟨n, rfl⟩ : ∃ k, n = k + 1 := ⟨n - 1, by omega⟩
    have hi := ih n (a + 1) (by omega) (by omega) (fun b q1 q2 => h3 b (by omega) q2)
    rw [fb_ct_succ] at hi
    unfold lp_X9_standIn_77
    simp (disch := omega) only [l2401, lt_, show ¬ 2401 < a by omega, hA a (by omega), o1s, pn, nI_1, if_true, if_false, ↓reduceIte, Bool.false_eq_true, reduceCtorEq]
    cases hp : sPa A a
    · rw [hp] at hi
      simpa using hi
    · have hq := h3 a (by omega) (by omega) hp
      rw [hp] at hi
      simpa [hq] using hi
theorem lm_hit {t : Nat} (ht : t < 2402) (hpt : sPa A t = true) : (∀ a, a < 2402 → fn_X9_isAllowedByAll (nI cl) (nI ed) (nI gv) (nI k) (nI m) (nI a) f = some (if sPa A a = true then 1 else 0)) → ∀ (r n a : Nat), a + r = t → r < n → lp_X9_standIn_77 n (nI cl) (nI ed) (nI gv) (nI k) (nI m) (nI (fb_ct (sPa A) t)) (nI (fb_ct (sPa A) a)) (nI a) f = some (.inl (nI t, f)) := by
  intro hA r
  induction r with
  | zero =>
    intro n a h1 h2
    obtain ⟨n, rfl⟩ : ∃ k, n = k + 1 := ⟨n - 1, by omega⟩
    have : a = t := by omega
    subst this
    unfold lp_X9_standIn_77
    simp (disch := omega) only [l2401, lt_, show ¬ 2401 < a by omega, hA a (by omega), hpt, o1s, o10, eq_self, if_true, if_false, ↓reduceIte, Bool.false_eq_true, reduceCtorEq]
  | succ r ih =>
    intro n a h1 h2
    obtain ⟨n, rfl⟩ : ∃ k, n = k + 1 := ⟨n - 1, by omega⟩
    have hi := ih n (a + 1) (by omega) (by omega)
    have hle := fb_ct_le (sPa A) a
    have hle2 := fb_ct_le (sPa A) t
    have hmo := fb_ct_mono (sPa A) (show a + 1 ≤ t by omega)
    rw [fb_ct_succ] at hi hmo
    unfold lp_X9_standIn_77
    simp (disch := omega) only [l2401, lt_, show ¬ 2401 < a by omega, hA a (by omega), o1s, pn, nI_1, lq, if_true, if_false, ↓reduceIte, Bool.false_eq_true, reduceCtorEq]
    cases hp : sPa A a
    · rw [hp] at hi
      simpa using hi
    · rw [hp] at hi hmo
      rw [if_pos rfl] at hmo
      have hne : ¬ fb_ct (sPa A) a = fb_ct (sPa A) t := by omega
      simpa [hne] using hi
end
theorem sTi_0 (M : Nat → Nat → Nat) (cl ed gv c : Nat) : sTi M cl ed gv c 0 = 536870911 := by unfold sTi; rfl
theorem l536 : (536870911 : Int32) = nI 536870911 := rfl
theorem os1_r {ρ α δ : Type} (a : α) (g : ρ → Option δ) (k : α → Option δ) : os1 (some (.inr a)) g k = k a := rfl
theorem os1_l {ρ α δ : Type} (a : ρ) (g : ρ → Option δ) (k : α → Option δ) : os1 (some (.inl a)) g k = g a := rfl
theorem sPa_v (A : Nat) : (if (nI A &&& 268435456) = 0 then some (nI (dC (fi A) 4)) else some (nI (dC (fi A) 4) + 1)) = some (nI (fb_ct (sPa A) 2402)) := by
  rw [q_28, sPa_2402]
  cases A.testBit 28
  · simp only [Bool.false_eq_true, if_false, Nat.add_zero]
    rw [if_pos (show nI 0 = 0 from rfl)]
  · simp only [eq_self, if_true]
    rw [if_neg (nI_ne0 (n := 268435456) (by omega) (by omega)), nI_1]
theorem st_end {f : pd_M} {cl ed gv k m A : Nat} (hA : A < 536870912) (hall : ∀ a, a < 2402 → fn_X9_isAllowedByAll (nI cl) (nI ed) (nI gv) (nI k) (nI m) (nI a) (pi_up f 110 0 0) = some (if sPa A a = true then 1 else 0)) (p6 : Int32) (h6 : -1 ≤ p6) :
    ∃ r, (if p6 = -1 then some (nI (fb_ct (sPa A) 2402)) else if p6 < nI (fb_ct (sPa A) 2402) then (if nI (dC (fi A) 4) ≤ p6 then some 2401 else ob1 (fn_X8_nthGiven (nI A) p6 f) fun r16 => some r16) else some (-1000000)) = some r ∧
      (os1 (lp_X9_standIn_77 5000 (nI cl) (nI ed) (nI gv) (nI k) (nI m) p6 0 0 (pi_up f 110 0 0)) (fun q => some q) fun y21 => if p6 = (-1) then some (y21, pi_up f 110 0 0) else some ((-1000000), pi_up f 110 0 0)) = some (r, pi_up f 110 0 0) := by
  have h2402 := sPa_2402 A
  have h2401 := sPa_2401 A
  have hct := fb_ct_le (sPa A) 2402
  have hct1 := fb_ct_le (sPa A) 2401
  have z00 : nI (fb_ct (sPa A) 0) = 0 := rfl
  have z01 : nI 0 = (0 : Int32) := rfl
  by_cases hm1 : p6 = -1
  · subst hm1
    have hl := lm_no (-1) hall 2402 5000 0 (by omega) (by omega) (fun b _ hb _ => by
      have := fb_ct_le (sPa A) b
      rw [zk (by omega)]
      exact id)
    rw [z00, z01] at hl
    refine ⟨nI (fb_ct (sPa A) 2402), if_pos rfl, ?_⟩
    rw [hl, os1_r, if_pos rfl]
  rw [if_neg hm1]
  have h6' : -1 ≤ p6.toInt := by
    rw [q_le, show (-1 : Int32).toInt = -1 by decide] at h6
    exact h6
  have hm1' : p6.toInt ≠ -1 := fun z => hm1 (Int32.toInt_inj.mp (by rw [z]; decide))
  rcases q_ix p6 (n := fb_ct (sPa A) 2402) (by omega) with hout | ⟨i, hi, rfl⟩
  · have hl := lm_no p6 hall 2402 5000 0 (by omega) (by omega) (fun b _ hb hp z => by
      have q1 := fb_ct_mono (sPa A) (show b + 1 ≤ 2402 by omega)
      have q2 := fb_ct_le (sPa A) b
      rw [fb_ct_succ, hp, if_pos rfl] at q1
      refine hout ?_
      rw [← z, nI_toInt (by omega)]
      omega)
    rw [z00, z01] at hl
    have hlt : ¬ p6 < nI (fb_ct (sPa A) 2402) := by
      rw [q_lt, nI_toInt (by omega)]
      omega
    refine ⟨-1000000, if_neg hlt, ?_⟩
    rw [hl, os1_r, if_neg hm1]
  · rw [if_pos (nI_lt hi (by omega))]
    by_cases hg : i < dC (fi A) 4
    · obtain ⟨a, a1, a2, a3, a4⟩ := c_nth (f := f) hA hg (by omega)
      have hpa : sPa A a = true := by rw [sPa_d a2]; exact a3
      have hra : fb_ct (sPa A) a = i := by rw [sPa_c A (by omega)]; exact a4
      have hl := lm_hit (show a < 2402 by omega) hpa hall a 5000 0 (by omega) (by omega)
      rw [hra] at hl
      rw [z00, z01] at hl
      refine ⟨nI a, ?_, ?_⟩
      · rw [if_neg (nI_ge hg (by omega)), a1]
        rfl
      · rw [hl, os1_l]
    · have hb28 : A.testBit 28 = true := by
        refine Decidable.byContradiction fun z => ?_
        rw [if_neg z] at h2402
        omega
      rw [if_pos hb28] at h2402
      have hpa : sPa A 2401 = true := by rw [sPa_r]; exact hb28
      have hl := lm_hit (show 2401 < 2402 by omega) hpa hall 2401 5000 0 (by omega) (by omega)
      have hdi : dC (fi A) 4 = i := by omega
      rw [h2401, hdi] at hl
      rw [z00, z01] at hl
      refine ⟨2401, ?_, ?_⟩
      · rw [if_pos ((nI_leI (by omega) (by omega)).mpr (by omega))]
      · rw [hl, os1_l, ← l2401]
theorem op_standIn {f : pd_M} (hT : Td f) (p1 p2 p3 p4 p5 p6 : Int32) : OpR (fn_X8_standIn p1 p2 p3 p4 p5 p6 f) (fn_X9_standIn p1 p2 p3 p4 p5 p6 f) f := by
  have hz := FrT_zz f
  have hG := Td_fr hz hT
  have hN := hT.1.2.2
  rcases q_ix p1 (n := 4) (by decide) with h | ⟨cl, h1, rfl⟩
  · refine ⟨-1000001, ?_, ?_⟩
    · unfold fn_X8_standIn
      rw [if_pos (show fn_X8_isBelow p1 4 = 0 from qB_out (n := 4) (by decide) h)]
    · unfold fn_X9_standIn
      simp only [pn, ser_out h, o1s, if_true]
  have b1 : fn_X8_isBelow (nI cl) 4 = 1 := qB_in (n := 4) h1 (by decide)
  rcases q_ix p2 (n := 4) (by decide) with h | ⟨ed, h2, rfl⟩
  · have c2 : fn_X9_in p2.toInt64 0 3 = 0 := qI_out (lo := 0) (hi := 3) (by decide) (by decide) (by omega)
    have b2 : fn_X8_isBelow p2 4 = 0 := qB_out (n := 4) (by decide) h
    refine ⟨-1000001, ?_, ?_⟩
    · unfold fn_X8_standIn
      simp only [b1, b2, o10, eq_self, if_true, if_false]
    · unfold fn_X9_standIn
      simp only [pn, ser_in h1, o1s, o10, c2, eq_self, if_true, if_false]
  have b2 : fn_X8_isBelow (nI ed) 4 = 1 := qB_in (n := 4) h2 (by decide)
  have c2 : fn_X9_in (nI ed).toInt64 0 3 = 1 := qI_in (lo := 0) (hi := 3) (by omega) (by omega) (by decide)
  rcases q_ix p3 (n := 4) (by decide) with h | ⟨gv, h3, rfl⟩
  · have b3 : fn_X8_isBelow p3 4 = 0 := qB_out (n := 4) (by decide) h
    refine ⟨-1000001, ?_, ?_⟩
    · unfold fn_X8_standIn
      simp only [b1, b2, b3, o10, eq_self, if_true, if_false]
    · unfold fn_X9_standIn
      simp only [pn, ser_in h1, ser_out h, o1s, o10, c2, eq_self, if_true, if_false]
  have b3 : fn_X8_isBelow (nI gv) 4 = 1 := qB_in (n := 4) h3 (by decide)
  by_cases hne : nI cl = nI gv
  · refine ⟨-1000001, ?_, ?_⟩
    · unfold fn_X8_standIn
      simp only [b1, b2, b3, hne, o10, eq_self, if_true, if_false]
    · unfold fn_X9_standIn
      rw [hne]
      simp only [pn, ser_in h3, o1s, o10, c2, eq_self, if_true, if_false]
  rcases q_ix p4 (n := 8) (by decide) with h | ⟨k, h4, rfl⟩
  · have c4 : fn_X9_in p4.toInt64 0 7 = 0 := qI_out (lo := 0) (hi := 7) (by decide) (by decide) (by omega)
    have b4 : fn_X8_isCase p4 p5 = 0 := by
      unfold fn_X8_isCase
      rw [if_pos (show fn_X8_isBelow p4 8 = 0 from qB_out (n := 8) (by decide) h)]
    refine ⟨-1000001, ?_, ?_⟩
    · unfold fn_X8_standIn
      simp only [b1, b2, b3, b4, hne, o10, eq_self, if_true, if_false]
    · unfold fn_X9_standIn
      simp only [pn, ser_in h1, ser_in h3, o1s, o10, c2, c4, hne, if_true, if_false]
  have c4 : fn_X9_in (nI k).toInt64 0 7 = 1 := qI_in (lo := 0) (hi := 7) (by omega) (by omega) (by decide)
  have k8 : fn_X8_isBelow (nI k) 8 = 1 := qB_in (n := 8) h4 (by decide)
  rcases q_ix p5 (n := 3) (by decide) with h | ⟨m, h5, rfl⟩
  · have c5 : fn_X9_in p5.toInt64 0 2 = 0 := qI_out (lo := 0) (hi := 2) (by decide) (by decide) (by omega)
    have b4 : fn_X8_isCase (nI k) p5 = 0 := by
      unfold fn_X8_isCase
      rw [k8, if_neg o10.mp, if_pos (show fn_X8_isBelow p5 3 = 0 from qB_out (n := 3) (by decide) h)]
    refine ⟨-1000001, ?_, ?_⟩
    · unfold fn_X8_standIn
      simp only [b1, b2, b3, b4, hne, o10, eq_self, if_true, if_false]
    · unfold fn_X9_standIn
      simp only [pn, ser_in h1, ser_in h3, o1s, o10, c2, c4, c5, hne, if_true, if_false]
  have c5 : fn_X9_in (nI m).toInt64 0 2 = 1 := qI_in (lo := 0) (hi := 2) (by omega) (by omega) (by decide)
  have b4 : fn_X8_isCase (nI k) (nI m) = 1 := by
    unfold fn_X8_isCase
    rw [k8, if_neg o10.mp, show fn_X8_isBelow (nI m) 3 = 1 from qB_in (n := 3) h5 (by decide), if_neg o10.mp]
  by_cases h6 : -1 ≤ p6
  rotate_left
  · refine ⟨-1000001, ?_, ?_⟩
    · unfold fn_X8_standIn
      simp only [b1, b2, b3, b4, hne, h6, o10, eq_self, if_true, if_false]
    · unfold fn_X9_standIn
      simp only [pn, ser_in h1, ser_in h3, o1s, o10, c2, c4, c5, hne, h6, if_true, if_false]
  have hca : fn_X8_caseOf (nI k) (nI m) = nI (3 * k + m) := by
    unfold fn_X8_caseOf
    rw [l3, pk_mul, nI_add]
  have hti : fn_X7_standIns (nI cl) (nI ed) (nI gv) (nI (3 * k + m)) f = some (nI (sTi (vw f) cl ed gv (3 * k + m) (vw f 0 0))) := by
    have := lc_ti hT h1 h2 h3 (show 3 * k + m < 24 by omega) (vw f 0 0) 5000 0 (by omega) (by omega)
    rw [sTi_0, ← l536, show nI 0 = (0 : Int32) from rfl] at this
    unfold fn_X7_standIns
    rw [this, o1s]
  have hall : ∀ a, a < 2402 → fn_X9_isAllowedByAll (nI cl) (nI ed) (nI gv) (nI k) (nI m) (nI a) (pi_up f 110 0 0) = some (if sPa (sTi (vw f) cl ed gv (3 * k + m) (vw f 0 0)) a = true then 1 else 0) := fun a ha => by
    have := m_all hG h1 h2 h3 h4 h5 ha
    rw [vw_fr hz] at this
    exact this
  have hA := sTi_lt (vw f) cl ed gv (3 * k + m) (vw f 0 0)
  generalize sTi (vw f) cl ed gv (3 * k + m) (vw f 0 0) = A at hti hall hA
  have hcg := c_countGiven (f := f) (x := A) (by omega)
  have hdc : pc (fi A 0) * pc (fi A 1) * pc (fi A 2) * pc (fi A 3) = dC (fi A) 4 := by
    show _ = 1 * pc (fi A 0) * pc (fi A 1) * pc (fi A 2) * pc (fi A 3)
    rw [Nat.one_mul]
  have hgl := pc4_lt (fi A 0) (fi A 1) (fi A 2) (fi A 3)
  rw [hdc] at hcg hgl
  have hv12 := sPa_v A
  have hcls : fn_X8_standIn (nI cl) (nI ed) (nI gv) (nI k) (nI m) p6 f = if p6 = -1 then some (nI (fb_ct (sPa A) 2402)) else if p6 < nI (fb_ct (sPa A) 2402) then (if nI (dC (fi A) 4) ≤ p6 then some 2401 else ob1 (fn_X8_nthGiven (nI A) p6 f) fun r16 => some r16) else some (-1000000) := by
    unfold fn_X8_standIn
    rw [b1, if_neg o10.mp, b2, if_neg o10.mp, b3, if_neg o10.mp, if_neg hne, b4, if_neg o10.mp, if_pos h6, hca, hti, o1s, hcg, o1s, hv12, o1s]
  have href : fn_X9_standIn (nI cl) (nI ed) (nI gv) (nI k) (nI m) p6 f = os1 (lp_X9_standIn_77 5000 (nI cl) (nI ed) (nI gv) (nI k) (nI m) p6 0 0 (pi_up f 110 0 0)) (fun q => some q) fun y21 => if p6 = (-1) then some (y21, pi_up f 110 0 0) else some ((-1000000), pi_up f 110 0 0) := by
    unfold fn_X9_standIn
    simp only [pn]
    rw [ser_in h1, o1s, if_neg o10.mp, c2, if_neg o10.mp, ser_in h3, o1s, if_neg o10.mp, if_neg hne, c4, if_neg o10.mp, c5, if_neg o10.mp, if_pos h6]
  unfold OpR
  rw [hcls, href]
  exact st_end hA hall p6 h6
