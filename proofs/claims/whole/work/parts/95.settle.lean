/-! PURE: what the class keeps ahead: kept SAYINGS, quarrels; over any numbers M that its rows bear -/
def SyR (M : Nat → Nat → Nat) (i : Nat) : Prop := M 121 i < 4 ∧ M 122 i < 4 ∧ M 123 i < 4 ∧ M 124 i ≤ M 125 i ∧ M 125 i < 8 ∧ M 126 i < 4 ∧ M 127 i < 2 ∧ M 128 i < 16 ∧ Fo M i
def SyC (c : pd_M) (M : Nat → Nat → Nat) (i : Nat) : Prop := c (48 + i) 0 = nI (M 121 i) ∧ c (48 + i) 1 = nI (M 122 i) ∧ c (48 + i) 2 = nI (M 123 i) ∧ c (48 + i) 3 = nI (M 124 i) ∧ c (48 + i) 4 = nI (M 125 i) ∧ c (48 + i) 5 = nI (M 126 i) ∧ c (48 + i) 6 = nI (M 128 i) ∧ c (48 + i) 7 = nI (ab M i) ∧ c (48 + i) 8 = nI (al M i)
def EdC (c : pd_M) (M : Nat → Nat → Nat) (e : Nat) : Prop := ∀ k, k < 24 → c (69 + 2 * e) k = nI (en (sAns M e (k / 3) (k % 3)))
theorem g_ab31 {M : Nat → Nat → Nat} {s : Nat} (h : SyR M s) : ab M s < 16777216 := ab_lt _ (by have := h.2.2.2.1; have := h.2.2.2.2.1; omega) _ h.2.2.2.2.1 _ h.2.2.2.2.2.1
theorem g_abbit {M : Nat → Nat → Nat} {s : Nat} (h : SyR M s) {c : Nat} (hc : c < 24) : (ab M s).testBit c = sAb M s (c / 3) (c % 3) := ab_bitN _ (by have := h.2.2.2.1; have := h.2.2.2.2.1; omega) _ h.2.2.2.2.1 h.2.2.2.1 _ h.2.2.2.2.2.1 c hc
theorem gl_firstBroken {c : pd_M} {M : Nat → Nat → Nat} {s e : Nat} (hs : s < 20) (hR : SyR M s) (hC : SyC c M s) (he : e < 16) (hE : EdC c M e) : ∀ (r n k : Nat), k + r = 24 → r < n → lp_X8_firstBroken_2 n (48 + s) (68 + 2 * e) (nI k) c = if ff (sBk M s e) r k = 24 then some (.inr ()) else some (.inl (nI (ff (sBk M s e) r k))) := by
  have k1 := arr_sh_45 hs
  have k2 := arr_sh_46 he
  have hF := hR.2.2.2.2.2.2.2.2
  have hb := g_ab31 hR
  have ha := al_lt hF
  obtain ⟨w0, w1⟩ := hC.2.2.2.2.2.2.2
  intro r
  induction r with
  | zero =>
    intro n k hk hn
    obtain ⟨n, rfl⟩ : ∃ k, n = k + 1 := ⟨n - 1, by omega⟩
    have : k = 24 := by omega
    subst this
    simp (disch := omega) only [lp_X8_firstBroken_2, k1, k2, l24, ly, ff, Nat.le_refl, if_true, if_false, ↓reduceIte, Bool.false_eq_true, reduceCtorEq]
  | succ r ih =>
    intro n k hk hn
    obtain ⟨n, rfl⟩ : ∃ k, n = k + 1 := ⟨n - 1, by omega⟩
    have hi := ih n (k + 1) (by omega) (by omega)
    have hA := hE k (by omega)
    have hEn := en_lt (sAns M e (k / 3) (k % 3))
    have hW := q_within (a := en (sAns M e (k / 3) (k % 3))) (b := al M s) (by omega)
    have hX := en_al hF (sAns M e (k / 3) (k % 3))
    simp (disch := omega) only [lp_X8_firstBroken_2, k1, k2, l24, ly, w0, w1, q_bit0, pn, nI_1, hi, zp, nI_clamp, show 68 + 2 * e + 1 = 69 + 2 * e by omega, hA, hW, show ¬ 24 ≤ k by omega, g_abbit hR (show k < 24 by omega), if_true, if_false, ↓reduceIte, Bool.false_eq_true, reduceCtorEq]
    rw [show ff (sBk M s e) (r + 1) k = if sBk M s e k = true then k else ff (sBk M s e) r (k + 1) from rfl]
    have hb : sBk M s e k = (sAb M s (k / 3) (k % 3) && decide (sWr M s (sAns M e (k / 3) (k % 3)) ≠ 9)) := rfl
    cases h1 : sAb M s (k / 3) (k % 3)
    · simp [hb, h1]
    · by_cases h2 : sWr M s (sAns M e (k / 3) (k % 3)) = 9
      · simp [hb, h1, h2, hX.mpr h2]
      · simp [hb, h1, h2, mt hX.mp h2, show k ≠ 24 by omega]
theorem g_firstBroken {c : pd_M} {M : Nat → Nat → Nat} {s e : Nat} (hs : s < 20) (hR : SyR M s) (hC : SyC c M s) (he : e < 16) (hE : EdC c M e) : fn_X8_firstBroken (48 + s) (68 + 2 * e) c = some (if sBr M s e = 24 then -1000000 else nI (sBr M s e)) := by
  have h := gl_firstBroken hs hR hC he hE 24 5000 0 (by omega) (by omega)
  unfold fn_X8_firstBroken sBr
  rw [show (0 : Int32) = nI 0 from rfl, h]
  simp only [arr_sh_45 hs, arr_sh_46 he, if_true]
  by_cases e : ff (sBk M s e) 24 0 = 24
  · simp only [e, if_true, os0]
  · simp only [e, if_false, os0]
/-- n SAYINGS in the class's rows -/
def SyN (c : pd_M) (M : Nat → Nat → Nat) (n : Nat) : Prop := n ≤ 20 ∧ c 40 4 = nI n ∧ ∀ i, i < n → SyR M i ∧ SyC c M i
theorem gl_keptBy {c : pd_M} {M : Nat → Nat → Nat} {N g e : Nat} (hN : SyN c M N) (hg : g < 4) (he : e < 4) (hE : EdC c M (4 * g + e)) : ∀ (r n i : Nat), i + r = N → r < n → lp_X7_keptBy_5 n (nI g) (nI e) (nI (orF (sKs M g e) i)) (nI i) c = some (nI (orF (sKs M g e) N)) := by
  obtain ⟨h20, h40, hS⟩ := hN
  intro r
  induction r with
  | zero =>
    intro n i hi hn
    obtain ⟨n, rfl⟩ : ∃ k, n = k + 1 := ⟨n - 1, by omega⟩
    have : i = N := by omega
    subst this
    simp (disch := omega) only [lp_X7_keptBy_5, h40, ly, Nat.le_refl, if_true, if_false, ↓reduceIte, Bool.false_eq_true, reduceCtorEq]
  | succ r ih =>
    intro n i hi hn
    obtain ⟨n, rfl⟩ : ∃ k, n = k + 1 := ⟨n - 1, by omega⟩
    have hi2 := ih n (i + 1) (by omega) (by omega)
    obtain ⟨hR, hC⟩ := hS i (by omega)
    have c2 := hC.2.2.1
    have c3 := hR.2.2.1
    have hfb := g_firstBroken (show i < 20 by omega) hR hC (show 4 * g + e < 16 by omega) hE
    have ho := orF_31 (sKs M g e) (n := i) (by omega)
    have hbr := sBr_le M i (4 * g + e)
    rw [show orF (sKs M g e) (i + 1) = if sKs M g e i = true then orF (sKs M g e) i ||| 2 ^ i else orF (sKs M g e) i from rfl] at hi2
    simp (disch := omega) only [lp_X7_keptBy_5, h40, ly, zp, nI_clamp, c2, lq, pn, nI_1, q_1shl, c_edOf, hfb, ob1, show ¬ N ≤ i by omega, if_true, if_false, ↓reduceIte, Bool.false_eq_true, reduceCtorEq]
    have hk : sKs M g e i = (decide (M 123 i = g) && decide (sBr M i (4 * g + e) = 24)) := rfl
    rw [hk] at hi2
    by_cases q1 : M 123 i = g
    · by_cases q2 : sBr M i (4 * g + e) = 24
      · simp only [q1, q2, if_true, fa_or, decide_true, Bool.and_self] at hi2 ⊢
        exact hi2
      · simp (disch := omega) only [q1, q2, zj, if_true, if_false, decide_false, Bool.and_false, Bool.false_eq_true] at hi2 ⊢
        exact hi2
    · simp only [q1, if_false, decide_false, Bool.false_and, Bool.false_eq_true] at hi2 ⊢
      exact hi2
theorem g_keptBy {c : pd_M} {M : Nat → Nat → Nat} {N g e : Nat} (hN : SyN c M N) (hg : g < 4) (he : e < 4) (hE : EdC c M (4 * g + e)) : fn_X7_keptBy (nI g) (nI e) c = some (nI (orF (sKs M g e) N)) := by
  have h := gl_keptBy hN hg he hE N 5000 0 (by omega) (by have := hN.1; omega)
  unfold fn_X7_keptBy
  rw [show lp_X7_keptBy_5 5000 (nI g) (nI e) 0 0 c = _ from h]
  rfl
theorem l_countGiven {f : pd_M} {x : Nat} (hx : x < 2 ^ 31) (n : Nat) : lp_X8_countGiven_4 (n + 5) (nI x) (nI 1) (nI 0) f = some (nI (1 * pc (fi x 0) * pc (fi x 1) * pc (fi x 2) * pc (fi x 3))) := by
  have e0 := fi_lt x 0
  have e1 := fi_lt x 1
  have e2 := fi_lt x 2
  have e3 := fi_lt x 3
  simp only [lp_X8_countGiven_4, pn, nI_1, Nat.zero_add, Nat.reduceAdd]
  simp (disch := omega) only [l4, ly, q_field, q_bc _ e0, q_bc _ e1, q_bc _ e2, q_bc _ e3, pk_mul, Nat.reduceLeDiff, if_true, if_false, ↓reduceIte, Bool.false_eq_true, reduceCtorEq]
theorem c_countGiven {f : pd_M} {x : Nat} (hx : x < 2 ^ 31) : fn_X8_countGiven (nI x) f = some (nI (pc (fi x 0) * pc (fi x 1) * pc (fi x 2) * pc (fi x 3))) := by
  have h := l_countGiven (f := f) hx 4995
  unfold fn_X8_countGiven
  rw [show lp_X8_countGiven_4 5000 (nI x) 1 0 f = _ from h, Nat.one_mul]
  rfl
theorem pc4_lt (a b c d : Nat) : pc a * pc b * pc c * pc d < 2402 := by
  have h1 := Nat.mul_le_mul (Nat.mul_le_mul (Nat.mul_le_mul (pc_le a) (pc_le b)) (pc_le c)) (pc_le d)
  omega
theorem c_hasNone {f : pd_M} {x : Nat} (hx : x < 2 ^ 31) : fn_X8_hasNone (nI x) f = some (if sHn x = true then 1 else 0) := by
  have e0 := pc_0 _ (fi_lt x 0)
  have e1 := pc_0 _ (fi_lt x 1)
  have e2 := pc_0 _ (fi_lt x 2)
  have e3 := pc_0 _ (fi_lt x 3)
  have hl := pc4_lt (fi x 0) (fi x 1) (fi x 2) (fi x 3)
  have hm : pc (fi x 0) * pc (fi x 1) * pc (fi x 2) * pc (fi x 3) = 0 ↔ (fi x 0 = 0 ∨ fi x 1 = 0 ∨ fi x 2 = 0 ∨ fi x 3 = 0) := by
    rw [Nat.mul_eq_zero, Nat.mul_eq_zero, Nat.mul_eq_zero, e0, e1, e2, e3, or_assoc, or_assoc]
  unfold fn_X8_hasNone sHn
  rw [q_28]
  cases x.testBit 28
  · simp (disch := omega) only [zc, c_countGiven hx, ob1, hm, Bool.false_eq_true, Bool.not_false, Bool.true_and, decide_eq_true_eq, if_true, if_false, ↓reduceIte, Bool.false_eq_true, reduceCtorEq]
    split <;> rfl
  · simp (disch := omega) only [zc, Bool.not_true, Bool.false_and, if_true, show ¬ 268435456 = 0 by decide, if_true, if_false, ↓reduceIte, Bool.false_eq_true, reduceCtorEq]
theorem g_shares {c : pd_M} {M : Nat → Nat → Nat} {N g b a : Nat} (hN : SyN c M N) (hg : g < 4) (hb : b < N) (ha : a < N) : fn_X7_sharesGiver (nI g) (nI b) (nI a) c = some (if decide (M 123 b = g ∧ M 123 a = g ∧ ab M b &&& ab M a ≠ 0) = true then 1 else 0) := by
  obtain ⟨h20, h40, hS⟩ := hN
  obtain ⟨Rb, -, -, cb, -, -, -, -, ub, -⟩ := hS b hb
  obtain ⟨Ra, -, -, ca, -, -, -, -, ua, -⟩ := hS a ha
  have r1 := Rb.2.2.1
  have r2 := Ra.2.2.1
  have hlt : ab M b &&& ab M a < 2 ^ 31 := and_lt (Nat.lt_trans (g_ab31 Rb) (by decide))
  unfold fn_X7_sharesGiver
  simp (disch := omega) only [zp, nI_clamp, cb, ca, ub, ua, lq, fa_and, zc, if_true, if_false, ↓reduceIte, Bool.false_eq_true, reduceCtorEq]
  by_cases q1 : M 123 b = g
  · by_cases q2 : M 123 a = g
    · by_cases q3 : ab M b &&& ab M a = 0
      · simp [q1, q2, q3]
      · simp [q1, q2, q3]
    · simp [q1, q2]
  · simp [q1]
theorem gl_q2 {c : pd_M} {M : Nat → Nat → Nat} {N g a : Nat} (hN : SyN c M N) (hg : g < 4) (ha : a < N) : ∀ (r n b : Nat), b + r = a → r < n → lp_X7_leastQuarrel_15 n (nI g) (nI a) (nI b) c = if ff (fun b => sP2 M g b a) r b = a then some (.inr ()) else some (.inl (nI (2 ^ ff (fun b => sP2 M g b a) r b ||| 2 ^ a))) := by
  have h20 := hN.1
  intro r
  induction r with
  | zero =>
    intro n b hb hn
    obtain ⟨n, rfl⟩ : ∃ k, n = k + 1 := ⟨n - 1, by omega⟩
    simp (disch := omega) only [lp_X7_leastQuarrel_15, ly, ff, show b = a by omega, Nat.le_refl, if_true, if_false, ↓reduceIte, Bool.false_eq_true, reduceCtorEq]
  | succ r ih =>
    intro n b hb hn
    obtain ⟨n, rfl⟩ : ∃ k, n = k + 1 := ⟨n - 1, by omega⟩
    have hi := ih n (b + 1) (by omega) (by omega)
    obtain ⟨Rb, -, -, -, -, -, -, -, -, wb⟩ := hN.2.2 b (by omega)
    obtain ⟨Ra, -, -, -, -, -, -, -, -, wa⟩ := hN.2.2 a ha
    have hlt : al M b &&& al M a < 2 ^ 31 := and_lt (Nat.lt_trans (al_lt Rb.2.2.2.2.2.2.2.2) (by decide))
    rw [show ff (fun b => sP2 M g b a) (r + 1) b = if sP2 M g b a = true then b else ff (fun b => sP2 M g b a) r (b + 1) from rfl]
    simp (disch := omega) only [lp_X7_leastQuarrel_15, ly, show ¬ a ≤ b by omega, g_shares hN hg (show b < N by omega) ha, ob1, pn, nI_1, zp, nI_clamp, wa, wb, fa_and, c_hasNone hlt, q_1shl, fa_or, hi, if_true, if_false, ↓reduceIte, Bool.false_eq_true, reduceCtorEq]
    have hp : sP2 M g b a = (decide (M 123 b = g ∧ M 123 a = g ∧ ab M b &&& ab M a ≠ 0) && sHn (al M b &&& al M a)) := rfl
    cases q1 : decide (M 123 b = g ∧ M 123 a = g ∧ ab M b &&& ab M a ≠ 0)
    · simp only [hp, q1, Bool.false_and, Bool.false_eq_true, if_false, if_true]
    · cases q2 : sHn (al M b &&& al M a)
      · simp only [hp, q1, q2, o10, Bool.and_false, Bool.false_eq_true, if_false, if_true]
      · simp only [hp, q1, q2, o10, Bool.and_self, if_false, if_true, show ¬ b = a by omega]
theorem gl_q2o {c : pd_M} {M : Nat → Nat → Nat} {N g : Nat} (hN : SyN c M N) (hg : g < 4) : ∀ (r n a : Nat), a + r = N → r < n → lp_X7_leastQuarrel_2 n (nI g) (nI a) c = if ff (fun a => decide (sQ2 M g a < a)) r a = N then some (.inr ()) else some (.inl (nI (2 ^ sQ2 M g (ff (fun a => decide (sQ2 M g a < a)) r a) ||| 2 ^ ff (fun a => decide (sQ2 M g a < a)) r a))) := by
  have h20 := hN.1
  intro r
  induction r with
  | zero =>
    intro n a ha hn
    obtain ⟨n, rfl⟩ : ∃ k, n = k + 1 := ⟨n - 1, by omega⟩
    simp (disch := omega) only [lp_X7_leastQuarrel_2, hN.2.1, ly, ff, show a = N by omega, Nat.le_refl, if_true, if_false, ↓reduceIte, Bool.false_eq_true, reduceCtorEq]
  | succ r ih =>
    intro n a ha hn
    obtain ⟨n, rfl⟩ : ∃ k, n = k + 1 := ⟨n - 1, by omega⟩
    have hi := ih n (a + 1) (by omega) (by omega)
    have h2 := gl_q2 hN hg (show a < N by omega) a 5000 0 (by omega) (by omega)
    rw [show nI 0 = (0 : Int32) from rfl] at h2
    have hle := ff_le (fun b => sP2 M g b a) a 0
    rw [show ff (fun a => decide (sQ2 M g a < a)) (r + 1) a = if decide (sQ2 M g a < a) = true then a else ff (fun a => decide (sQ2 M g a < a)) r (a + 1) from rfl]
    simp (disch := omega) only [lp_X7_leastQuarrel_2, hN.2.1, ly, show ¬ N ≤ a by omega, h2, pn, nI_1, hi, if_true, if_false, ↓reduceIte, Bool.false_eq_true, reduceCtorEq]
    have e2 : sQ2 M g a = ff (fun b => sP2 M g b a) a 0 := rfl
    by_cases q : ff (fun b => sP2 M g b a) a 0 = a
    · simp only [q, e2, if_true, os0, Nat.lt_irrefl, decide_false, Bool.false_eq_true, if_false]
    · simp only [q, e2, if_true, os0, show ff (fun b => sP2 M g b a) a 0 < a by omega, decide_true, if_false, show ¬ a = N by omega]
theorem gl_third {c : pd_M} {M : Nat → Nat → Nat} {N g b a : Nat} (hN : SyN c M N) (hba : b < a) (ha : a < N) (hg1 : M 123 b = g) (hg2 : M 123 a = g) : ∀ (r n i : Nat), i + r = b → r < n → lp_X7_leastThird_44 n (nI b) (nI (ab M b &&& ab M a)) (nI (al M b &&& al M a)) (nI i) c = if ff (fun i => sP3 M g i b a) r i = b then some (.inr ()) else some (.inl (nI (ff (fun i => sP3 M g i b a) r i))) := by
  have h20 := hN.1
  obtain ⟨Rb, -, -, cb, -, -, -, -, ub, wb⟩ := hN.2.2 b (by omega)
  obtain ⟨Ra, -, -, ca, -, -, -, -, ua, wa⟩ := hN.2.2 a ha
  have r1 := Rb.2.2.1
  intro r
  induction r with
  | zero =>
    intro n i hi hn
    obtain ⟨n, rfl⟩ : ∃ k, n = k + 1 := ⟨n - 1, by omega⟩
    simp (disch := omega) only [lp_X7_leastThird_44, ly, ff, show i = b by omega, Nat.le_refl, if_true, if_false, ↓reduceIte, Bool.false_eq_true, reduceCtorEq]
  | succ r ih =>
    intro n i hi hn
    obtain ⟨n, rfl⟩ : ∃ k, n = k + 1 := ⟨n - 1, by omega⟩
    have hi2 := ih n (i + 1) (by omega) (by omega)
    obtain ⟨Ri, -, -, ci, -, -, -, -, ui, wi⟩ := hN.2.2 i (by omega)
    have r2 := Ri.2.2.1
    have hl1 : (ab M b &&& ab M a) &&& ab M i < 2 ^ 31 := and_lt (and_lt (Nat.lt_trans (g_ab31 Rb) (by decide)))
    have hl2 : (al M b &&& al M a) &&& al M i < 2 ^ 31 := and_lt (and_lt (Nat.lt_trans (al_lt Rb.2.2.2.2.2.2.2.2) (by decide)))
    rw [show ff (fun i => sP3 M g i b a) (r + 1) i = if sP3 M g i b a = true then i else ff (fun i => sP3 M g i b a) r (i + 1) from rfl]
    simp (disch := omega) only [lp_X7_leastThird_44, ly, show ¬ b ≤ i by omega, zp, nI_clamp, cb, ci, ui, wi, lq, fa_and, zc, c_hasNone hl2, ob1, pn, nI_1, hi2, if_true, if_false, ↓reduceIte, Bool.false_eq_true, reduceCtorEq]
    have hp : sP3 M g i b a = (decide (M 123 i = g ∧ M 123 b = g ∧ M 123 a = g ∧ (ab M b &&& ab M a) &&& ab M i ≠ 0) && sHn ((al M b &&& al M a) &&& al M i)) := rfl
    rw [hg1]
    by_cases q1 : M 123 i = g
    · by_cases q2 : (ab M b &&& ab M a) &&& ab M i = 0
      · simp only [hp, q1, q2, if_true, ne_eq, not_true_eq_false, and_false, decide_false, Bool.false_and, Bool.false_eq_true, if_false]
      · cases q3 : sHn ((al M b &&& al M a) &&& al M i)
        · simp only [hp, q1, q2, q3, if_true, if_false, Bool.false_eq_true, Bool.and_false]
        · simp only [hp, q1, hg1, hg2, q2, q3, o10, if_true, if_false, ne_eq, not_false_eq_true, and_self, decide_true, Bool.and_self, show ¬ i = b by omega]
    · simp only [hp, q1, if_false, false_and, decide_false, Bool.false_and, Bool.false_eq_true]
theorem sP3_no {M : Nat → Nat → Nat} {g b a : Nat} (h : decide (M 123 b = g ∧ M 123 a = g ∧ ab M b &&& ab M a ≠ 0) = false) : sQ3 M g b a = b := by
  refine ff_is (by omega) (by omega) (fun j _ _ => ?_) (fun z => absurd z (by omega))
  unfold sP3
  have : ¬ (M 123 j = g ∧ M 123 b = g ∧ M 123 a = g ∧ (ab M b &&& ab M a) &&& ab M j ≠ 0) := by
    rintro ⟨-, h1, h2, h3⟩
    refine of_decide_eq_false h ⟨h1, h2, fun e => h3 ?_⟩
    rw [e, Nat.zero_and]
  simp only [this, decide_false, Bool.false_and]
theorem gl_q3 {c : pd_M} {M : Nat → Nat → Nat} {N g a : Nat} (hN : SyN c M N) (hg : g < 4) (ha : a < N) : ∀ (r n b : Nat), b + r = a → r < n → lp_X7_leastQuarrel_90 n (nI g) (nI a) (nI b) c = if ff (fun b => decide (sQ3 M g b a < b)) r b = a then some (.inr ()) else some (.inl (nI ((2 ^ sQ3 M g (ff (fun b => decide (sQ3 M g b a < b)) r b) a ||| 2 ^ ff (fun b => decide (sQ3 M g b a < b)) r b) ||| 2 ^ a))) := by
  have h20 := hN.1
  intro r
  induction r with
  | zero =>
    intro n b hb hn
    obtain ⟨n, rfl⟩ : ∃ k, n = k + 1 := ⟨n - 1, by omega⟩
    simp (disch := omega) only [lp_X7_leastQuarrel_90, ly, ff, show b = a by omega, Nat.le_refl, if_true, if_false, ↓reduceIte, Bool.false_eq_true, reduceCtorEq]
  | succ r ih =>
    intro n b hb hn
    obtain ⟨n, rfl⟩ : ∃ k, n = k + 1 := ⟨n - 1, by omega⟩
    have hi := ih n (b + 1) (by omega) (by omega)
    obtain ⟨Rb, -, -, cb, -, -, -, -, ub, wb⟩ := hN.2.2 b (by omega)
    obtain ⟨Ra, -, -, ca, -, -, -, -, ua, wa⟩ := hN.2.2 a ha
    have hq := sQ3_le M g b a
    rw [show ff (fun b => decide (sQ3 M g b a < b)) (r + 1) b = if decide (sQ3 M g b a < b) = true then b else ff (fun b => decide (sQ3 M g b a < b)) r (b + 1) from rfl]
    simp (disch := omega) only [lp_X7_leastQuarrel_90, ly, show ¬ a ≤ b by omega, g_shares hN hg (show b < N by omega) ha, ob1, pn, nI_1, hi, if_true, if_false, ↓reduceIte, Bool.false_eq_true, reduceCtorEq]
    cases q1 : decide (M 123 b = g ∧ M 123 a = g ∧ ab M b &&& ab M a ≠ 0)
    · simp only [Bool.false_eq_true, if_false, if_true, sP3_no q1, Nat.lt_irrefl, decide_false]
    · have q2 := of_decide_eq_true q1
      have h3 := gl_third hN (show b < a by omega) ha q2.1 q2.2.1 b 5000 0 (by omega) (by omega)
      rw [show nI 0 = (0 : Int32) from rfl] at h3
      have hth : fn_X7_leastThird (nI b) (nI a) c = some (if sQ3 M g b a = b then -1000000 else nI (sQ3 M g b a)) := by
        unfold fn_X7_leastThird
        simp (disch := omega) only [zp, nI_clamp, ub, ua, wb, wa, fa_and, pn, h3, if_true, if_false, ↓reduceIte, Bool.false_eq_true, reduceCtorEq]
        rw [show ff (fun i => sP3 M g i b a) b 0 = sQ3 M g b a from rfl]
        by_cases e : sQ3 M g b a = b
        · simp only [e, if_true, os0]
        · simp only [e, if_false, os0]
      by_cases e : sQ3 M g b a = b
      · simp only [hth, e, o10, if_true, if_false, Nat.lt_irrefl, decide_false, Bool.false_eq_true]
      · simp (disch := omega) only [hth, e, o10, zj, if_true, if_false, show sQ3 M g b a < b by omega, decide_true, q_1shl, fa_or, show ¬ b = a by omega]
theorem gl_q3o {c : pd_M} {M : Nat → Nat → Nat} {N g : Nat} (hN : SyN c M N) (hg : g < 4) : ∀ (r n a : Nat), a + r = N → 1 ≤ a → r < n → lp_X7_leastQuarrel_77 n (nI g) (nI a) c = if ff (fun a => decide (sQb M g a < a)) r a = N then some (.inr ()) else some (.inl (nI ((2 ^ sQ3 M g (sQb M g (ff (fun a => decide (sQb M g a < a)) r a)) (ff (fun a => decide (sQb M g a < a)) r a) ||| 2 ^ sQb M g (ff (fun a => decide (sQb M g a < a)) r a)) ||| 2 ^ ff (fun a => decide (sQb M g a < a)) r a))) := by
  have h20 := hN.1
  intro r
  induction r with
  | zero =>
    intro n a ha h1 hn
    obtain ⟨n, rfl⟩ : ∃ k, n = k + 1 := ⟨n - 1, by omega⟩
    simp (disch := omega) only [lp_X7_leastQuarrel_77, hN.2.1, ly, ff, show a = N by omega, Nat.le_refl, if_true, if_false, ↓reduceIte, Bool.false_eq_true, reduceCtorEq]
  | succ r ih =>
    intro n a ha h1 hn
    obtain ⟨n, rfl⟩ : ∃ k, n = k + 1 := ⟨n - 1, by omega⟩
    have hi := ih n (a + 1) (by omega) (by omega) (by omega)
    have h2 := gl_q3 hN hg (show a < N by omega) (a - 1) 5000 1 (by omega) (by omega)
    rw [show nI 1 = (1 : Int32) from rfl] at h2
    have hb0 : ff (fun b => decide (sQ3 M g b a < b)) (a - 1) 1 = sQb M g a := by
      unfold sQb
      rw [show ff (fun b => decide (sQ3 M g b a < b)) a 0 = ff (fun b => decide (sQ3 M g b a < b)) (a - 1 + 1) 0 by rw [show a - 1 + 1 = a by omega]]
      rw [show ff (fun b => decide (sQ3 M g b a < b)) (a - 1 + 1) 0 = if decide (sQ3 M g 0 a < 0) = true then 0 else ff (fun b => decide (sQ3 M g b a < b)) (a - 1) (0 + 1) from rfl, if_neg (by simp)]
    have hle := sQb_le M g a
    rw [hb0] at h2
    rw [show ff (fun a => decide (sQb M g a < a)) (r + 1) a = if decide (sQb M g a < a) = true then a else ff (fun a => decide (sQb M g a < a)) r (a + 1) from rfl]
    simp (disch := omega) only [lp_X7_leastQuarrel_77, hN.2.1, ly, show ¬ N ≤ a by omega, h2, pn, nI_1, hi, if_true, if_false, ↓reduceIte, Bool.false_eq_true, reduceCtorEq]
    by_cases q : sQb M g a = a
    · simp only [q, if_true, os0, Nat.lt_irrefl, decide_false, Bool.false_eq_true, if_false]
    · simp only [q, if_true, os0, show sQb M g a < a by omega, decide_true, if_false, show ¬ a = N by omega]
theorem ff_drop {p : Nat → Bool} {N k : Nat} (hk : k ≤ N) (h : ∀ j, j < k → p j = false) : ff p (N - k) k = ff p N 0 := by
  have := ff_split p (N - k) k 0
  rw [show k + (N - k) = N by omega, Nat.zero_add, ff_is (p := p) (r := k) (k := 0) (i := k) (by omega) (by omega) (fun j _ hj => h j hj) (fun z => absurd z (by omega)), if_pos rfl] at this
  exact this.symm
theorem g_leastQuarrel {c : pd_M} {M : Nat → Nat → Nat} {g : Nat} (hN : SyN c M (M 0 0)) (hg : g < 4) : fn_X7_leastQuarrel (nI g) c = some (nI (sQ M g)) := by
  have h20 := hN.1
  have hle := ff_le (fun a => decide (sQ2 M g a < a)) (M 0 0) 0
  have hle2 := ff_le (fun a => decide (sQb M g a < a)) (M 0 0) 0
  have small : ∀ (n a : Nat), M 0 0 ≤ a → a < 20 → lp_X7_leastQuarrel_2 (n + 1) (nI g) (nI a) c = some (.inr ()) ∧ lp_X7_leastQuarrel_77 (n + 1) (nI g) (nI a) c = some (.inr ()) := by
    intro n a h h2
    constructor
    · simp (disch := omega) only [lp_X7_leastQuarrel_2, hN.2.1, ly, h, if_true, if_false, ↓reduceIte, Bool.false_eq_true, reduceCtorEq]
    · simp (disch := omega) only [lp_X7_leastQuarrel_77, hN.2.1, ly, h, if_true, if_false, ↓reduceIte, Bool.false_eq_true, reduceCtorEq]
  have p1 : ∀ j, j < 1 → (fun a => decide (sQ2 M g a < a)) j = false := fun j hj => by
    have : j = 0 := by omega
    subst this
    simp
  have p2 : ∀ j, j < 2 → (fun a => decide (sQb M g a < a)) j = false := fun j hj => by
    show decide (sQb M g j < j) = false
    rcases (by omega : j = 0 ∨ j = 1) with rfl | rfl
    · simp
    · have z : ∀ i, 0 ≤ i → i < 1 → (fun b => decide (sQ3 M g b 1 < b)) i = false := by
        intro i _ hi
        have : i = 0 := by omega
        subst this
        simp
      have : sQb M g 1 = 1 := ff_is (by omega) (by omega) z (fun z => absurd z (by omega))
      rw [this]; simp
  have h1 : lp_X7_leastQuarrel_2 5000 (nI g) 1 c = if sQi M g = M 0 0 then some (.inr ()) else some (.inl (nI (2 ^ sQ2 M g (sQi M g) ||| 2 ^ sQi M g))) := by
    by_cases q : M 0 0 ≤ 1
    · rw [show lp_X7_leastQuarrel_2 5000 (nI g) 1 c = _ from (small 4999 1 q (by omega)).1, if_pos]
      exact ff_is (by omega) (by omega) (fun j _ hj => p1 j (by omega)) (fun z => absurd z (by omega))
    · have := gl_q2o hN hg (M 0 0 - 1) 5000 1 (by omega) (by omega)
      rw [ff_drop (by omega) p1] at this
      exact this
  have h2 : lp_X7_leastQuarrel_77 5000 (nI g) 2 c = if sQk M g = M 0 0 then some (.inr ()) else some (.inl (nI ((2 ^ sQ3 M g (sQb M g (sQk M g)) (sQk M g) ||| 2 ^ sQb M g (sQk M g)) ||| 2 ^ sQk M g))) := by
    by_cases q : M 0 0 ≤ 2
    · rw [show lp_X7_leastQuarrel_77 5000 (nI g) 2 c = _ from (small 4999 2 q (by omega)).2, if_pos]
      exact ff_is (by omega) (by omega) (fun j _ hj => p2 j (by omega)) (fun z => absurd z (by omega))
    · have := gl_q3o hN hg (M 0 0 - 2) 5000 2 (by omega) (by omega) (by omega)
      rw [ff_drop (by omega) p2] at this
      exact this
  unfold fn_X7_leastQuarrel sQ
  rw [h1, h2]
  have hi : sQi M g ≤ M 0 0 := by unfold sQi; omega
  have hk : sQk M g ≤ M 0 0 := by unfold sQk; omega
  by_cases q : sQi M g = M 0 0
  · simp only [q, if_true, os0, Nat.lt_irrefl, if_false]
    by_cases q2 : sQk M g = M 0 0
    · simp only [q2, if_true, Nat.lt_irrefl, if_false]; rfl
    · simp only [q2, if_false, show sQk M g < M 0 0 by omega, if_true]
  · simp only [q, if_false, os0, show sQi M g < M 0 0 by omega, if_true]
