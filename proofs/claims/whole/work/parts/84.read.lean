/-! PURE: readers of what is told -/
theorem vw_a {f : pd_M} {a k : Nat} (h : 114 ≤ a ∧ a < 134) : vw f a k = (f a k).toNatClampNeg := by
  unfold vw
  rw [if_neg (by omega), if_pos h]
theorem qI_n (p : Int32) {n : Nat} (hn : n < 2 ^ 30) : fn_X9_in p.toInt64 0 ((nI n - 1).toInt64) = if 0 ≤ p.toInt ∧ p.toInt < n then 1 else 0 := by
  rw [qI, q_l, q_l, show (nI n - 1).toInt = (n : Int) - 1 from pk_sub_toInt (b := 1) hn (by decide), show (0 : Int64).toInt = 0 by decide]
  by_cases h : 0 ≤ p.toInt ∧ p.toInt < n
  · rw [if_pos h, if_pos (by omega)]
  · rw [if_neg h, if_neg (by omega)]
theorem qI_nn {a lo hi : Nat} (ha : a < 2 ^ 31) (hl : lo < 2 ^ 31) (hh : hi < 2 ^ 31) : fn_X9_in (nI a).toInt64 (nI lo).toInt64 (nI hi).toInt64 = if lo ≤ a ∧ a ≤ hi then 1 else 0 := by
  rw [qI, q_l, q_l, q_l, nI_toInt ha, nI_toInt hl, nI_toInt hh]
  by_cases h : lo ≤ a ∧ a ≤ hi
  · rw [if_pos h, if_pos (by omega)]
  · rw [if_neg h, if_neg (by omega)]
theorem ff_split (p : Nat → Bool) (n : Nat) : ∀ m k, ff p (m + n) k = if ff p m k = k + m then ff p n (k + m) else ff p m k
  | 0, k => by simp [ff]
  | m + 1, k => by
    rw [show m + 1 + n = (m + n) + 1 by omega, show ff p (m + n + 1) k = if p k = true then k else ff p (m + n) (k + 1) from rfl, show ff p (m + 1) k = if p k = true then k else ff p m (k + 1) from rfl]
    by_cases h : p k = true
    · rw [if_pos h, if_pos h, if_neg (by omega)]
    · rw [if_neg h, if_neg h, ff_split p n m (k + 1), show k + (m + 1) = k + 1 + m by omega]
theorem Sy_Fo {f : pd_M} {s : Nat} (h : Sy f s) : Fo (vw f) s := fun j hj => (h.2.2.2.2.2.2.2.2.1 j hj).2
def wI (x : Nat) : Int32 := if x = 9 then -1000000 else nI x
theorem m_isAbout {f : pd_M} {s a m : Nat} (hs : s < 20) (hy : Sy f s) (ha : a < 8) (hm : m < 3) : fn_X9_isAbout (nI s) (nI a) (nI m) f = some (if sAb (vw f) s a m = true then 1 else 0) := by
  obtain ⟨-, -, -, ⟨e4, -⟩, ⟨e5, -, h45, h5⟩, ⟨e6, -, h6⟩, -⟩ := hy
  unfold fn_X9_isAbout sAb
  simp (disch := omega) only [zp, nI_clamp, e4, e5, e6, qI_nn, l3, lq, if_true, if_false, ↓reduceIte, Bool.false_eq_true, reduceCtorEq]
  by_cases h1 : vw f 124 s ≤ a ∧ a ≤ vw f 125 s
  · by_cases h2 : vw f 126 s = 3
    · simp [h1, h2]
    · by_cases h3 : vw f 126 s = m
      · simp [h1, h3]
      · simp [h1, h2, h3]
  · have : ¬ (vw f 124 s ≤ a ∧ a ≤ vw f 125 s ∧ (vw f 126 s = 3 ∨ vw f 126 s = m)) := fun z => h1 ⟨z.1, z.2.1⟩
    simp [h1, this]
theorem o10 : ((1 : Int32) = 0) = False := eq_false (by decide)
theorem l_fieldIn {f : pd_M} {a j : Nat} (ha : a < 2402) (hj : j < 4) (n : Nat) : lp_X9_fieldIn_4 (n + 5) (nI j) (nI a) (nI 0) f = some (nI (a / 7 ^ j)) := by
  rcases (by omega : j = 0 ∨ j = 1 ∨ j = 2 ∨ j = 3) with rfl | rfl | rfl | rfl <;>
  · simp (disch := omega) [lp_X9_fieldIn_4, nI_1, l7, pn, ly, pk_div, Nat.div_div_eq_div_mul]
theorem m_fieldIn {f : pd_M} {a j : Nat} (ha : a < 2402) (hj : j < 4) : fn_X9_fieldIn (nI a) (nI j) f = some (nI (dg a j)) := by
  have h := l_fieldIn (f := f) ha hj 4995
  have h2 : a / 7 ^ j ≤ a := Nat.div_le_self _ _
  unfold fn_X9_fieldIn dg
  rw [show lp_X9_fieldIn_4 5000 (nI j) (nI a) 0 f = some (nI (a / 7 ^ j)) from h]
  show some _ = _
  rw [l7, pk_rem (by omega) (by decide) (by decide)]
theorem lm_wrongIn {f : pd_M} {s a : Nat} (hs : s < 20) (hy : Sy f s) (ha : a < 2402) : ∀ (r n j : Nat), j + r = 4 → r < n → lp_X9_wrongIn_46 n (nI s) (nI a) (nI j) f = if ff (fun j => !(vw f 129 (4 * s + j)).testBit (dg a j)) r j = 4 then some (.inr ()) else some (.inl (nI (ff (fun j => !(vw f 129 (4 * s + j)).testBit (dg a j)) r j))) := by
  intro r
  induction r with
  | zero =>
    intro n j hj hn
    obtain ⟨n, rfl⟩ : ∃ k, n = k + 1 := ⟨n - 1, by omega⟩
    have : j = 4 := by omega
    subst this
    simp (disch := omega) only [lp_X9_wrongIn_46, l4, ly, ff, Nat.le_refl, if_true, if_false, ↓reduceIte, Bool.false_eq_true, reduceCtorEq]
  | succ r ih =>
    intro n j hj hn
    obtain ⟨n, rfl⟩ : ∃ k, n = k + 1 := ⟨n - 1, by omega⟩
    obtain ⟨e1, -, e2⟩ := hy.2.2.2.2.2.2.2.2.1 j (by omega)
    have hd := dg_lt a j
    simp (disch := omega) only [lp_X9_wrongIn_46, l4, ly, pk_mul, nI_add, zp, nI_clamp, m_fieldIn ha, pn, ob1, ob2, os0, os1, e1, q_bit0, show ¬ 4 ≤ j by omega, if_true, if_false, ↓reduceIte, Bool.false_eq_true, reduceCtorEq]
    rw [show ff (fun j => !(vw f 129 (4 * s + j)).testBit (dg a j)) (r + 1) j = if (!(vw f 129 (4 * s + j)).testBit (dg a j)) = true then j else ff (fun j => !(vw f 129 (4 * s + j)).testBit (dg a j)) r (j + 1) from rfl]
    cases e : (vw f 129 (4 * s + j)).testBit (dg a j)
    · simp [show j ≠ 4 by omega]
    · simp only [nI_1, Bool.true_eq_false, if_false, Bool.not_true, Bool.false_eq_true]
      exact ih n (j + 1) (by omega) (by omega)
theorem m_wrongIn {f : pd_M} {s a : Nat} (hs : s < 20) (hy : Sy f s) (ha : a < 2402) : fn_X9_wrongIn (nI s) (nI a) f = some (wI (sWr (vw f) s a)) := by
  have hl := lm_wrongIn hs hy ha 4 5000 0 (by omega) (by omega)
  have h5 := ff_le (fun j => !(vw f 129 (4 * s + j)).testBit (dg a j)) 4 0
  obtain ⟨e7, h7⟩ := hy.2.2.2.2.2.2.2.1
  unfold fn_X9_wrongIn sWr
  rw [show (0 : Int32) = nI 0 from rfl]
  simp (disch := omega) only [zp, nI_clamp, e7, lq, l2401, pn, ob1, ob2, os0, os1, hl, if_true, if_false, ↓reduceIte, Bool.false_eq_true, reduceCtorEq]
  by_cases h1 : vw f 127 s = 1
  · by_cases h2 : a = 2401
    · simp [h1, h2, wI]; decide
    · simp [h1, h2, wI]; decide
  · have h1' : vw f 127 s = 0 := by omega
    by_cases h2 : a = 2401
    · simp [h1', h2, wI]; decide
    · simp only [h1', h2, if_true, if_false, Nat.zero_ne_one]
      unfold sWj
      by_cases h3 : ff (fun j => !(vw f 129 (4 * s + j)).testBit (dg a j)) 4 0 = 4
      · simp [h3, wI]
      · simp only [h3, if_false]
        unfold wI
        rw [if_neg (by omega)]
theorem lm_answerOf {f : pd_M} {e a m : Nat} (he : e < 16) (hE : Ed f e) (ha : a < 8) (hm : m < 3) : ∀ (r n k : Nat), k + r = 6 * e + vw f 116 e → 6 * e ≤ k → r < n → lp_X9_answerOf_14 n (nI a) (nI m) (nI e) (nI k) f = if ff (sRu (vw f) a m) r k = 6 * e + vw f 116 e then some (.inr ()) else some (.inl (nI (vw f 120 (ff (sRu (vw f) a m) r k)))) := by
  obtain ⟨⟨e6, h6⟩, hr, -⟩ := hE
  intro r
  induction r with
  | zero =>
    intro n k hk hk2 hn
    obtain ⟨n, rfl⟩ : ∃ k, n = k + 1 := ⟨n - 1, by omega⟩
    simp (disch := omega) only [lp_X9_answerOf_14, zp, nI_clamp, e6, l6, pk_mul, nI_add, ly, ff, show 6 * e + vw f 116 e ≤ k by omega, show k = 6 * e + vw f 116 e by omega, Nat.le_refl, if_true, if_false, ↓reduceIte, Bool.false_eq_true, reduceCtorEq]
  | succ r ih =>
    intro n k hk hk2 hn
    obtain ⟨n, rfl⟩ : ∃ k, n = k + 1 := ⟨n - 1, by omega⟩
    obtain ⟨c1, d1, c2, d2, c3, d3, c4, d4⟩ := hr k hk2 (by omega)
    have hi := ih n (k + 1) (by omega) (by omega) (by omega)
    simp (disch := omega) only [lp_X9_answerOf_14, zp, nI_clamp, e6, l6, l3, pk_mul, nI_add, ly, lq, c1, c2, c3, c4, qI_nn, pn, nI_1, hi, show ¬ 6 * e + vw f 116 e ≤ k by omega, if_true, if_false, ↓reduceIte, Bool.false_eq_true, reduceCtorEq]
    rw [show ff (sRu (vw f) a m) (r + 1) k = if sRu (vw f) a m k = true then k else ff (sRu (vw f) a m) r (k + 1) from rfl]
    have hs : sRu (vw f) a m k = decide (vw f 117 k ≤ a ∧ a ≤ vw f 118 k ∧ (vw f 119 k = 3 ∨ vw f 119 k = m)) := rfl
    have hne : k ≠ 6 * e + vw f 116 e := by omega
    by_cases h1 : vw f 117 k ≤ a ∧ a ≤ vw f 118 k
    · by_cases h2 : vw f 119 k = 3
      · simp [hs, h1, h2, hne]
      · by_cases h3 : vw f 119 k = m
        · simp [hs, h1, h3, hne]
        · simp [hs, h1, h2, h3]
    · have : ¬ (vw f 117 k ≤ a ∧ a ≤ vw f 118 k ∧ (vw f 119 k = 3 ∨ vw f 119 k = m)) := fun z => h1 ⟨z.1, z.2.1⟩
      simp [hs, h1, this]
theorem sAns_lt {f : pd_M} {e : Nat} (hE : Ed f e) (a m : Nat) : sAns (vw f) e a m < 2402 := by
  unfold sAns
  have h5 := ff_le (sRu (vw f) a m) (vw f 116 e) (6 * e)
  split
  · decide
  · exact (hE.2.1 _ h5.1 (by omega)).2.2.2.2.2.2.2
theorem m_answerOf {f : pd_M} {g e a m : Nat} (hg : g < 4) (he : e < 4) (hE : Ed f (4 * g + e)) (ha : a < 8) (hm : m < 3) : fn_X9_answerOf (nI g) (nI e) (nI a) (nI m) f = some (nI (sAns (vw f) (4 * g + e) a m)) := by
  have h6 := hE.1.2
  have hl := lm_answerOf (by omega) hE ha hm (vw f 116 (4 * g + e)) 5000 (6 * (4 * g + e)) (by omega) (by omega) (by omega)
  unfold fn_X9_answerOf sAns
  simp (disch := omega) only [pn, l4, l6, pk_mul, nI_add, hl]
  by_cases h : ff (sRu (vw f) a m) (vw f 116 (4 * g + e)) (6 * (4 * g + e)) = 6 * (4 * g + e) + vw f 116 (4 * g + e)
  · simp only [h, if_true, os0]; rfl
  · simp only [h, if_false, os0]
def sVal (M : Nat → Nat → Nat) (s e c : Nat) : Nat := 64 * (c / 3) + 8 * (c % 3) + sWr M s (sAns M e (c / 3) (c % 3))
theorem lm_breaks1 {f : pd_M} {s e a : Nat} (hs : s < 20) (hy : Sy f s) (he : e < 4) (hE : Ed f (4 * vw f 123 s + e)) (ha : a < 8) : ∀ (r n m : Nat), m + r = 3 → r < n → lp_X9_breaks_11 n (nI s) (nI e) (nI a) (nI m) f = if ff (sBk (vw f) s (4 * vw f 123 s + e)) r (3 * a + m) = 3 * a + 3 then some (.inr ()) else some (.inl (nI (sVal (vw f) s (4 * vw f 123 s + e) (ff (sBk (vw f) s (4 * vw f 123 s + e)) r (3 * a + m))))) := by
  obtain ⟨eg, -, hg⟩ := hy.2.2.1
  intro r
  induction r with
  | zero =>
    intro n m hm hn
    obtain ⟨n, rfl⟩ : ∃ k, n = k + 1 := ⟨n - 1, by omega⟩
    have : m = 3 := by omega
    subst this
    simp (disch := omega) only [lp_X9_breaks_11, l3, ly, ff, Nat.le_refl, if_true, if_false, ↓reduceIte, Bool.false_eq_true, reduceCtorEq]
  | succ r ih =>
    intro n m hm hn
    obtain ⟨n, rfl⟩ : ∃ k, n = k + 1 := ⟨n - 1, by omega⟩
    have hi := ih n (m + 1) (by omega) (by omega)
    have hla := sAns_lt hE a m
    have hma := m_answerOf hg he hE ha (show m < 3 by omega)
    have hmw := m_wrongIn hs hy hla
    simp (disch := omega) only [lp_X9_breaks_11, l3, ly, m_isAbout hs hy ha (show m < 3 by omega), pn, ob1, ob2, os0, os1, zp, nI_clamp, eg, hma, hmw, nI_1, hi, show ¬ 3 ≤ m by omega, if_true, if_false, ↓reduceIte, Bool.false_eq_true, reduceCtorEq]
    rw [show ff (sBk (vw f) s (4 * vw f 123 s + e)) (r + 1) (3 * a + m) = if sBk (vw f) s (4 * vw f 123 s + e) (3 * a + m) = true then 3 * a + m else ff (sBk (vw f) s (4 * vw f 123 s + e)) r (3 * a + m + 1) from rfl]
    have hb : sBk (vw f) s (4 * vw f 123 s + e) (3 * a + m) = (sAb (vw f) s a m && decide (sWr (vw f) s (sAns (vw f) (4 * vw f 123 s + e) a m) ≠ 9)) := by
      unfold sBk
      rw [show (3 * a + m) / 3 = a by omega, show (3 * a + m) % 3 = m by omega]
    have hv : sVal (vw f) s (4 * vw f 123 s + e) (3 * a + m) = 64 * a + 8 * m + sWr (vw f) s (sAns (vw f) (4 * vw f 123 s + e) a m) := by
      unfold sVal
      rw [show (3 * a + m) / 3 = a by omega, show (3 * a + m) % 3 = m by omega]
    have hne : 3 * a + m ≠ 3 * a + 3 := by omega
    cases h1 : sAb (vw f) s a m
    · simp only [hb, h1, Bool.false_and, Bool.false_eq_true, if_false, if_true]
      rfl
    · by_cases h2 : sWr (vw f) s (sAns (vw f) (4 * vw f 123 s + e) a m) = 9
      · have hw : wI 9 = -1000000 := rfl
        simp only [hb, h1, h2, hw, Bool.true_and, ne_eq, not_true_eq_false, decide_false, Bool.false_eq_true, if_false, if_true]
        rfl
      · have hw : wI (sWr (vw f) s (sAns (vw f) (4 * vw f 123 s + e) a m)) = nI (sWr (vw f) s (sAns (vw f) (4 * vw f 123 s + e) a m)) := if_neg h2
        have h9 : sWr (vw f) s (sAns (vw f) (4 * vw f 123 s + e) a m) < 10 := by
          unfold sWr
          have := ff_le (fun j => !(vw f 129 (4 * s + j)).testBit (dg (sAns (vw f) (4 * vw f 123 s + e) a m) j)) 4 0
          unfold sWj
          split
          · split <;> omega
          · split
            · omega
            · split <;> omega
        simp (disch := omega) only [hb, h1, h2, hw, hne, hv, Bool.true_and, ne_eq, not_false_eq_true, decide_true, if_false, if_true, o10, zj, l64, l8, pk_mul, nI_add]
theorem lm_breaks2 {f : pd_M} {s e : Nat} (hs : s < 20) (hy : Sy f s) (he : e < 4) (hE : Ed f (4 * vw f 123 s + e)) : ∀ (r n a : Nat), a + r = 8 → r < n → lp_X9_breaks_2 n (nI s) (nI e) (nI a) f = if ff (sBk (vw f) s (4 * vw f 123 s + e)) (3 * r) (3 * a) = 24 then some (.inr ()) else some (.inl (nI (sVal (vw f) s (4 * vw f 123 s + e) (ff (sBk (vw f) s (4 * vw f 123 s + e)) (3 * r) (3 * a))))) := by
  intro r
  induction r with
  | zero =>
    intro n a ha hn
    obtain ⟨n, rfl⟩ : ∃ k, n = k + 1 := ⟨n - 1, by omega⟩
    have : a = 8 := by omega
    subst this
    simp (disch := omega) only [lp_X9_breaks_2, l8, ly, ff, Nat.le_refl, if_true, if_false, ↓reduceIte, Bool.false_eq_true, reduceCtorEq]
  | succ r ih =>
    intro n a ha hn
    obtain ⟨n, rfl⟩ : ∃ k, n = k + 1 := ⟨n - 1, by omega⟩
    have hi := ih n (a + 1) (by omega) (by omega)
    have h1 := lm_breaks1 hs hy he hE (show a < 8 by omega) 3 5000 0 (by omega) (by omega)
    have h5 := ff_le (sBk (vw f) s (4 * vw f 123 s + e)) 3 (3 * a)
    simp (disch := omega) only [lp_X9_breaks_2, l8, ly, show (0 : Int32) = nI 0 from rfl, h1, nI_1, hi, pn, show ¬ 8 ≤ a by omega, if_true, if_false, ↓reduceIte, Bool.false_eq_true, reduceCtorEq]
    rw [show 3 * (r + 1) = 3 + 3 * r by omega, ff_split, Nat.add_zero, show 3 * (a + 1) = 3 * a + 3 by omega]
    by_cases h : ff (sBk (vw f) s (4 * vw f 123 s + e)) 3 (3 * a) = 3 * a + 3
    · simp only [h, if_true, os0]
    · have : ff (sBk (vw f) s (4 * vw f 123 s + e)) 3 (3 * a) ≠ 24 := by omega
      simp only [h, this, if_false, os0]
theorem m_breaks {f : pd_M} {s e : Nat} (hs : s < 20) (hy : Sy f s) (he : e < 4) (hE : Ed f (4 * vw f 123 s + e)) : fn_X9_breaks (nI s) (nI e) f = some (if sBr (vw f) s (4 * vw f 123 s + e) = 24 then -1000000 else nI (sVal (vw f) s (4 * vw f 123 s + e) (sBr (vw f) s (4 * vw f 123 s + e)))) := by
  have h1 := lm_breaks2 hs hy he hE 8 5000 0 (by omega) (by omega)
  unfold fn_X9_breaks sBr
  rw [show (0 : Int32) = nI 0 from rfl, h1]
  by_cases h : ff (sBk (vw f) s (4 * vw f 123 s + e)) 24 0 = 24
  · simp only [h, Nat.mul_zero, Nat.reduceMul, if_true, os0]
  · simp only [h, Nat.mul_zero, Nat.reduceMul, if_false, os0]
theorem sWr_lt (M : Nat → Nat → Nat) (s a : Nat) : sWr M s a < 10 := by
  unfold sWr
  have := ff_le (fun j => !(M 129 (4 * s + j)).testBit (dg a j)) 4 0
  unfold sWj
  split
  · split <;> omega
  · split
    · omega
    · split <;> omega
theorem sBr_le (M : Nat → Nat → Nat) (s e : Nat) : sBr M s e ≤ 24 := by
  have := ff_le (sBk M s e) 24 0
  unfold sBr
  omega
theorem m_isKept {f : pd_M} {s e : Nat} (hs : s < 20) (hy : Sy f s) (he : e < 4) (hE : Ed f (4 * vw f 123 s + e)) : fn_X9_isKept (nI s) (nI e) f = some (if sKp (vw f) s (4 * vw f 123 s + e) = true then 1 else 0) := by
  unfold fn_X9_isKept sKp
  rw [m_breaks hs hy he hE]
  have h9 := sWr_lt (vw f) s (sAns (vw f) (4 * vw f 123 s + e) (sBr (vw f) s (4 * vw f 123 s + e) / 3) (sBr (vw f) s (4 * vw f 123 s + e) % 3))
  have hb := sBr_le (vw f) s (4 * vw f 123 s + e)
  by_cases h : sBr (vw f) s (4 * vw f 123 s + e) = 24
  · simp [h, ob1]
  · have : sVal (vw f) s (4 * vw f 123 s + e) (sBr (vw f) s (4 * vw f 123 s + e)) < 2 ^ 31 := by unfold sVal; omega
    simp [h, ob1, zj this]
