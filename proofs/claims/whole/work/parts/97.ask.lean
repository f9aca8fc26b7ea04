/-! PURE: ask -/
def lvL (c : pd_M) (n : Nat) : List Int32 → pd_M
  | [] => c
  | b :: l => lvL (pi_up (pi_up c 109 n b) 17 6 (nI (n + 1))) (n + 1) l
def bgL (d : pd_M) (n : Nat) : List Int32 → pd_M
  | [] => d
  | b :: l => bgL (pi_up (pi_up d 140 n b) 110 43 (nI (n + 1))) (n + 1) l
theorem lvL_fr : ∀ (l : List Int32) (c : pd_M) (n a k : Nat), ¬ (a = 17 ∧ k = 6) → a ≠ 109 → lvL c n l a k = c a k
  | [], _, _, _, _, _, _ => rfl
  | b :: l, c, n, a, k, h1, h2 => by
    rw [lvL, lvL_fr l _ _ a k h1 h2, pu_n h1, pu_n (by omega)]
theorem bgL_fr : ∀ (l : List Int32) (d : pd_M) (n a k : Nat), ¬ (a = 110 ∧ k = 43) → a ≠ 140 → bgL d n l a k = d a k
  | [], _, _, _, _, _, _ => rfl
  | b :: l, d, n, a, k, h1, h2 => by
    rw [bgL, bgL_fr l _ _ a k h1 h2, pu_n h1, pu_n (by omega)]
theorem lvL_n : ∀ (l : List Int32) (c : pd_M) (n : Nat), c 17 6 = nI n → lvL c n l 17 6 = nI (n + l.length)
  | [], _, _, h => h
  | b :: l, c, n, h => by
    rw [lvL, lvL_n l _ _ pu_s, List.length_cons]
    congr 1
    omega
theorem bgL_n : ∀ (l : List Int32) (d : pd_M) (n : Nat), d 110 43 = nI n → bgL d n l 110 43 = nI (n + l.length)
  | [], _, _, h => h
  | b :: l, d, n, h => by
    rw [bgL, bgL_n l _ _ pu_s, List.length_cons]
    congr 1
    omega
theorem lvL_lo : ∀ (l : List Int32) (c : pd_M) (n i : Nat), i < n → lvL c n l 109 i = c 109 i
  | [], _, _, _, _ => rfl
  | b :: l, c, n, i, h => by
    rw [lvL, lvL_lo l _ _ i (by omega), pu_n (by omega), pu_n (by omega)]
theorem bgL_lo : ∀ (l : List Int32) (d : pd_M) (n i : Nat), i < n → bgL d n l 140 i = d 140 i
  | [], _, _, _, _ => rfl
  | b :: l, d, n, i, h => by
    rw [bgL, bgL_lo l _ _ i (by omega), pu_n (by omega), pu_n (by omega)]
theorem lb_same : ∀ (l : List Int32) (c d : pd_M) (n i : Nat), n ≤ i → i < n + l.length → lvL c n l 109 i = bgL d n l 140 i
  | [], _, _, n, i, h, h2 => by simp at h2; omega
  | b :: l, c, d, n, i, h, h2 => by
    rw [List.length_cons] at h2
    rw [lvL, bgL]
    by_cases e : i = n
    · subst e
      rw [lvL_lo l _ _ i (by omega), bgL_lo l _ _ i (by omega)]
      simp (disch := omega) only [pu_n, pu_s]
    · exact lb_same l _ _ (n + 1) i (by omega) (by omega)
theorem c_leave {c : pd_M} {n : Nat} (h : c 17 6 = nI n) (hn : n < 16) (b : Int32) : fn_X8_leave b c = some (pi_up (pi_up c 109 n b) 17 6 (nI (n + 1))) := by
  unfold fn_X8_leave
  simp (disch := omega) only [h, l16, ly, show ¬ 16 ≤ n by omega, zp, nI_clamp, pn, pu_n, nI_1, if_true, if_false, ↓reduceIte, Bool.false_eq_true, reduceCtorEq]
theorem m_began {d : pd_M} {n : Nat} (h : d 110 43 = nI n) (hn : n < 16) (b : Int32) : fn_X9_began b d = some (pi_up (pi_up d 140 n b) 110 43 (nI (n + 1))) := by
  unfold fn_X9_began
  simp (disch := omega) only [h, l16, ly, show ¬ 16 ≤ n by omega, zp, nI_clamp, pn, pu_n, nI_1, if_true, if_false, ↓reduceIte, Bool.false_eq_true, reduceCtorEq]
theorem c_leave' {c : pd_M} {n : Nat} (hn : n < 15) (a b : Int32) : fn_X8_leave b (pi_up (pi_up c 109 n a) 17 6 (nI (n + 1))) = some (pi_up (pi_up (pi_up (pi_up c 109 n a) 17 6 (nI (n + 1))) 109 (n + 1) b) 17 6 (nI (n + 1 + 1))) := c_leave pu_s (by omega) b
theorem m_began' {d : pd_M} {n : Nat} (hn : n < 15) (a b : Int32) : fn_X9_began b (pi_up (pi_up d 140 n a) 110 43 (nI (n + 1))) = some (pi_up (pi_up (pi_up (pi_up d 140 n a) 110 43 (nI (n + 1))) 140 (n + 1) b) 110 43 (nI (n + 1 + 1))) := m_began pu_s (by omega) b
theorem ab_bc : ∀ lo, lo < 8 → ∀ hi, hi < 8 → lo ≤ hi → ∀ m, m < 4 → fn_J6_bitCount_0f7a4 (nI (abN lo hi m)) = nI ((hi - lo + 1) * (if m = 3 then 3 else 1)) := by decide +kernel
theorem bits_ex : ∀ t, t < 16 → ((((nI 0 + ((nI t >>> (nI 0 &&& 31)) &&& 1)) + ((nI t >>> (nI 1 &&& 31)) &&& 1)) + ((nI t >>> (nI 2 &&& 31)) &&& 1)) + ((nI t >>> (nI 3 &&& 31)) &&& 1)) = nI (pc t) := by decide +kernel
theorem m_bits {f : pd_M} {t : Nat} (ht : t < 16) : fn_X9_bits (nI t) f = some (nI (pc t)) := by
  have h : ∀ n, lp_X9_bits_4 (n + 5) (nI t) (nI 0) (nI 0) f = some (nI (pc t)) := by
    intro n
    rw [← bits_ex t ht]
    simp only [lp_X9_bits_4, pn, nI_1, Nat.zero_add, Nat.reduceAdd]
    simp (disch := omega) only [l4, ly, Nat.reduceLeDiff, if_true, if_false, ↓reduceIte, Bool.false_eq_true, reduceCtorEq]
  unfold fn_X9_bits
  rw [show lp_X9_bits_4 5000 (nI t) 0 0 f = _ from h 4995]
  rfl
def sSz (M : Nat → Nat → Nat) (s : Nat) : Nat := (M 125 s - M 124 s + 1) * (if M 126 s = 3 then 3 else 1)
theorem m_about {d f : pd_M} {n s : Nat} (h : d 110 43 = nI n) (hn : n < 16) (hs : s < 20) (hy : Sy f s) (h1 : d 124 s = f 124 s) (h2 : d 125 s = f 125 s) (h3 : d 126 s = f 126 s) : fn_X9_aboutHowMany (nI s) d = some (nI (sSz (vw f) s), pi_up (pi_up d 140 n 10) 110 43 (nI (n + 1))) := by
  obtain ⟨-, -, -, ⟨e4, -⟩, ⟨e5, -, h45, h5⟩, ⟨e6, -, h6⟩, -⟩ := hy
  unfold fn_X9_aboutHowMany sSz
  simp (disch := omega) only [m_began h hn, ob1, zp, nI_clamp, pu_n, h1, h2, h3, e4, e5, e6, l3, lq, pk_sub, nI_1, pk_mul, if_true, if_false, ↓reduceIte, Bool.false_eq_true, reduceCtorEq]
  by_cases q : vw f 126 s = 3
  · simp only [q, if_true]
  · simp only [q, if_false, Nat.mul_one, show nI (vw f 125 s - vw f 124 s + 1) * 1 = nI ((vw f 125 s - vw f 124 s + 1) * 1) from pk_mul _ 1]
theorem c_lent {c f : pd_M} {n s : Nat} (h : c 17 6 = nI n) (hn : n < 16) (hs : s < 20) (hy : Sy f s) (h1 : c (48 + s) 7 = f (48 + s) 7) : fn_X8_sizeLent (nI s) c = some (nI (sSz (vw f) s), pi_up (pi_up c 109 n 10) 17 6 (nI (n + 1))) := by
  have hb : fn_J6_bitCount_0f7a4 (nI (ab (vw f) s)) = nI (sSz (vw f) s) := ab_bc _ (by have := hy.2.2.2.2.1.2.2; omega) _ hy.2.2.2.2.1.2.2.2 hy.2.2.2.2.1.2.2.1 _ hy.2.2.2.2.2.1.2.2
  unfold fn_X8_sizeLent
  simp (disch := omega) only [c_leave h hn, ob1, zp, nI_clamp, pu_n, h1, hy.2.2.2.2.2.2.2.2.2.1, hb, if_true, if_false, ↓reduceIte, Bool.false_eq_true, reduceCtorEq]
/-- both bodies of an ask -/
theorem op_ask {f : pd_M} (hT : Td f) (p w : Int32) (hTr : Tr f) : ∃ r f1 f2, fn_X8_ask p w f = some (r, f1) ∧ fn_X9_ask p w f1 = some (r, f2) ∧ Tr f2 ∧ ∀ a k, ¬ (a = 17 ∧ k = 6) → a ≠ 109 → ¬ (a = 110 ∧ (k = 0 ∨ k = 43)) → a ≠ 140 → f2 a k = f a k := by
  have hz := FrT_zz f
  have hG := Td_fr hz hT
  have hn := hT.1.2.2
  have bad : fn_X8_ask p w f = some (-1000001, f) → fn_X9_ask p w f = some (-1000001, pi_up f 110 0 0) → ∃ r f1 f2, fn_X8_ask p w f = some (r, f1) ∧ fn_X9_ask p w f1 = some (r, f2) ∧ Tr f2 ∧ ∀ a k, ¬ (a = 17 ∧ k = 6) → a ≠ 109 → ¬ (a = 110 ∧ (k = 0 ∨ k = 43)) → a ≠ 140 → f2 a k = f a k := by
    intro e1 e2
    refine ⟨_, _, _, e1, e2, ?_, fun a k _ _ h _ => pu_n (by omega)⟩
    obtain ⟨n, h1, h2, h3, h4⟩ := hTr
    exact ⟨n, h1, by rw [pu_n (by omega), h2], by rw [pu_n (by omega), h3], fun k hk => by rw [pu_n (by omega), pu_n (by omega), h4 k hk]⟩
  rcases q_ix p (n := vw f 0 0) (by omega) with h | ⟨s, hs, rfl⟩
  · refine bad ?_ ?_
    · simp [fn_X8_ask, has_out hT h, ob1]
    · simp [fn_X9_ask, pn, isa_out hG (by rw [vw_fr hz]; exact h), ob1]
  have i1 := has_in hT hs
  have i2 := isa_in hG (s := s) (by rw [vw_fr hz]; exact hs)
  rcases q_ix w (n := 2) (by decide) with h | ⟨j, hj, rfl⟩
  · have e1 : fn_X8_isBelow w 2 = 0 := qB_out (n := 2) (by decide) h
    have e3 : fn_X9_in w.toInt64 0 1 = 0 := qI_out (lo := 0) (hi := 1) (by decide) (by decide) (by omega)
    refine bad ?_ ?_
    · simp [fn_X8_ask, i1, ob1, e1]
    · simp [fn_X9_ask, pn, i2, ob1, e3]
  have e1 : fn_X8_isBelow (nI j) 2 = 1 := qB_in (n := 2) hj (by decide)
  have e3 : fn_X9_in (nI j).toInt64 0 1 = 1 := qI_in (lo := 0) (hi := 1) (by omega) (by omega) (by decide)
  have hy := hT.2.2.1 s hs
  obtain ⟨k1, k2, k3⟩ := hy.2.2.2.2.2.2.1
  -- from the two runs
  have fin : ∀ (r : Int32) (l : List Int32), l.length ≤ 8 → fn_X8_ask (nI s) (nI j) f = some (r, lvL (pi_up f 17 6 0) 0 l) → (∀ g : pd_M, (∀ a k, ¬ (a = 17 ∧ k = 6) → a ≠ 109 → g a k = f a k) → fn_X9_ask (nI s) (nI j) g = some (r, bgL (pi_up (pi_up g 110 0 0) 110 43 0) 0 l)) → ∃ r f1 f2, fn_X8_ask (nI s) (nI j) f = some (r, f1) ∧ fn_X9_ask (nI s) (nI j) f1 = some (r, f2) ∧ Tr f2 ∧ ∀ a k, ¬ (a = 17 ∧ k = 6) → a ≠ 109 → ¬ (a = 110 ∧ (k = 0 ∨ k = 43)) → a ≠ 140 → f2 a k = f a k := by
    intro r l hl hc hm
    refine ⟨r, _, _, hc, hm _ (fun a k h1 h2 => by rw [lvL_fr l _ _ a k h1 h2, pu_n (by omega)]), ⟨l.length, by omega, ?_, ?_, ?_⟩, ?_⟩
    · rw [bgL_fr l _ _ 17 6 (by omega) (by omega), pu_n (by omega), pu_n (by omega), lvL_n l _ 0 (show (pi_up f 17 6 0) 17 6 = nI 0 from pu_s), Nat.zero_add]
    · rw [bgL_n l _ 0 (show (pi_up (pi_up (lvL (pi_up f 17 6 0) 0 l) 110 0 0) 110 43 0) 110 43 = nI 0 from pu_s), Nat.zero_add]
    · intro k hk
      rw [bgL_fr l _ _ 109 k (by omega) (by omega), pu_n (by omega), pu_n (by omega)]
      exact lb_same l _ _ 0 k (by omega) (by omega)
    · intro a k h1 h2 h3 h4
      rw [bgL_fr l _ _ a k (by omega) h4, pu_n (by omega), pu_n (by omega), lvL_fr l _ _ a k h1 h2, pu_n (by omega)]
  -- the class
  have fr0 : FrT f (pi_up f 17 6 0) := ⟨pu_n (by omega), fun a k h => pu_n (by omega)⟩
  have hk0 := c_kindOf (Td_fr fr0 hT) (s := s) (by rw [vw_fr fr0]; exact hs)
  rw [vw_fr fr0] at hk0
  have hK := sK_cases (vw f) s
  have hMo : ∀ g : pd_M, (∀ a k, ¬ (a = 17 ∧ k = 6) → a ≠ 109 → g a k = f a k) → fn_X9_isSaying (nI s) (pi_up g 110 0 0) = some 1 ∧ fn_X9_kindOf (nI s) (pi_up (pi_up g 110 0 0) 110 43 0) = some (nI (sK (vw f) s)) := by
    intro g hg
    have f1 : FrT f (pi_up g 110 0 0) := ⟨by rw [pu_n (by omega), hg 110 12 (by omega) (by omega)], fun a k q => by rw [pu_n (by omega), hg a k (by omega) (by omega)]⟩
    have f2 : FrT f (pi_up (pi_up g 110 0 0) 110 43 0) := ⟨by rw [pu_n (by omega), pu_n (by omega), hg 110 12 (by omega) (by omega)], fun a k q => by rw [pu_n (by omega), pu_n (by omega), hg a k (by omega) (by omega)]⟩
    have a1 := isa_in (Td_fr f1 hT) (s := s) (by rw [vw_fr f1]; exact hs)
    have a2 := m_kindOf (Td_fr f2 hT) (s := s) (by rw [vw_fr f2]; exact hs)
    rw [vw_fr f2] at a2
    exact ⟨a1, a2⟩
  have z0 : (pi_up f 17 6 0) 17 6 = nI 0 := pu_s
  have bt4 := q_bc (vw f 128 s) (by omega)
  have d01 : (0 : Int32) + 1 ≤ 4 := by decide
  have d00 : (0 : Int32) ≤ 4 := by decide
  have d00' : (0 : Int32) ≤ nI 4 := by decide
  have d01' : (0 : Int32) + 1 ≤ nI 4 := by decide
  have e1' : fn_X8_isBelow (nI j) (nI 2) = 1 := e1
  rcases (by omega : j = 0 ∨ j = 1) with rfl | rfl
  · rcases hK with q | q | q | q | q
    · refine fin (nI (sSz (vw f) s) + nI (pc (vw f 128 s))) [11, 10] (by decide) ?_ ?_
      · unfold fn_X8_ask
        rw [q] at hk0
        have l1 := c_lent (c := pi_up (pi_up (pi_up f 17 6 0) 109 0 11) 17 6 (nI (0 + 1))) (n := 0 + 1) pu_s (by omega) (by omega) hy (by rw [pu_n (by omega), pu_n (by omega), pu_n (by omega)])
        simp (disch := omega) only [i1, ob1, ob2, o10, e1, e1', pn, hk0, zc, fn_X8_askSize_2, d00, d00', zh, fn_X8_sizeOfGiven, c_leave z0 (show 0 < 16 by decide), l1, zp, nI_clamp, pu_n, k2, bt4, lvL, if_true, if_false, ↓reduceIte, Bool.false_eq_true, reduceCtorEq]
      · intro g hg
        obtain ⟨a1, a2⟩ := hMo g hg
        rw [q] at a2
        have z1 : (pi_up (pi_up g 110 0 0) 110 43 0) 110 43 = nI 0 := pu_s
        have l1 := m_about (d := pi_up (pi_up (pi_up (pi_up g 110 0 0) 110 43 0) 140 0 11) 110 43 (nI (0 + 1))) (n := 0 + 1) pu_s (by omega) (show s < 20 by omega) hy (by simp (disch := omega) only [pu_n, hg]) (by simp (disch := omega) only [pu_n, hg]) (by simp (disch := omega) only [pu_n, hg])
        unfold fn_X9_ask
        simp (disch := omega) only [a1, ob1, ob2, o10, e3, pn, a2, zc, fn_X9_sizeOf, fn_X9_isOf, zh, fn_X9_givenSize, l3, lq, m_began z1 (show 0 < 16 by decide), l1, zp, nI_clamp, pu_n, hg, k1, m_bits k3, bgL, if_true, if_false, ↓reduceIte, Bool.false_eq_true, reduceCtorEq, show ¬ 1 = 3 by decide]
    · refine fin (nI (sSz (vw f) s) - nI s) [13, 10, 20] (by decide) ?_ ?_
      · unfold fn_X8_ask
        rw [q] at hk0
        have l1 := c_lent (c := pi_up (pi_up (pi_up f 17 6 0) 109 0 13) 17 6 (nI (0 + 1))) (n := 0 + 1) pu_s (by omega) (by omega) hy (by rw [pu_n (by omega), pu_n (by omega), pu_n (by omega)])
        simp (disch := omega) only [i1, ob1, ob2, o10, e1, e1', pn, hk0, zc, fn_X8_askSize_2, d00, d01, d00', d01', zh, l2, lq, fn_X8_sizeOfRefuses_2, c_leave z0 (show 0 < 16 by decide), l1, fn_X8_askMark_1, fn_X8_markLent, c_leave', lvL, if_true, if_false, ↓reduceIte, Bool.false_eq_true, reduceCtorEq, show ¬ 2 = 1 by decide]
      · intro g hg
        obtain ⟨a1, a2⟩ := hMo g hg
        rw [q] at a2
        have z1 : (pi_up (pi_up g 110 0 0) 110 43 0) 110 43 = nI 0 := pu_s
        have l1 := m_about (d := pi_up (pi_up (pi_up (pi_up g 110 0 0) 110 43 0) 140 0 13) 110 43 (nI (0 + 1))) (n := 0 + 1) pu_s (by omega) (show s < 20 by omega) hy (by simp (disch := omega) only [pu_n, hg]) (by simp (disch := omega) only [pu_n, hg]) (by simp (disch := omega) only [pu_n, hg])
        unfold fn_X9_ask
        simp (disch := omega) only [a1, ob1, ob2, o10, e3, pn, a2, zc, fn_X9_sizeOf, fn_X9_markOf, fn_X9_isOf, zh, l2, l3, l4, l5, lq, m_began z1 (show 0 < 16 by decide), l1, m_began', bgL, show nI s + 0 = nI s from nI_add s 0, if_true, if_false, ↓reduceIte, Bool.false_eq_true, reduceCtorEq, show ¬ 2 = 1 by decide, show ¬ 2 = 3 by decide, show ¬ 2 = 4 by decide, show ¬ 2 = 5 by decide, show ¬ 1 = 2 by decide, show ¬ (1 : Nat) = 0 by decide]
    · refine fin (2 * (nI (sSz (vw f) s) + nI (pc (vw f 128 s)))) [12, 11, 10] (by decide) ?_ ?_
      · unfold fn_X8_ask
        rw [q] at hk0
        have l1 := c_lent (c := pi_up (pi_up (pi_up (pi_up (pi_up f 17 6 0) 109 0 12) 17 6 (nI (0 + 1))) 109 (0 + 1) 11) 17 6 (nI (0 + 1 + 1))) (n := 0 + 1 + 1) pu_s (by omega) (by omega) hy (by simp (disch := omega) only [pu_n])
        simp (disch := omega) only [i1, ob1, ob2, o10, e1, e1', pn, hk0, zc, fn_X8_askSize_2, d00, d00', zh, show (2 : Int32) = nI 2 from rfl, l3, lq, fn_X8_sizeOfBefore, fn_X8_sizeOfGiven, c_leave z0 (show 0 < 16 by decide), c_leave', l1, zp, nI_clamp, pu_n, k2, bt4, lvL, if_true, if_false, ↓reduceIte, Bool.false_eq_true, reduceCtorEq, show ¬ 3 = 1 by decide, show ¬ 3 = 2 by decide]
      · intro g hg
        obtain ⟨a1, a2⟩ := hMo g hg
        rw [q] at a2
        have z1 : (pi_up (pi_up g 110 0 0) 110 43 0) 110 43 = nI 0 := pu_s
        have l1 := m_about (d := pi_up (pi_up (pi_up (pi_up (pi_up (pi_up g 110 0 0) 110 43 0) 140 0 12) 110 43 (nI (0 + 1))) 140 (0 + 1) 11) 110 43 (nI (0 + 1 + 1))) (n := 0 + 1 + 1) pu_s (by omega) (show s < 20 by omega) hy (by simp (disch := omega) only [pu_n, hg]) (by simp (disch := omega) only [pu_n, hg]) (by simp (disch := omega) only [pu_n, hg])
        unfold fn_X9_ask
        simp (disch := omega) only [a1, ob1, ob2, o10, e3, pn, a2, zc, fn_X9_sizeOf, fn_X9_isOf, zh, fn_X9_givenSize, show (2 : Int32) = nI 2 from rfl, l3, lq, m_began z1 (show 0 < 16 by decide), m_began', l1, zp, nI_clamp, pu_n, hg, k1, m_bits k3, bgL, if_true, if_false, ↓reduceIte, Bool.false_eq_true, reduceCtorEq, show ¬ 3 = 1 by decide, show ¬ (1 : Nat) = 0 by decide]
    · refine fin (nI (sSz (vw f) s) + nI (pc (vw f 128 s))) [11, 10] (by decide) ?_ ?_
      · unfold fn_X8_ask
        rw [q] at hk0
        have l1 := c_lent (c := pi_up (pi_up (pi_up f 17 6 0) 109 0 11) 17 6 (nI (0 + 1))) (n := 0 + 1) pu_s (by omega) (by omega) hy (by rw [pu_n (by omega), pu_n (by omega), pu_n (by omega)])
        simp (disch := omega) only [i1, ob1, ob2, o10, e1, e1', pn, hk0, zc, fn_X8_askSize_2, d00, d00', zh, l2, l3, l4, lq, fn_X8_sizeOfGiven, c_leave z0 (show 0 < 16 by decide), l1, zp, nI_clamp, pu_n, k2, bt4, lvL, if_true, if_false, ↓reduceIte, Bool.false_eq_true, reduceCtorEq, show ¬ 4 = 1 by decide, show ¬ 4 = 2 by decide, show ¬ 4 = 3 by decide]
      · intro g hg
        obtain ⟨a1, a2⟩ := hMo g hg
        rw [q] at a2
        have z1 : (pi_up (pi_up g 110 0 0) 110 43 0) 110 43 = nI 0 := pu_s
        have l1 := m_about (d := pi_up (pi_up (pi_up (pi_up g 110 0 0) 110 43 0) 140 0 11) 110 43 (nI (0 + 1))) (n := 0 + 1) pu_s (by omega) (show s < 20 by omega) hy (by simp (disch := omega) only [pu_n, hg]) (by simp (disch := omega) only [pu_n, hg]) (by simp (disch := omega) only [pu_n, hg])
        unfold fn_X9_ask
        simp (disch := omega) only [a1, ob1, ob2, o10, e3, pn, a2, zc, fn_X9_sizeOf, fn_X9_isOf, zh, fn_X9_givenSize, l3, l4, lq, m_began z1 (show 0 < 16 by decide), l1, zp, nI_clamp, pu_n, hg, k1, m_bits k3, bgL, if_true, if_false, ↓reduceIte, Bool.false_eq_true, reduceCtorEq, show ¬ 4 = 1 by decide, show ¬ 4 = 3 by decide, show ¬ (1 : Nat) = 0 by decide]
    · refine fin (-(nI (sSz (vw f) s))) [14, 10] (by decide) ?_ ?_
      · unfold fn_X8_ask
        rw [q] at hk0
        have l1 := c_lent (c := pi_up (pi_up (pi_up f 17 6 0) 109 0 14) 17 6 (nI (0 + 1))) (n := 0 + 1) pu_s (by omega) (by omega) hy (by rw [pu_n (by omega), pu_n (by omega), pu_n (by omega)])
        simp (disch := omega) only [i1, ob1, ob2, o10, e1, e1', pn, hk0, zc, fn_X8_askSize_2, d00, d00', zh, l2, l3, l4, l5, lq, fn_X8_sizeOfQuarrel, c_leave z0 (show 0 < 16 by decide), l1, lvL, if_true, if_false, ↓reduceIte, Bool.false_eq_true, reduceCtorEq, show ¬ 5 = 1 by decide, show ¬ 5 = 2 by decide, show ¬ 5 = 3 by decide, show ¬ 5 = 4 by decide]
      · intro g hg
        obtain ⟨a1, a2⟩ := hMo g hg
        rw [q] at a2
        have z1 : (pi_up (pi_up g 110 0 0) 110 43 0) 110 43 = nI 0 := pu_s
        have l1 := m_about (d := pi_up (pi_up (pi_up (pi_up g 110 0 0) 110 43 0) 140 0 14) 110 43 (nI (0 + 1))) (n := 0 + 1) pu_s (by omega) (show s < 20 by omega) hy (by simp (disch := omega) only [pu_n, hg]) (by simp (disch := omega) only [pu_n, hg]) (by simp (disch := omega) only [pu_n, hg])
        unfold fn_X9_ask
        simp (disch := omega) only [a1, ob1, ob2, o10, e3, pn, a2, zc, fn_X9_sizeOf, fn_X9_isOf, zh, l2, l3, l4, lq, m_began z1 (show 0 < 16 by decide), l1, bgL, if_true, if_false, ↓reduceIte, Bool.false_eq_true, reduceCtorEq, show ¬ 5 = 1 by decide, show ¬ 5 = 2 by decide, show ¬ 5 = 3 by decide, show ¬ 5 = 4 by decide, show ¬ (1 : Nat) = 0 by decide]
  · have j1 : (nI 1 = (0 : Int32)) = False := eq_false (by decide)
    rcases hK with q | q | q | q | q
    · refine fin (nI s + 100) [21, 20] (by decide) ?_ ?_
      · unfold fn_X8_ask
        rw [q] at hk0
        simp (disch := omega) only [i1, ob1, ob2, o10, e1, e1', pn, hk0, j1, fn_X8_askMark_2, d00, d00', zh, fn_X8_markOfGiven, fn_X8_markLent, c_leave z0 (show 0 < 16 by decide), c_leave', lvL, if_true, if_false, ↓reduceIte, Bool.false_eq_true, reduceCtorEq]
      · intro g hg
        obtain ⟨a1, a2⟩ := hMo g hg
        rw [q] at a2
        have z1 : (pi_up (pi_up g 110 0 0) 110 43 0) 110 43 = nI 0 := pu_s
        unfold fn_X9_ask
        simp (disch := omega) only [a1, ob1, ob2, o10, e3, pn, a2, j1, fn_X9_markOf, fn_X9_isOf, zh, l4, l5, lq, m_began z1 (show 0 < 16 by decide), m_began', bgL, if_true, if_false, ↓reduceIte, Bool.false_eq_true, reduceCtorEq, show ¬ 1 = 4 by decide, show ¬ 1 = 5 by decide]
    · refine fin (nI s) [20] (by decide) ?_ ?_
      · unfold fn_X8_ask
        rw [q] at hk0
        simp (disch := omega) only [i1, ob1, ob2, o10, e1, e1', pn, hk0, j1, fn_X8_askMark_2, d00, d00', zh, l2, lq, fn_X8_markLent, c_leave z0 (show 0 < 16 by decide), c_leave', lvL, if_true, if_false, ↓reduceIte, Bool.false_eq_true, reduceCtorEq, show ¬ 2 = 1 by decide]
      · intro g hg
        obtain ⟨a1, a2⟩ := hMo g hg
        rw [q] at a2
        have z1 : (pi_up (pi_up g 110 0 0) 110 43 0) 110 43 = nI 0 := pu_s
        unfold fn_X9_ask
        simp (disch := omega) only [a1, ob1, ob2, o10, e3, pn, a2, j1, fn_X9_markOf, fn_X9_isOf, zh, l3, l4, l5, lq, m_began z1 (show 0 < 16 by decide), m_began', bgL, show nI s + 0 = nI s from nI_add s 0, if_true, if_false, ↓reduceIte, Bool.false_eq_true, reduceCtorEq, show ¬ 2 = 1 by decide, show ¬ 2 = 3 by decide, show ¬ 2 = 4 by decide, show ¬ 2 = 5 by decide, show ¬ (1 : Nat) = 0 by decide]
    · refine fin (nI s + 100) [21, 20] (by decide) ?_ ?_
      · unfold fn_X8_ask
        rw [q] at hk0
        simp (disch := omega) only [i1, ob1, ob2, o10, e1, e1', pn, hk0, j1, fn_X8_askMark_2, d00, d00', zh, l2, l3, lq, fn_X8_markOfGiven, fn_X8_markLent, c_leave z0 (show 0 < 16 by decide), c_leave', lvL, if_true, if_false, ↓reduceIte, Bool.false_eq_true, reduceCtorEq, show ¬ 3 = 1 by decide, show ¬ 3 = 2 by decide]
      · intro g hg
        obtain ⟨a1, a2⟩ := hMo g hg
        rw [q] at a2
        have z1 : (pi_up (pi_up g 110 0 0) 110 43 0) 110 43 = nI 0 := pu_s
        unfold fn_X9_ask
        simp (disch := omega) only [a1, ob1, ob2, o10, e3, pn, a2, j1, fn_X9_markOf, fn_X9_isOf, zh, l3, l4, l5, lq, m_began z1 (show 0 < 16 by decide), m_began', bgL, if_true, if_false, ↓reduceIte, Bool.false_eq_true, reduceCtorEq, show ¬ 3 = 1 by decide, show ¬ 3 = 4 by decide, show ¬ 3 = 5 by decide, show ¬ (1 : Nat) = 0 by decide]
    · refine fin ((nI s + 100) + (nI (sSz (vw f) s) + nI (pc (vw f 128 s)))) [22, 21, 20, 11, 10] (by decide) ?_ ?_
      · unfold fn_X8_ask
        rw [q] at hk0
        have l1 := c_lent (c := lvL (pi_up f 17 6 0) 0 [22, 21, 20, 11]) (n := 4) (lvL_n _ _ _ z0) (by omega) (by omega) hy (by rw [lvL_fr _ _ _ _ _ (by omega) (by omega), pu_n (by omega)])
        simp only [lvL, Nat.zero_add, Nat.reduceAdd] at l1
        simp (disch := omega) only [i1, ob1, ob2, o10, e1, e1', pn, hk0, j1, fn_X8_askMark_2, d00, d01, d00', d01', zh, l2, l3, lq, fn_X8_markOfLoose_2, fn_X8_markOfGiven, fn_X8_markLent, fn_X8_askSize_1, fn_X8_sizeOfGiven, c_leave z0 (show 0 < 16 by decide), c_leave', lvL, zp, nI_clamp, pu_n, k2, bt4, if_true, if_false, ↓reduceIte, Bool.false_eq_true, reduceCtorEq, show ¬ 4 = 1 by decide, show ¬ 4 = 2 by decide, show ¬ 4 = 3 by decide, l4, Nat.zero_add, Nat.reduceAdd, l1]
      · intro g hg
        obtain ⟨a1, a2⟩ := hMo g hg
        rw [q] at a2
        have z1 : (pi_up (pi_up g 110 0 0) 110 43 0) 110 43 = nI 0 := pu_s
        have l1 := m_about (d := bgL (pi_up (pi_up g 110 0 0) 110 43 0) 0 [22, 21, 20, 11]) (n := 4) (bgL_n _ _ _ z1) (by omega) (show s < 20 by omega) hy (by rw [bgL_fr _ _ _ _ _ (by omega) (by omega), pu_n (by omega), pu_n (by omega), hg _ _ (by omega) (by omega)]) (by rw [bgL_fr _ _ _ _ _ (by omega) (by omega), pu_n (by omega), pu_n (by omega), hg _ _ (by omega) (by omega)]) (by rw [bgL_fr _ _ _ _ _ (by omega) (by omega), pu_n (by omega), pu_n (by omega), hg _ _ (by omega) (by omega)])
        simp only [bgL, Nat.zero_add, Nat.reduceAdd] at l1
        unfold fn_X9_ask
        simp (disch := omega) only [a1, ob1, ob2, o10, e3, pn, a2, j1, fn_X9_markOf, fn_X9_isOf, fn_X9_givenSize, zh, l3, l4, l5, lq, m_began z1 (show 0 < 16 by decide), m_began', bgL, zp, nI_clamp, pu_n, hg, k1, m_bits k3, if_true, if_false, ↓reduceIte, Bool.false_eq_true, reduceCtorEq, show ¬ 4 = 1 by decide, show ¬ 4 = 3 by decide, show ¬ 4 = 5 by decide, show ¬ (1 : Nat) = 0 by decide, Nat.zero_add, Nat.reduceAdd, l1]
    · refine fin (nI s + 1000) [23, 20] (by decide) ?_ ?_
      · unfold fn_X8_ask
        rw [q] at hk0
        simp (disch := omega) only [i1, ob1, ob2, o10, e1, e1', pn, hk0, j1, fn_X8_askMark_2, d00, d00', zh, l2, l3, lq, fn_X8_markOfQuarrel, fn_X8_markLent, c_leave z0 (show 0 < 16 by decide), c_leave', lvL, show (5 : Int32) = nI 5 from rfl, show (4 : Int32) = nI 4 from rfl, if_true, if_false, ↓reduceIte, Bool.false_eq_true, reduceCtorEq, show ¬ 5 = 1 by decide, show ¬ 5 = 2 by decide, show ¬ 5 = 3 by decide, show ¬ 5 = 4 by decide]
      · intro g hg
        obtain ⟨a1, a2⟩ := hMo g hg
        rw [q] at a2
        have z1 : (pi_up (pi_up g 110 0 0) 110 43 0) 110 43 = nI 0 := pu_s
        unfold fn_X9_ask
        simp (disch := omega) only [a1, ob1, ob2, o10, e3, pn, a2, j1, fn_X9_markOf, fn_X9_isOf, zh, l3, l4, l5, lq, m_began z1 (show 0 < 16 by decide), m_began', bgL, if_true, if_false, ↓reduceIte, Bool.false_eq_true, reduceCtorEq, show ¬ 5 = 1 by decide, show ¬ 5 = 3 by decide, show ¬ 5 = 4 by decide, show ¬ (1 : Nat) = 0 by decide]
