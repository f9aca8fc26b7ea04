/-! PURE: kind, as, ask, trace, count, status, fault -/
def sK (M : Nat → Nat → Nat) (s : Nat) : Nat := if (sQ M (M 123 s)).testBit s = true then 5 else if M 127 s = 1 then 2 else if M 126 s ≠ 3 then 3 else if M 128 s = 0 then 4 else 1
theorem sK_cases (M : Nat → Nat → Nat) (s : Nat) : sK M s = 1 ∨ sK M s = 2 ∨ sK M s = 3 ∨ sK M s = 4 ∨ sK M s = 5 := by
  unfold sK
  split
  · omega
  · split
    · omega
    · split
      · omega
      · split <;> omega
theorem c_kindOf {f : pd_M} (hT : Td f) {s : Nat} (hs : s < vw f 0 0) : fn_X7_kindOf (nI s) f = some (nI (sK (vw f) s)) := by
  have hn := hT.1.2.2
  have hy := hT.2.2.1 s hs
  have har := al_ref hy
  have hal := al_lt (Sy_Fo hy)
  obtain ⟨-, -, ⟨c1, c2, c3⟩, -, -, ⟨g1, g2, g3⟩, ⟨k1, k2, k3⟩, ⟨r1, r2⟩, -, -, w1⟩ := hy
  have hq := sQ_lt (M := vw f) (vw f 123 s) hn
  unfold fn_X7_kindOf sK
  simp (disch := omega) only [zp, nI_clamp, c2, g2, k2, w1, hT.2.2.2.2.2.1 _ c3, q_bit0, lr, l3, lq, zc, har, if_true, if_false, ↓reduceIte, Bool.false_eq_true, reduceCtorEq]
  cases (sQ (vw f) (vw f 123 s)).testBit s
  · simp only [if_true, Bool.false_eq_true, if_false]
    by_cases q1 : vw f 127 s = 1
    · simp only [q1, if_true]; rfl
    · simp only [q1, if_false]
      by_cases q2 : vw f 126 s = 3
      · simp only [q2, if_true, ne_eq, not_true_eq_false, if_false]
        by_cases q3 : vw f 128 s = 0
        · simp only [q3, if_true]; rfl
        · simp only [q3, if_false]; rfl
      · simp only [q2, if_false, ne_eq, not_false_eq_true, if_true]
  · simp only [Bool.true_eq_false, if_false, if_true]; rfl
theorem m_kindOf {f : pd_M} (hT : Td f) {s : Nat} (hs : s < vw f 0 0) : fn_X9_kindOf (nI s) f = some (nI (sK (vw f) s)) := by
  have hn := hT.1.2.2
  have hy := hT.2.2.1 s hs
  obtain ⟨-, -, ⟨c1, c2, c3⟩, -, -, ⟨g1, g2, g3⟩, ⟨k1, k2, k3⟩, ⟨r1, r2⟩, -, -, w1⟩ := hy
  have hq := sQ_lt (M := vw f) (vw f 123 s) hn
  unfold fn_X9_kindOf sK
  simp (disch := omega) only [zp, nI_clamp, c1, g1, k1, r1, m_quarrelOf hT c3, ob1, q_bit1, l3, lq, zc, if_true, if_false, ↓reduceIte, Bool.false_eq_true, reduceCtorEq]
  cases (sQ (vw f) (vw f 123 s)).testBit s
  · simp only [Bool.false_eq_true, if_false]
    rcases (by omega : vw f 127 s = 0 ∨ vw f 127 s = 1) with q1 | q1
    · simp only [q1, if_true, Nat.zero_ne_one, if_false]
      by_cases q2 : vw f 126 s = 3
      · simp only [q2, if_true, ne_eq, not_true_eq_false, if_false]
        by_cases q3 : vw f 128 s = 0
        · simp only [q3, if_true]; rfl
        · simp only [q3, if_false]; rfl
      · simp only [q2, if_false, ne_eq, not_false_eq_true, if_true]
    · simp only [q1, Nat.one_ne_zero, if_false, if_true]; rfl
  · simp only [if_true]; rfl
theorem op_kind {f : pd_M} (hT : Td f) (p : Int32) : OpR (fn_X8_kind p f) (fn_X9_kind p f) f := by
  have hz := FrT_zz f
  have hG := Td_fr hz hT
  have hn := hT.1.2.2
  rcases q_ix p (n := vw f 0 0) (by omega) with h | ⟨s, hs, rfl⟩
  · refine ⟨-1000001, ?_, ?_⟩
    · simp [fn_X8_kind, has_out hT h, ob1]
    · simp [fn_X9_kind, pn, isa_out hG (by rw [vw_fr hz]; exact h), ob1]
  · have i1 := has_in hT hs
    have i2 := isa_in hG (s := s) (by rw [vw_fr hz]; exact hs)
    have mk := m_kindOf hG (s := s) (by rw [vw_fr hz]; exact hs)
    rw [vw_fr hz] at mk
    refine ⟨nI (sK (vw f) s), ?_, ?_⟩
    · unfold fn_X8_kind
      simp only [i1, ob1, o10, if_false, c_kindOf hT hs]
    · unfold fn_X9_kind
      simp only [pn, i2, ob1, o10, if_false, mk]
/-- the row ABOVE -/
def Ab (f : pd_M) : Prop := f 1 0 = -1000000 ∧ f 1 1 = 0 ∧ f 1 2 = 0 ∧ f 1 3 = 1 ∧ f 1 4 = 1 ∧ f 1 5 = 0
theorem lc_as {f : pd_M} (hA : Ab f) (z1 : Int32) {k o : Nat} (hk : k = 1 ∨ k = 2 ∨ k = 3 ∨ k = 4 ∨ k = 5) (ho : o < 6) (n : Nat) : lp_X8_as_35 (n + 6) z1 (nI o) (nI k) (nI 0) f = if fn_X9_isOf (nI k) (nI o) = 0 then some (.inr ()) else some (.inl (z1, pi_up f 17 8 0)) := by
  obtain ⟨a0, a1, a2, a3, a4, a5⟩ := hA
  rcases (by omega : o = 0 ∨ o = 1 ∨ o = 2 ∨ o = 3 ∨ o = 4 ∨ o = 5) with rfl | rfl | rfl | rfl | rfl | rfl <;> rcases hk with rfl | rfl | rfl | rfl | rfl <;>
  · simp (disch := omega) [lp_X8_as_35, l6, ly, zj, lq, zp, nI_clamp, pn, nI_1, nI_add, a0, a1, a2, a3, a4, a5, fn_X8_well, ob2, fn_X9_isOf, show (0 : Int32) = nI 0 from rfl, show (1 : Int32) = nI 1 from rfl, show (3 : Int32) = nI 3 from rfl, show (4 : Int32) = nI 4 from rfl]
theorem op_as {f : pd_M} (hT : Td f) (hA : Ab f) (hF : SFi f) (p o : Int32) : OpX (fn_X8_as p o) (fn_X9_as p o) f := by
  have hz := FrT_zz f
  have hG := Td_fr hz hT
  have hn := hT.1.2.2
  rcases q_ix p (n := vw f 0 0) (by omega) with h | ⟨s, hs, rfl⟩
  · refine ⟨-1000001, f, pi_up f 110 0 0, ?_, ?_, FrX_bad hF⟩
    · simp [fn_X8_as, has_out hT h, ob1]
    · simp [fn_X9_as, pn, isa_out hG (by rw [vw_fr hz]; exact h), ob1]
  have i1 := has_in hT hs
  have i2 := isa_in hG (s := s) (by rw [vw_fr hz]; exact hs)
  rcases q_ix o (n := 6) (by decide) with h | ⟨o, ho, rfl⟩
  · have e1 : fn_X8_isBelow o 6 = 0 := qB_out (n := 6) (by decide) h
    have e3 : fn_X9_in o.toInt64 0 5 = 0 := qI_out (lo := 0) (hi := 5) (by decide) (by decide) (by omega)
    refine ⟨-1000001, f, pi_up f 110 0 0, ?_, ?_, FrX_bad hF⟩
    · simp [fn_X8_as, i1, ob1, e1]
    · simp [fn_X9_as, pn, i2, ob1, e3]
  have e1 : fn_X8_isBelow (nI o) 6 = 1 := qB_in (n := 6) ho (by decide)
  have e3 : fn_X9_in (nI o).toInt64 0 5 = 1 := qI_in (lo := 0) (hi := 5) (by omega) (by omega) (by decide)
  have hl := lc_as (f := f) hA (nI s) (sK_cases (vw f) s) ho 4994
  have hl' : lp_X8_as_35 5000 (nI s) (nI o) (nI (sK (vw f) s)) 0 f = _ := hl
  have hM : ∀ g : pd_M, (∀ a k, ¬ (a = 17 ∧ k = 8) → ¬ (a = 110 ∧ k ≤ 1) → g a k = f a k) → fn_X9_as (nI s) (nI o) g = if fn_X9_isOf (nI (sK (vw f) s)) (nI o) = 0 then some (-1000013, pi_up (pi_up (pi_up g 110 0 0) 110 1 0) 110 1 3) else some (nI s, pi_up (pi_up g 110 0 0) 110 1 0) := by
    intro g hg
    obtain ⟨t1, t2⟩ := Td_x (g := pi_up g 110 0 0) (fun a k q1 q2 => by rw [pu_n (by omega), hg a k q1 q2]) hT
    obtain ⟨t3, t4⟩ := Td_x (g := pi_up (pi_up g 110 0 0) 110 1 0) (fun a k q1 q2 => by rw [pu_n (by omega), pu_n (by omega), hg a k q1 q2]) hT
    have i3 := isa_in t1 (s := s) (by rw [t2]; exact hs)
    have mk := m_kindOf t3 (s := s) (by rw [t4]; exact hs)
    rw [t4] at mk
    unfold fn_X9_as
    simp only [pn, i3, ob1, ob2, o10, if_false, e3, mk, fn_X9_finding]
    split <;> rfl
  by_cases q : fn_X9_isOf (nI (sK (vw f) s)) (nI o) = 0
  · rw [if_pos q] at hl'
    refine ⟨-1000013, pi_up f 17 8 3, _, ?_, ?_, FrX_k0 f 3⟩
    · unfold fn_X8_as
      simp only [i1, ob1, ob2, o10, if_false, e1, c_kindOf hT hs, hl', os0, fn_X8_found, pn]
      rfl
    · rw [hM _ (fun a k q1 q2 => pu_n (by omega)), if_pos q]
  · rw [if_neg q] at hl'
    refine ⟨nI s, pi_up f 17 8 0, _, ?_, ?_, FrX_k f 0⟩
    · unfold fn_X8_as
      simp only [i1, ob1, o10, if_false, e1, c_kindOf hT hs, hl', os0]
    · rw [hM _ (fun a k q1 q2 => pu_n (by omega)), if_neg q]
theorem op_fault {f : pd_M} (h : f 17 7 = f 110 31) : OpR (some (fn_X8_fault f)) (fn_X9_fault f) f := by
  refine ⟨f 17 7, rfl, ?_⟩
  unfold fn_X9_fault
  simp (disch := omega) only [pn, pu_n, h]
theorem op_status {f : pd_M} (h : SFi f) : OpR (some (fn_X8_status f)) (fn_X9_status f) f := by
  refine ⟨f 17 8, rfl, ?_⟩
  unfold fn_X9_status
  rw [show f 17 8 = f 110 1 from h]
  simp (disch := omega) only [pn, pu_n]
/-- the trace -/
def Tr (f : pd_M) : Prop := ∃ n : Nat, n ≤ 16 ∧ f 17 6 = nI n ∧ f 110 43 = nI n ∧ ∀ k, k < n → f 109 k = f 140 k
theorem op_trace {f : pd_M} (h : Tr f) (p : Int32) : OpR (fn_X8_trace p f) (fn_X9_trace p f) f := by
  obtain ⟨n, hn, e1, e2, he⟩ := h
  rcases q_ix p (n := n) (by omega) with q | ⟨k, hk, rfl⟩
  · refine ⟨-1000000, ?_, ?_⟩
    · unfold fn_X8_trace
      rw [e1, if_pos (qB_out (by omega) q)]
    · unfold fn_X9_trace
      simp (disch := omega) only [pn, pu_n, e2, qI_n, q, if_true, if_false, ↓reduceIte, Bool.false_eq_true, reduceCtorEq]
  · refine ⟨f 109 k, ?_, ?_⟩
    · unfold fn_X8_trace
      simp (disch := omega) only [e1, qB_in hk (by omega), o10, zp, nI_clamp, if_true, if_false, ↓reduceIte, Bool.false_eq_true, reduceCtorEq]
    · have hc : (0 : Int) ≤ (nI k).toInt ∧ (nI k).toInt < n := by rw [nI_toInt (by omega)]; omega
      unfold fn_X9_trace
      simp (disch := omega) only [pn, pu_n, e2, qI_n, hc, and_self, o10, zp, nI_clamp, he k hk, if_true, if_false, ↓reduceIte, Bool.false_eq_true, reduceCtorEq]
