/-! PURE: answer, change, noMore -/
def nb (v i : Nat) : Nat := ff (fun k => v.testBit k && decide (fb_ct (fun j => v.testBit j) k = i)) 7 0
theorem lc_nthBit {f : pd_M} {v i : Nat} (hv : v < 128) (hi : i < 2 ^ 30) : ∀ (r n k : Nat), k + r = 7 → r < n → lp_X8_nthBit_4 n (nI v) (nI i) (nI (fb_ct (fun j => v.testBit j) k)) (nI k) f = if ff (fun k => v.testBit k && decide (fb_ct (fun j => v.testBit j) k = i)) r k = 7 then some (.inr ()) else some (.inl (nI (ff (fun k => v.testBit k && decide (fb_ct (fun j => v.testBit j) k = i)) r k))) := by
  intro r
  induction r with
  | zero =>
    intro n k hk hn
    obtain ⟨n, rfl⟩ : ∃ k, n = k + 1 := ⟨n - 1, by omega⟩
    have : k = 7 := by omega
    subst this
    simp (disch := omega) only [lp_X8_nthBit_4, l7, ly, ff, Nat.le_refl, if_true, if_false, ↓reduceIte, Bool.false_eq_true, reduceCtorEq]
  | succ r ih =>
    intro n k hk hn
    obtain ⟨n, rfl⟩ : ∃ k, n = k + 1 := ⟨n - 1, by omega⟩
    have hi2 := ih n (k + 1) (by omega) (by omega)
    have hc := fb_ct_le (fun j => v.testBit j) k
    rw [fb_ct_succ] at hi2
    rw [show ff (fun k => v.testBit k && decide (fb_ct (fun j => v.testBit j) k = i)) (r + 1) k = if (v.testBit k && decide (fb_ct (fun j => v.testBit j) k = i)) = true then k else ff (fun k => v.testBit k && decide (fb_ct (fun j => v.testBit j) k = i)) r (k + 1) from rfl]
    simp (disch := omega) only [lp_X8_nthBit_4, l7, ly, lq, q_bit0, pn, nI_1, show ¬ 7 ≤ k by omega, if_true, if_false, ↓reduceIte, Bool.false_eq_true, reduceCtorEq]
    cases hb : v.testBit k
    · simp only [hb, Bool.false_eq_true, if_false, Nat.add_zero] at hi2
      simp only [if_true, Bool.false_and, Bool.false_eq_true, if_false, hi2]
    · simp only [hb, if_true] at hi2
      by_cases h2 : fb_ct (fun j => v.testBit j) k = i
      · simp only [Bool.true_eq_false, if_false, h2, if_true, decide_true, Bool.and_self, show k ≠ 7 by omega]
      · simp only [Bool.true_eq_false, if_false, h2, decide_false, Bool.and_false, Bool.false_eq_true, hi2]
theorem c_nthBit {f : pd_M} {v i : Nat} (hv : v < 128) (hi : i < 2 ^ 30) : fn_X8_nthBit (nI v) (nI i) f = some (if nb v i = 7 then -1000000 else nI (nb v i)) := by
  have h := lc_nthBit (f := f) hv hi 7 5000 0 (by omega) (by omega)
  unfold fn_X8_nthBit nb
  rw [show lp_X8_nthBit_4 5000 (nI v) (nI i) 0 0 f = _ from h]
  by_cases e : ff (fun k => v.testBit k && decide (fb_ct (fun j => v.testBit j) k = i)) 7 0 = 7
  · simp only [e, if_true, os0]
  · simp only [e, if_false, os0]
theorem nb_one : ∀ d, d < 7 → nb (2 ^ d) 0 = d := by decide +kernel
theorem case_out {a m : Int32} (h : ¬ (0 ≤ a.toInt ∧ a.toInt < (8 : Nat)) ∨ ¬ (0 ≤ m.toInt ∧ m.toInt < (3 : Nat))) : fn_X8_isCase a m = 0 := by
  unfold fn_X8_isCase
  rcases h with h | h
  · rw [if_pos (show fn_X8_isBelow a 8 = 0 from qB_out (n := 8) (by decide) h)]
  · rw [show fn_X8_isBelow m 3 = 0 from qB_out (n := 3) (by decide) h]
    simp
theorem case_in {a m : Nat} (ha : a < 8) (hm : m < 3) : fn_X8_isCase (nI a) (nI m) = 1 := by
  unfold fn_X8_isCase
  rw [show fn_X8_isBelow (nI a) 8 = 1 from qB_in (n := 8) ha (by decide), show fn_X8_isBelow (nI m) 3 = 1 from qB_in (n := 3) hm (by decide)]
  simp
theorem ise_zz {f : pd_M} (p e : Int32) : fn_X9_isEdition p e (pi_up f 110 0 0) = fn_X9_isEdition p e f := by
  unfold fn_X9_isEdition
  simp (disch := omega) only [pu_n]
theorem op_answer {f : pd_M} (hT : Td f) (p e a m w : Int32) : OpR (fn_X8_answer p e a m w f) (fn_X9_answer p e a m w f) f := by
  have hz := FrT_zz f
  rcases ed_cases hT p e with ⟨k1, k2⟩ | ⟨g, x, hg, hx, rfl, rfl, k1, k2⟩
  · refine ⟨-1000001, ?_, ?_⟩
    · simp [fn_X8_answer, k1, ob1]
    · simp [fn_X9_answer, pn, ise_zz, k2, ob1]
  · have hE := hT.2.2.2.1 g hg x hx
    have h4 := (hT.2.1 g hg).2.2
    have hEG := Ed_fr hz (by omega) hE
    rcases q_ix a (n := 8) (by decide) with h | ⟨a, ha, rfl⟩
    · have e3 : fn_X9_in a.toInt64 0 7 = 0 := qI_out (lo := 0) (hi := 7) (by decide) (by decide) (by omega)
      refine ⟨-1000001, ?_, ?_⟩
      · simp [fn_X8_answer, k1, ob1, case_out (Or.inl h)]
      · simp [fn_X9_answer, pn, ise_zz, k2, ob1, e3]
    have e3 : fn_X9_in (nI a).toInt64 0 7 = 1 := qI_in (lo := 0) (hi := 7) (by omega) (by omega) (by decide)
    rcases q_ix m (n := 3) (by decide) with h | ⟨m, hm, rfl⟩
    · have e4 : fn_X9_in m.toInt64 0 2 = 0 := qI_out (lo := 0) (hi := 2) (by decide) (by decide) (by omega)
      refine ⟨-1000001, ?_, ?_⟩
      · simp [fn_X8_answer, k1, ob1, case_out (Or.inr h)]
      · simp [fn_X9_answer, pn, ise_zz, k2, ob1, e3, e4]
    have e4 : fn_X9_in (nI m).toInt64 0 2 = 1 := qI_in (lo := 0) (hi := 2) (by omega) (by omega) (by decide)
    rcases q_ix w (n := 5) (by decide) with h | ⟨w, hw, rfl⟩
    · have e5 : fn_X9_in w.toInt64 0 4 = 0 := qI_out (lo := 0) (hi := 4) (by decide) (by decide) (by omega)
      have e6 : fn_X8_isBelow w 5 = 0 := qB_out (n := 5) (by decide) h
      refine ⟨-1000001, ?_, ?_⟩
      · simp [fn_X8_answer, k1, ob1, case_in ha hm, e6]
      · simp [fn_X9_answer, pn, ise_zz, k2, ob1, e3, e4, e5]
    have e5 : fn_X9_in (nI w).toInt64 0 4 = 1 := qI_in (lo := 0) (hi := 4) (by omega) (by omega) (by decide)
    have e6 : fn_X8_isBelow (nI w) 5 = 1 := qB_in (n := 5) hw (by decide)
    have mA := m_answerOf (f := pi_up f 110 0 0) hg (show x < 4 by omega) hEG ha hm
    rw [vw_fr hz] at mA
    have hans := hE.2.2 (3 * a + m) (by omega)
    rw [show (3 * a + m) / 3 = a by omega, show (3 * a + m) % 3 = m by omega] at hans
    have hlt := sAns_lt hE a m
    have hen := en_lt (sAns (vw f) (4 * g + x) a m)
    have hcase : fn_X8_caseOf (nI a) (nI m) = nI (3 * a + m) := by unfold fn_X8_caseOf; rw [l3, pk_mul, nI_add]
    have h28 := en_28 (sAns (vw f) (4 * g + x) a m)
    have hiff : (en (sAns (vw f) (4 * g + x) a m) = 268435456) = (sAns (vw f) (4 * g + x) a m = 2401) := by
      refine propext ⟨fun q => ?_, fun q => ?_⟩
      · rw [q, show Nat.testBit 268435456 28 = true by decide +kernel] at h28
        simpa using h28.symm
      · unfold en; rw [if_pos q]
    unfold OpR fn_X8_answer fn_X9_answer
    simp (disch := omega) only [pn, ob1, k1, k2, ise_zz, o10, case_in ha hm, e3, e4, e5, e6, c_edOf, hcase, zp, nI_clamp, show 68 + 2 * (4 * g + x) + 1 = 69 + 2 * (4 * g + x) by omega, hans, lr, l2401, l4, lq, hiff, mA, if_true, if_false, ↓reduceIte, Bool.false_eq_true, reduceCtorEq]
    by_cases hq : sAns (vw f) (4 * g + x) a m = 2401
    · by_cases h4 : w = 4
      · simp [hq, h4]
      · simp [hq, h4]
    · by_cases h4 : w = 4
      · simp [hq, h4]
      · have hd := dg_lt (sAns (vw f) (4 * g + x) a m) w
        have hfi := en_fi hq (show w < 4 by omega)
        have hnb := c_nthBit (f := f) (v := 2 ^ dg (sAns (vw f) (4 * g + x) a m) w) (i := 0) (p2_lt hd) (by decide)
        rw [nb_one _ hd, if_neg (by omega)] at hnb
        have hnb' : fn_X8_nthBit (nI (2 ^ dg (sAns (vw f) (4 * g + x) a m) w)) 0 f = some (nI (dg (sAns (vw f) (4 * g + x) a m) w)) := hnb
        refine ⟨nI (dg (sAns (vw f) (4 * g + x) a m) w), ?_, ?_⟩
        · simp (disch := omega) only [hq, h4, if_false, if_true, q_field, hfi, hnb']
        · simp (disch := omega) only [hq, h4, if_false, m_fieldIn hlt]
theorem lm_change {f : pd_M} (hT : Td f) {g x y : Nat} (hg : g < 4) (hx : x < vw f 114 g) (hy : y < vw f 114 g) : ∀ (r n i : Nat), i + r = vw f 0 0 → r < n → lp_X9_change_32 n (nI g) (nI x) (nI y) (nI (orF (fun i => decide (vw f 123 i = g) && sKp (vw f) i (4 * g + x) && !sKp (vw f) i (4 * g + y)) i)) (nI i) f = some (nI (orF (fun i => decide (vw f 123 i = g) && sKp (vw f) i (4 * g + x) && !sKp (vw f) i (4 * g + y)) (vw f 0 0))) := by
  have hn := hT.1.2.2
  have h4 := (hT.2.1 g hg).2.2
  have hEx := hT.2.2.2.1 g hg x hx
  have hEy := hT.2.2.2.1 g hg y hy
  intro r
  induction r with
  | zero =>
    intro n i hi hn
    obtain ⟨n, rfl⟩ : ∃ k, n = k + 1 := ⟨n - 1, by omega⟩
    have : i = vw f 0 0 := by omega
    subst this
    simp (disch := omega) only [lp_X9_change_32, hT.1.1, ly, Nat.le_refl, if_true, if_false, ↓reduceIte, Bool.false_eq_true, reduceCtorEq]
  | succ r ih =>
    intro n i hi hn2
    obtain ⟨n, rfl⟩ : ∃ k, n = k + 1 := ⟨n - 1, by omega⟩
    have hi2 := ih n (i + 1) (by omega) (by omega)
    have hs := hT.2.2.1 i (by omega)
    have ho := orF_31 (fun i => decide (vw f 123 i = g) && sKp (vw f) i (4 * g + x) && !sKp (vw f) i (4 * g + y)) (n := i) (by omega)
    obtain ⟨c1, -, c3⟩ := hs.2.2.1
    rw [show orF (fun i => decide (vw f 123 i = g) && sKp (vw f) i (4 * g + x) && !sKp (vw f) i (4 * g + y)) (i + 1) = if (decide (vw f 123 i = g) && sKp (vw f) i (4 * g + x) && !sKp (vw f) i (4 * g + y)) = true then orF (fun i => decide (vw f 123 i = g) && sKp (vw f) i (4 * g + x) && !sKp (vw f) i (4 * g + y)) i ||| 2 ^ i else orF (fun i => decide (vw f 123 i = g) && sKp (vw f) i (4 * g + x) && !sKp (vw f) i (4 * g + y)) i from rfl] at hi2
    simp (disch := omega) only [lp_X9_change_32, hT.1.1, ly, zp, nI_clamp, c1, lq, pn, nI_1, q_1shl, show ¬ vw f 0 0 ≤ i by omega, if_true, if_false, ↓reduceIte, Bool.false_eq_true, reduceCtorEq]
    have z0 : ∀ k : Nat, nI k ||| (0 : Int32) = nI k := fun k => by rw [show (0 : Int32) = nI 0 from rfl, fa_or, Nat.or_zero]
    by_cases hc : vw f 123 i = g
    · have m1 := m_isKept (e := x) (by omega) hs (by omega) (by rw [hc]; exact hEx)
      have m2 := m_isKept (e := y) (by omega) hs (by omega) (by rw [hc]; exact hEy)
      rw [hc] at m1 m2
      simp only [hc, m1, m2, if_true, ob1, decide_true, Bool.true_and] at hi2 ⊢
      cases q1 : sKp (vw f) i (4 * g + x)
      · simp only [q1, Bool.false_eq_true, if_false, if_true, Bool.false_and, z0] at hi2 ⊢
        exact hi2
      · cases q2 : sKp (vw f) i (4 * g + y)
        · simp only [q1, q2, o10, Bool.false_eq_true, if_false, if_true, Bool.true_and, Bool.not_false, fa_or] at hi2 ⊢
          exact hi2
        · simp only [q1, q2, o10, Bool.false_eq_true, if_false, if_true, Bool.true_and, Bool.not_true, z0] at hi2 ⊢
          exact hi2
    · simp only [hc, if_false, ob1, decide_false, Bool.false_and, Bool.false_eq_true, z0] at hi2 ⊢
      exact hi2
theorem op_change {f : pd_M} (hT : Td f) (p e d : Int32) : OpR (fn_X8_change p e d f) (fn_X9_change p e d f) f := by
  have hz := FrT_zz f
  have hG := Td_fr hz hT
  have hn := hT.1.2.2
  rcases ed_cases hT p e with ⟨k1, k2⟩ | ⟨g, x, hg, hx, rfl, rfl, k1, k2⟩
  · refine ⟨-1000001, ?_, ?_⟩
    · simp [fn_X8_change, k1, ob1]
    · simp [fn_X9_change, pn, ise_zz, k2, ob1]
  · rcases ed_cases hT (nI g) d with ⟨k3, k4⟩ | ⟨g2, y, hg2, hy, eg, rfl, k3, k4⟩
    · refine ⟨-1000001, ?_, ?_⟩
      · simp [fn_X8_change, k1, k3, ob1]
      · simp [fn_X9_change, pn, ise_zz, k2, k4, ob1]
    · have egg : g = g2 := (nI_eq (by omega) (by omega)).mp eg
      subst egg
      have h4 := (hT.2.1 g hg).2.2
      have hl := lm_change hG hg (x := x) (y := y) (by rw [vw_fr hz]; exact hx) (by rw [vw_fr hz]; exact hy) (vw f 0 0) 5000 0 (by rw [vw_fr hz]; omega) (by omega)
      rw [vw_fr hz] at hl
      have hl' : lp_X9_change_32 5000 (nI g) (nI x) (nI y) 0 0 (pi_up f 110 0 0) = _ := hl
      have ka := hT.2.2.2.2.1 g hg x hx
      have kb := hT.2.2.2.2.1 g hg y hy
      have oa := orF_31 (sKs (vw f) g x) hn
      refine ⟨nI (nd (orF (sKs (vw f) g x) (vw f 0 0)) (orF (sKs (vw f) g y) (vw f 0 0))), ?_, ?_⟩
      · unfold fn_X8_change
        simp (disch := omega) only [k1, k3, ob1, o10, c_edOf, ka, kb, q_nd, if_true, if_false, ↓reduceIte, Bool.false_eq_true, reduceCtorEq]
      · unfold fn_X9_change
        simp (disch := omega) only [pn, ise_zz, k2, k4, ob1, o10, hl', if_true, if_false, ↓reduceIte, Bool.false_eq_true, reduceCtorEq]
        congr 3
        refine Nat.eq_of_testBit_eq fun i => ?_
        rw [nd_bit oa, orF_bit, orF_bit, orF_bit]
        unfold sKs
        cases decide (i < vw f 0 0) <;> cases decide (vw f 123 i = g) <;> simp
