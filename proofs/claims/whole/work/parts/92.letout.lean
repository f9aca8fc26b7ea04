/-! PURE: letOut, the call -/
def fil (f : pd_M) (a : Nat) (v : Int32) (lo hi : Nat) : pd_M := fun b k => if b = a ∧ lo ≤ k ∧ k < hi then v else f b k
theorem fil_n {f : pd_M} {a lo hi b k : Nat} {v : Int32} (h : ¬ (b = a ∧ lo ≤ k ∧ k < hi)) : fil f a v lo hi b k = f b k := by unfold fil; rw [if_neg h]
theorem fil_s {f : pd_M} {a lo hi k : Nat} {v : Int32} (h : lo ≤ k ∧ k < hi) : fil f a v lo hi a k = v := by unfold fil; rw [if_pos ⟨rfl, h⟩]
theorem fil_end {f : pd_M} {a hi : Nat} {v : Int32} : fil f a v hi hi = f := by
  funext b k
  exact fil_n (by omega)
theorem fil_step {f : pd_M} {a lo hi : Nat} {v : Int32} (h : lo < hi) : fil (pi_up f a lo v) a v (lo + 1) hi = fil f a v lo hi := by
  funext b k
  by_cases h1 : b = a ∧ lo ≤ k ∧ k < hi
  · obtain ⟨rfl, h2, h3⟩ := h1
    rw [fil_s ⟨h2, h3⟩]
    by_cases h4 : k = lo
    · subst h4
      rw [fil_n (by omega), pu_s]
    · rw [fil_s (by omega)]
  · rw [fil_n h1, fil_n (by omega), pu_n (by omega)]
theorem lc_fill (z : Int32) : ∀ (r n i : Nat) (f : pd_M), i + r = 625 → r < n → lp_X1_measureWaysTo_2 n z (nI i) f = some (fil f 107 (-1) i 625) := by
  intro r
  induction r with
  | zero =>
    intro n i f hi hn
    obtain ⟨n, rfl⟩ : ∃ k, n = k + 1 := ⟨n - 1, by omega⟩
    have : i = 625 := by omega
    subst this
    simp (disch := omega) only [lp_X1_measureWaysTo_2, l625, ly, Nat.le_refl, fil_end, if_true, if_false, ↓reduceIte, Bool.false_eq_true, reduceCtorEq]
  | succ r ih =>
    intro n i f hi hn
    obtain ⟨n, rfl⟩ : ∃ k, n = k + 1 := ⟨n - 1, by omega⟩
    simp (disch := omega) only [lp_X1_measureWaysTo_2, l625, ly, zp, nI_clamp, pn, nI_1, show ¬ 625 ≤ i by omega, if_true, if_false, ↓reduceIte, Bool.false_eq_true, reduceCtorEq]
    rw [ih n (i + 1) _ (by omega) (by omega), fil_step (by omega)]
theorem lm_fill (z1 z2 z3 : Int32) : ∀ (r n i : Nat) (f : pd_M), i + r = 625 → r < n → lp_X9_letOut_60 n z1 z2 z3 (nI i) f = some (fil f 137 (-1000000) i 625) := by
  intro r
  induction r with
  | zero =>
    intro n i f hi hn
    obtain ⟨n, rfl⟩ : ∃ k, n = k + 1 := ⟨n - 1, by omega⟩
    have : i = 625 := by omega
    subst this
    simp (disch := omega) only [lp_X9_letOut_60, l625, ly, Nat.le_refl, fil_end, if_true, if_false, ↓reduceIte, Bool.false_eq_true, reduceCtorEq]
  | succ r ih =>
    intro n i f hi hn
    obtain ⟨n, rfl⟩ : ∃ k, n = k + 1 := ⟨n - 1, by omega⟩
    simp (disch := omega) only [lp_X9_letOut_60, l625, ly, zp, nI_clamp, pn, nI_1, show ¬ 625 ≤ i by omega, if_true, if_false, ↓reduceIte, Bool.false_eq_true, reduceCtorEq]
    rw [ih n (i + 1) _ (by omega) (by omega), fil_step (by omega)]
/-- the search from a HOUSE that isn't red, on both sides -/
theorem bf_all {f e : pd_M} (z1 z3 : Int32) (hT : Td f) (hW : We f) (hE : Td e) (hv : vw e = vw f) {h : Nat} (hh : sHo (vw f) h) (hg : Gr (vw f) h) :
    ∃ n c d, fn_X1_measureWaysTo (nI h) f = some c ∧ lp_X9_letOut_103 5000 z1 z3 1 0 (pi_up (pi_up (fil e 137 (-1000000) 0 625) 137 h 0) 138 0 (nI h)) = some d ∧ Rl f e n c d := by
  have hn0 := hT.1.2.2
  have h1 := hh.1
  have e1 := lc_fill (nI h) 625 5000 0 f (by omega) (by omega)
  have fr : FrT f (pi_up (fil f 107 (-1) 0 625) 106 3 0) := ⟨by rw [pu_n (by omega), fil_n (by omega)], fun a k q => by rw [pu_n (by omega), fil_n (by omega)]⟩
  have tc := Td_fr fr hT
  have vc := vw_fr fr
  have wc : We (pi_up (fil f 107 (-1) 0 625) 106 3 0) := fun s hs => by rw [pu_n (by omega), fil_n (by omega)]; exact hW s hs
  have hl := c_least tc wc (h := h) (by rw [vc]; exact hh)
  rw [vc] at hl
  have hg' : sRed (vw f) h = vw f 0 0 := hg
  rw [if_pos hg'] at hl
  have er : fn_X1_reach (nI h) 0 (pi_up (fil f 107 (-1) 0 625) 106 3 0) = some (pi_up (pi_up (pi_up (pi_up (fil f 107 (-1) 0 625) 106 3 0) 107 h 0) 108 0 (nI h)) 106 3 1) := by
    unfold fn_X1_reach
    have z1 : pa_in (0 : Int32) 625 = true := zp (j := 0) (by decide) (by decide)
    have z2 : ((0 : Int32).toNatClampNeg) = 0 := by decide
    have z3 : (0 : Int32) < 625 := by decide
    have z4 : (0 : Int32) + 1 = 1 := by decide
    simp (disch := omega) only [zp, nI_clamp, pu_n, pu_s, fil_s, hl, ob1, z1, z2, z3, z4, pn, if_true, if_false, ↓reduceIte, Bool.false_eq_true, reduceCtorEq]
  have R : Rl f e 1 (pi_up (pi_up (pi_up (pi_up (fil f 107 (-1) 0 625) 106 3 0) 107 h 0) 108 0 (nI h)) 106 3 1) (pi_up (pi_up (fil e 137 (-1000000) 0 625) 137 h 0) 138 0 (nI h)) := by
    refine ⟨?_, ?_, ⟨pu_s, by omega⟩, fun _ => h, ?_, ?_, ?_⟩
    · intro a k a1 a2 a3
      rw [pu_n (by omega), pu_n (by omega), pu_n (by omega), pu_n (by omega), fil_n (by omega)]
    · intro a k a1 a2
      rw [pu_n (by omega), pu_n (by omega), fil_n (by omega)]
    · intro i hi
      have : i = 0 := by omega
      subst this
      refine ⟨?_, ?_, hh, hg, 0, by omega, ?_, ?_⟩
      · simp (disch := omega) only [pu_n, pu_s]
      · simp (disch := omega) only [pu_n, pu_s]
      · simp (disch := omega) only [pu_n, pu_s]; rfl
      · simp (disch := omega) only [pu_n, pu_s]; rfl
    · intro i j hij hj
      omega
    · intro x hx
      by_cases q : h = x
      · exact Or.inl ⟨0, by omega, q⟩
      · refine Or.inr ⟨?_, Or.inl ?_⟩
        · simp (disch := omega) only [pu_n, fil_s]
        · simp (disch := omega) only [pu_n, fil_s]
  obtain ⟨n, c, d, o1, o2, o3⟩ := bf_out z1 z3 hT hW hE hv 625 5000 5000 0 1 _ _ (by omega) (by omega) (by omega) R (by omega)
  refine ⟨n, c, d, ?_, o2, o3⟩
  unfold fn_X1_measureWaysTo
  rw [show nI 0 = (0 : Int32) from rfl] at e1 o1
  simp only [e1, ob1, pn, er, o1]
theorem bf_red {f : pd_M} (hT : Td f) (hW : We f) {h : Nat} (hh : sHo (vw f) h) (hg : ¬ Gr (vw f) h) :
    ∃ c, fn_X1_measureWaysTo (nI h) f = some c ∧ (∀ x, x < 625 → c 107 x = -1 ∨ c 107 x = -2) ∧ ∀ a k, a ≠ 106 → a ≠ 107 → a ≠ 108 → c a k = f a k := by
  have hn0 := hT.1.2.2
  have h1 := hh.1
  have e1 := lc_fill (nI h) 625 5000 0 f (by omega) (by omega)
  have fr : FrT f (pi_up (fil f 107 (-1) 0 625) 106 3 0) := ⟨by rw [pu_n (by omega), fil_n (by omega)], fun a k q => by rw [pu_n (by omega), fil_n (by omega)]⟩
  have tc := Td_fr fr hT
  have vc := vw_fr fr
  have wc : We (pi_up (fil f 107 (-1) 0 625) 106 3 0) := fun s hs => by rw [pu_n (by omega), fil_n (by omega)]; exact hW s hs
  have hl := c_least tc wc (h := h) (by rw [vc]; exact hh)
  rw [vc] at hl
  have hg' : ¬ sRed (vw f) h = vw f 0 0 := hg
  have hle := ff_le (sRd (vw f) h) (vw f 0 0) 0
  have hlt : sRed (vw f) h < 2 ^ 31 := by unfold sRed; omega
  rw [if_neg hg'] at hl
  have er : fn_X1_reach (nI h) 0 (pi_up (fil f 107 (-1) 0 625) 106 3 0) = some (pi_up (pi_up (fil f 107 (-1) 0 625) 106 3 0) 107 h (-2)) := by
    unfold fn_X1_reach
    simp (disch := omega) only [zp, nI_clamp, pu_n, pu_s, fil_s, hl, zj, ob1, pn, if_true, if_false, ↓reduceIte, Bool.false_eq_true, reduceCtorEq]
  have eo : ∀ g : pd_M, g 106 3 = 0 → ∀ n, lp_X1_measureWaysTo_35 (n + 1) 0 g = some g := by
    intro g hg n
    rw [lp_X1_measureWaysTo_35, if_neg (by decide), if_pos (by rw [hg]; decide)]
  refine ⟨pi_up (pi_up (fil f 107 (-1) 0 625) 106 3 0) 107 h (-2), ?_, ?_, ?_⟩
  · unfold fn_X1_measureWaysTo
    rw [show nI 0 = (0 : Int32) from rfl] at e1
    simp only [e1, ob1, pn, er]
    rw [show lp_X1_measureWaysTo_35 5000 0 (pi_up (pi_up (fil f 107 (-1) 0 625) 106 3 0) 107 h (-2)) = _ from eo _ (by rw [pu_n (by omega), pu_s]) 4999]
  · intro x hx
    by_cases q : x = h
    · subst q
      exact Or.inr pu_s
    · refine Or.inl ?_
      simp (disch := omega) only [pu_n, fil_s]
  · intro a k a1 a2 a3
    rw [pu_n (by omega), pu_n (by omega), fil_n (by omega)]
theorem neg_steps {x : Int32} (h : x = -1 ∨ x = -2) : ¬ 0 ≤ x ∧ ¬ 1 ≤ x := by rcases h with rfl | rfl <;> decide
/-- the answers of the search -/
theorem bf_first {f e c d : pd_M} {n h0 t : Nat} (hT : Td f) (hW : We f) (hE : Td e) (hv : vw e = vw f) (R : Rl f e n c d) (h0v : sHo (vw f) h0) (hc : c 107 h0 = nI t) (hd : d 137 h0 = nI t) (ht : 1 ≤ t) (ht2 : t < 2 ^ 30) {s : Nat} (hs : s < 4) :
    ∀ (r n1 n2 p : Nat) (z : Int32), p + r = vw f 114 s + 1 → r < n1 → r < n2 → ∃ y, lp_X1_firstFrom_42 n1 (nI h0) z (nI s) (nI (h0 - fig h0 s * 5 ^ s)) (nI p) c = some y ∧ lp_X9_letOut_285 n2 (nI h0) z (nI s) (nI p) d = some y := by
  have hs4 := (hT.2.1 s hs).2.2
  have h00 := h0v.1
  obtain ⟨tc, vc, wc, td, vd⟩ := Rl_Td hT hW hE hv R
  have e1 := (tc.2.1 s hs).2.1
  have e2 := (td.2.1 s hs).1
  rw [vc] at e1
  rw [vd] at e2
  intro r
  induction r with
  | zero =>
    intro n1 n2 p z hp hn1 hn2
    obtain ⟨n1, rfl⟩ : ∃ k, n1 = k + 1 := ⟨n1 - 1, by omega⟩
    obtain ⟨n2, rfl⟩ : ∃ k, n2 = k + 1 := ⟨n2 - 1, by omega⟩
    refine ⟨z, ?_, ?_⟩
    · simp (disch := omega) only [lp_X1_firstFrom_42, zp, nI_clamp, e1, lt_, show vw f 114 s < p by omega, if_true, if_false, ↓reduceIte, Bool.false_eq_true, reduceCtorEq]
    · simp (disch := omega) only [lp_X9_letOut_285, zp, nI_clamp, e2, lt_, show vw f 114 s < p by omega, if_true, if_false, ↓reduceIte, Bool.false_eq_true, reduceCtorEq]
  | succ r ih =>
    intro n1 n2 p z hp hn1 hn2
    obtain ⟨n1, rfl⟩ : ∃ k, n1 = k + 1 := ⟨n1 - 1, by omega⟩
    obtain ⟨n2, rfl⟩ : ∃ k, n2 = k + 1 := ⟨n2 - 1, by omega⟩
    have ih := fun z => ih n1 n2 (p + 1) z (by omega) (by omega) (by omega)
    have hx := nbr_ho hs h0v (p := p) (by omega) hs4
    have hx1 := hx.1
    have hcond : (c 107 (nbr h0 s p) = nI (t - 1)) = (d 137 (nbr h0 s p) = nI (t - 1)) := by
      obtain ⟨-, -, -, q, R5, -, R7⟩ := id R
      rcases R7 _ hx1 with ⟨i, hi, e⟩ | ⟨r1, r2⟩
      · obtain ⟨-, -, -, -, t', -, j1, j2⟩ := R5 i hi
        rw [← e, j1, j2]
      · have a1 : ¬ d 137 (nbr h0 s p) = nI (t - 1) := by
          intro e
          rw [r1] at e
          have := zj (i := t - 1) (by omega)
          rw [← e] at this
          exact absurd rfl (of_eq_false this)
        have a2 : ¬ c 107 (nbr h0 s p) = nI (t - 1) := by
          intro e
          have hz : (0 : Int32) ≤ nI (t - 1) := nI_pos' (by omega)
          rw [← e] at hz
          rcases r2 with r2 | ⟨r2, -⟩
          · exact (neg_steps (Or.inl r2)).1 hz
          · exact (neg_steps (Or.inr r2)).1 hz
        rw [eq_false a1, eq_false a2]
    simp (disch := omega) only [lp_X1_firstFrom_42, lp_X9_letOut_285, zp, nI_clamp, e1, e2, lt_, wc s hs, nbr_c hs, m_figure h00 hs, m_worth hs, nbr_m hs, hc, hd, zi, hcond, pn, nI_1, show ¬ vw f 114 s < p by omega, if_true, if_false, ↓reduceIte, Bool.false_eq_true, reduceCtorEq]
    by_cases q1 : d 137 (nbr h0 s p) = nI (t - 1)
    · by_cases q2 : z = -1000000
      · simp only [q1, q2, if_true, ob1]
        exact ih _
      · by_cases q3 : z ≤ nI (nbr h0 s p)
        · simp only [q1, q2, q3, if_true, if_false, ob1]
          exact ih _
        · simp only [q1, q2, q3, if_true, if_false, ob1]
          exact ih _
    · simp only [q1, if_false, ob1]
      exact ih _
theorem bf_firsts {f e c d : pd_M} {n h0 t : Nat} (hT : Td f) (hW : We f) (hE : Td e) (hv : vw e = vw f) (R : Rl f e n c d) (h0v : sHo (vw f) h0) (hc : c 107 h0 = nI t) (hd : d 137 h0 = nI t) (ht : 1 ≤ t) (ht2 : t < 2 ^ 30) :
    ∀ (r n1 n2 s : Nat) (z : Int32), s + r = 4 → r < n1 → r < n2 → ∃ y, lp_X1_firstFrom_18 n1 (nI h0) z (nI s) c = some y ∧ lp_X9_letOut_276 n2 (nI h0) z (nI s) d = some y := by
  have h00 := h0v.1
  obtain ⟨tc, vc, wc, td, vd⟩ := Rl_Td hT hW hE hv R
  intro r
  induction r with
  | zero =>
    intro n1 n2 s z hs hn1 hn2
    obtain ⟨n1, rfl⟩ : ∃ k, n1 = k + 1 := ⟨n1 - 1, by omega⟩
    obtain ⟨n2, rfl⟩ : ∃ k, n2 = k + 1 := ⟨n2 - 1, by omega⟩
    have : s = 4 := by omega
    subst this
    refine ⟨z, ?_, ?_⟩
    · simp (disch := omega) only [lp_X1_firstFrom_18, l4, ly, Nat.le_refl, if_true, if_false, ↓reduceIte, Bool.false_eq_true, reduceCtorEq]
    · simp (disch := omega) only [lp_X9_letOut_276, l4, ly, Nat.le_refl, if_true, if_false, ↓reduceIte, Bool.false_eq_true, reduceCtorEq]
  | succ r ih =>
    intro n1 n2 s z hs hn1 hn2
    obtain ⟨n1, rfl⟩ : ∃ k, n1 = k + 1 := ⟨n1 - 1, by omega⟩
    obtain ⟨n2, rfl⟩ : ∃ k, n2 = k + 1 := ⟨n2 - 1, by omega⟩
    have hs4 := (hT.2.1 s (by omega)).2.2
    obtain ⟨y, y1, y2⟩ := bf_first hT hW hE hv R h0v hc hd ht ht2 (show s < 4 by omega) (vw f 114 s + 1) 5000 5000 0 z (by omega) (by omega) (by omega)
    obtain ⟨w, w1, w2⟩ := ih n1 n2 (s + 1) y (by omega) (by omega) (by omega)
    rw [show nI 0 = (0 : Int32) from rfl] at y1 y2
    refine ⟨w, ?_, ?_⟩
    · simp (disch := omega) only [lp_X1_firstFrom_18, l4, ly, c_standing wc h00, ob1, zp, nI_clamp, wc s (by omega), pk_mul, pk_sub (fig_sub (show s < 4 by omega)), pn, y1, nI_1, w1, show ¬ 4 ≤ s by omega, if_true, if_false, ↓reduceIte, Bool.false_eq_true, reduceCtorEq]
    · simp (disch := omega) only [lp_X9_letOut_276, l4, ly, ob1, y2, pn, nI_1, w2, show ¬ 4 ≤ s by omega, if_true, if_false, ↓reduceIte, Bool.false_eq_true, reduceCtorEq]
def FrL (f g : pd_M) : Prop := ∀ a k, a ≠ 106 → a ≠ 107 → a ≠ 108 → a ≠ 137 → a ≠ 138 → ¬ (a = 110 ∧ k = 0) → g a k = f a k
theorem op_letOut {f : pd_M} (hT : Td f) (hW : We f) (p u w : Int32) : ∃ r f1 f2, fn_X8_letOut p u w f = some (r, f1) ∧ fn_X9_letOut p u w f1 = some (r, f2) ∧ FrL f f2 := by
  have hz := FrT_zz f
  have hn0 := hT.1.2.2
  have frz : FrL f (pi_up f 110 0 0) := fun a k _ _ _ _ _ q => pu_n q
  rcases ho_cases hT hW (Td_fr hz hT) (vw_fr hz) p with ⟨k1, k2⟩ | ⟨h, hh, rfl, k1, k2⟩
  · refine ⟨-1000001, f, pi_up f 110 0 0, ?_, ?_, frz⟩
    · simp [fn_X8_letOut, k1, ob1]
    · simp [fn_X9_letOut, pn, k2, ob1]
  rcases ho_cases hT hW (Td_fr hz hT) (vw_fr hz) u with ⟨k3, k4⟩ | ⟨g, hg, rfl, k3, k4⟩
  · refine ⟨-1000001, f, pi_up f 110 0 0, ?_, ?_, frz⟩
    · simp [fn_X8_letOut, k1, k3, ob1]
    · simp [fn_X9_letOut, pn, k2, k4, ob1]
  rcases q_ix w (n := 2) (by decide) with q | ⟨j, hj, rfl⟩
  · have e1 : fn_X8_isBelow w 2 = 0 := qB_out (n := 2) (by decide) q
    have e3 : fn_X9_in w.toInt64 0 1 = 0 := qI_out (lo := 0) (hi := 1) (by decide) (by decide) (by omega)
    refine ⟨-1000001, f, pi_up f 110 0 0, ?_, ?_, frz⟩
    · simp [fn_X8_letOut, k1, k3, ob1, e1]
    · simp [fn_X9_letOut, pn, k2, k4, ob1, e3]
  have e1 : fn_X8_isBelow (nI j) 2 = 1 := qB_in (n := 2) hj (by decide)
  have e3 : fn_X9_in (nI j).toInt64 0 1 = 1 := qI_in (lo := 0) (hi := 1) (by omega) (by omega) (by decide)
  have hh1 := hh.1
  have hg1 := hg.1
  have hleh := ff_le (sRd (vw f) h) (vw f 0 0) 0
  have hleg := ff_le (sRd (vw f) g) (vw f 0 0) 0
  have hlth : sRed (vw f) h < 2 ^ 31 := by unfold sRed; omega
  have hltg : sRed (vw f) g < 2 ^ 31 := by unfold sRed; omega
  -- the model in a memory that differs in the class's own rows alone
  have hM : ∀ c : pd_M, (∀ a k, a ≠ 106 → a ≠ 107 → a ≠ 108 → c a k = f a k) → Td (pi_up c 110 0 0) ∧ vw (pi_up c 110 0 0) = vw f ∧ fn_X9_isHouse (nI h) (pi_up c 110 0 0) = some 1 ∧ fn_X9_isHouse (nI g) (pi_up c 110 0 0) = some 1 ∧ fn_X9_redOf (nI h) (pi_up c 110 0 0) = some (if sRed (vw f) h = vw f 0 0 then -1000000 else nI (sRed (vw f) h)) ∧ fn_X9_redOf (nI g) (pi_up c 110 0 0) = some (if sRed (vw f) g = vw f 0 0 then -1000000 else nI (sRed (vw f) g)) := by
    intro c hc
    have fr : FrT f (pi_up c 110 0 0) := ⟨by rw [pu_n (by omega), hc 110 12 (by omega) (by omega) (by omega)], fun a k q => by rw [pu_n (by omega), hc a k (by omega) (by omega) (by omega)]⟩
    have t1 := Td_fr fr hT
    have t2 := vw_fr fr
    have m1 := m_red t1 (h := h) (by rw [t2]; exact hh)
    have m2 := m_red t1 (h := g) (by rw [t2]; exact hg)
    rw [t2] at m1 m2
    refine ⟨t1, t2, ?_, ?_, m1, m2⟩
    · rcases ho_cases hT hW t1 t2 (nI h) with ⟨z1, z2⟩ | ⟨_, _, _, z1, z2⟩
      · rw [k1] at z1; exact absurd z1 (by decide)
      · exact z2
    · rcases ho_cases hT hW t1 t2 (nI g) with ⟨z1, z2⟩ | ⟨_, _, _, z1, z2⟩
      · rw [k3] at z1; exact absurd z1 (by decide)
      · exact z2
  have hCls : ∀ c, fn_X1_measureWaysTo (nI g) f = some c → (c 107 h = -1 ∨ c 107 h = -2) → fn_X8_letOut (nI h) (nI g) (nI j) f = some (-1000000, c) := by
    intro c hc hs
    obtain ⟨n1, n2⟩ := neg_steps hs
    unfold fn_X8_letOut fn_X1_stepsFrom fn_X1_firstFrom
    simp (disch := omega) only [k1, k3, ob1, e1, o10, hc, zp, nI_clamp, n1, n2, if_true, if_false, ↓reduceIte, Bool.false_eq_true, reduceCtorEq]
    by_cases q : nI j = 0
    · rw [if_pos q]
    · rw [if_neg q]
  by_cases hGg : Gr (vw f) g
  · have hGg' : sRed (vw f) g = vw f 0 0 := hGg
    by_cases hGh : Gr (vw f) h
    · have hGh' : sRed (vw f) h = vw f 0 0 := hGh
      -- both sides search; the model's memory is made of the class's end, which doesn't matter to it
      obtain ⟨n0, c, d0, o1, -, R0⟩ := bf_all (nI h) (nI j) hT hW (Td_fr hz hT) (vw_fr hz) hg hGg
      obtain ⟨t1, t2, m1, m2, m3, m4⟩ := hM c R0.1
      obtain ⟨n, c', d, p1, p2, R⟩ := bf_all (nI h) (nI j) hT hW t1 t2 hg hGg
      have ec : c' = c := Option.some.inj (p1.symm.trans o1)
      subst ec
      have lf := lm_fill (nI h) (nI g) (nI j) 625 5000 0 (pi_up c' 110 0 0) (by omega) (by omega)
      rw [show nI 0 = (0 : Int32) from rfl] at lf
      have fd : FrL f d := by
        intro a k a1 a2 a3 a4 a5 a6
        rw [R.2.1 a k a4 a5, pu_n a6, R.1 a k a1 a2 a3]
      rw [if_pos hGh'] at m3
      rw [if_pos hGg'] at m4
      obtain ⟨-, -, -, q, R5, -, R7⟩ := id R
      have hX9 : fn_X9_letOut (nI h) (nI g) (nI j) c' = (if nI j = 0 then some (d 137 h, d) else if 1 ≤ d 137 h then ob1 (lp_X9_letOut_276 5000 (nI h) (-1000000) 0 d) fun y => some (y, d) else some (-1000000, d)) := by
        unfold fn_X9_letOut
        simp (disch := omega) only [pn, m1, m2, m3, m4, e3, ob1, o10, lf, zp, nI_clamp, p2, if_true, if_false, ↓reduceIte, Bool.false_eq_true, reduceCtorEq]
        by_cases q : nI j = 0
        · simp only [q, if_true]
        · simp only [q, if_false]
      rcases R7 h hh1 with ⟨i, hi, e⟩ | ⟨r1, r2⟩
      · obtain ⟨-, -, -, -, t, j0, j1, j2⟩ := R5 i hi
        have hn625 := R.2.2.1.2
        rw [e] at j1 j2
        rcases (by omega : j = 0 ∨ j = 1) with rfl | rfl
        · refine ⟨nI t, c', d, ?_, ?_, fd⟩
          · unfold fn_X8_letOut fn_X1_stepsFrom
            simp (disch := omega) only [k1, k3, ob1, e1, o10, o1, zp, nI_clamp, j1, za, show (nI 0 = (0 : Int32)) = True from eq_true rfl, if_true, if_false, ↓reduceIte, Bool.false_eq_true, reduceCtorEq]
          · rw [hX9, if_pos (show nI 0 = (0 : Int32) from rfl), j2]
        · by_cases ht : 1 ≤ t
          · obtain ⟨y, y1, y2⟩ := bf_firsts hT hW t1 t2 R hh j1 j2 ht (by omega) 4 5000 5000 0 (-1000000) (by omega) (by omega) (by omega)
            rw [show nI 0 = (0 : Int32) from rfl] at y1 y2
            refine ⟨y, c', d, ?_, ?_, fd⟩
            · unfold fn_X8_letOut fn_X1_firstFrom
              simp (disch := omega) only [k1, k3, ob1, e1, o10, o1, zp, nI_clamp, j1, zf, zc, ht, y1, Nat.one_ne_zero, if_true, if_false, ↓reduceIte, Bool.false_eq_true, reduceCtorEq]
            · rw [hX9, if_neg (by decide), j2, if_pos (show (1 : Int32) ≤ nI t from nI_le (a := 1) ht (by omega)), y2]
              rfl
          · have : t = 0 := by omega
            subst this
            refine ⟨-1000000, c', d, ?_, ?_, fd⟩
            · unfold fn_X8_letOut fn_X1_firstFrom
              simp (disch := omega) only [k1, k3, ob1, e1, o10, o1, zp, nI_clamp, j1, zf, zc, ht, Nat.one_ne_zero, if_true, if_false, ↓reduceIte, Bool.false_eq_true, reduceCtorEq]
            · rw [hX9, if_neg (by decide), j2, if_neg (by decide)]
      · refine ⟨-1000000, c', d, hCls c' o1 (r2.imp id And.left), ?_, fd⟩
        rw [hX9, r1]
        by_cases q : nI j = 0
        · rw [if_pos q]
        · rw [if_neg q, if_neg (by decide)]
    · have hGh' : ¬ sRed (vw f) h = vw f 0 0 := hGh
      obtain ⟨n, c, d, o1, -, R⟩ := bf_all (nI h) (nI j) hT hW (Td_fr hz hT) (vw_fr hz) hg hGg
      obtain ⟨t1, t2, m1, m2, m3, m4⟩ := hM c R.1
      rw [if_neg hGh'] at m3
      obtain ⟨-, -, -, q, R5, -, R7⟩ := id R
      refine ⟨-1000000, c, pi_up c 110 0 0, hCls c o1 ?_, ?_, ?_⟩
      · rcases R7 h hh1 with ⟨i, hi, e⟩ | ⟨r1, r2⟩
        · exact absurd (e ▸ (R5 i hi).2.2.2.1) hGh
        · exact r2.imp id And.left
      · unfold fn_X9_letOut
        simp (disch := omega) only [pn, m1, m2, m3, e3, ob1, o10, zj, if_true, if_false, ↓reduceIte, Bool.false_eq_true, reduceCtorEq]
      · intro a k a1 a2 a3 a4 a5 a6
        rw [pu_n a6, R.1 a k a1 a2 a3]
  · have hGg' : ¬ sRed (vw f) g = vw f 0 0 := hGg
    obtain ⟨c, o1, o2, o3⟩ := bf_red hT hW hg hGg
    obtain ⟨t1, t2, m1, m2, m3, m4⟩ := hM c o3
    rw [if_neg hGg'] at m4
    refine ⟨-1000000, c, pi_up c 110 0 0, hCls c o1 (o2 h hh1), ?_, ?_⟩
    · unfold fn_X9_letOut
      by_cases q : sRed (vw f) h = vw f 0 0
      · rw [if_pos q] at m3
        simp (disch := omega) only [pn, m1, m2, m3, m4, e3, ob1, o10, zj, if_true, if_false, ↓reduceIte, Bool.false_eq_true, reduceCtorEq]
      · rw [if_neg q] at m3
        simp (disch := omega) only [pn, m1, m2, m3, e3, ob1, o10, zj, if_true, if_false, ↓reduceIte, Bool.false_eq_true, reduceCtorEq]
    · intro a k a1 a2 a3 a4 a5 a6
      rw [pu_n a6, o3 a k a1 a2 a3]
