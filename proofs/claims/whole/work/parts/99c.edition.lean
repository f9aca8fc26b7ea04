/-! PURE: a whole EDITION -/
theorem ansr_st {L : Nat} {B : Nat → Nat} {m i k : Nat} {c d : pd_M} (h : Q L B m i k c d) (z1 z2 z3 z4 z5 : Int32) :
    ∃ A y i' k' c' d', fn_X3_readAnswer c = some (A, c') ∧ (∀ K : Int32 → pd_M → Option pd_M, (ob1 (fn_X9_word d) fun r19 => ob1 (if (lg_cmp r19 1734964837) = 0 then some (1) else some (0)) fun (v22 : Int32) => ob1 (fn_X9_mustRefuseOrGive d) fun f23 => ob1 (if v22 = 0 then some (2401) else some (0)) fun (v26 : Int32) => ob2 (lp_X9_readRule_103 5000 z1 z2 z3 z4 z5 v22 v26 1 0 f23) K) = K y d') ∧ Q L B m i' k' c' d' ∧ Fc c c' ∧ Fx 33 38 d d' ∧ i ≤ i' ∧ (k' = 0 → k = 0 ∧ ∃ an, an < 2402 ∧ A = nI (en an) ∧ y = nI an) := by
  have hw := m_word h.1.2 h.2.2.2.2 (Pp_le L B i)
  obtain ⟨-, w2, -⟩ := m_cmp h.1.2 (Pp_le L B i)
  obtain ⟨r, i1, k1, c1, d1, a1, a2, h1, f1, g1, j1, hr, hok, hbad⟩ := trg_st h
  unfold fn_X3_readAnswer
  rw [a1, hw, a2]
  simp only [o1s, o2s, w2]
  by_cases hk : k1 = 0
  · subst hk
    obtain ⟨rfl, hr2⟩ := hok rfl
    rcases hr2 with ⟨rfl, e7⟩ | ⟨rfl, e8⟩
    · refine ⟨268435456, 2401, i1, 0, c1, d1, rfl, fun K => ?_, h1, f1, g1, j1, fun _ => ⟨rfl, 2401, by omega, rfl, rfl⟩⟩
      rw [e7]
      unfold lp_X9_readRule_103
      rfl
    · obtain ⟨a, w, i2, k2, c2, d2, ha, b1, b2, h2, f2, g2, j2, hw2⟩ := ra_st h1 z1 z2 z3 z4 z5 1 (by decide)
      refine ⟨nI (en a), w, i2, k2, c2, d2, ?_, fun K => ?_, h2, Fc_tr f1 f2, Fx_tr g1 g2, by omega, fun z => ⟨rfl, a, by omega, rfl, hw2 z⟩⟩
      · rw [if_pos rfl, b1]
        rfl
      · rw [e8]
        simp only [o1s, o2s, b2, if_true, show ¬ (1 : Int32) = 0 by decide, if_false]
  · obtain rfl := hbad hk
    obtain ⟨A, e1⟩ := ra_F h1 hk
    by_cases e8 : cod L B (Pp L B i) = 108
    · obtain ⟨y, e2⟩ := rm_F h1 hk z1 z2 z3 z4 z5 1 0
      refine ⟨A, y, i1, k1, c1, d1, ?_, fun K => ?_, h1, f1, g1, j1, fun z => absurd z hk⟩
      · rw [if_pos rfl, e1]
        rfl
      · simp only [e8, o1s, o2s, e2, if_true, show ¬ (1 : Int32) = 0 by decide, if_false]
    · obtain ⟨y, e2⟩ := rm_F h1 hk z1 z2 z3 z4 z5 0 2401
      refine ⟨A, y, i1, k1, c1, d1, ?_, fun K => ?_, h1, f1, g1, j1, fun z => absurd z hk⟩
      · rw [if_pos rfl, e1]
        rfl
      · simp only [e8, o1s, o2s, e2, if_true, if_false]
theorem Fc_E {c c' : pd_M} (e : Nat) (h : Fc c c') : FcE e c c' := fun a j h1 _ => h a j h1
theorem Fx_E {d d' : pd_M} (e : Nat) (h : Fx 33 38 d d') : FxE e d d' := fun a j h1 _ _ => h a j h1
theorem rule_st {L : Nat} {B : Nat → Nat} {m i : Nat} {c d : pd_M} (h : Q L B m i 0 c d) (hw : cod L B (Pp L B i) = 106) {e r : Nat} (he : e < 16) (hr : r < 6) (hP : EdP c d e r) :
    ∃ i' k' c' d', fn_X3_readRule (69 + 2 * e) c = some c' ∧ fn_X9_readRule (nI e) d = some d' ∧ Q L B m i' k' c' d' ∧ i + 1 ≤ i' ∧ FcE e c c' ∧ FxE e d d' ∧ (k' = 0 → EdP c' d' e (r + 1)) := by
  have him : i < m := by
    have := (cod_end h.1.1 h.2.1)
    have h2 := h.2.1
    omega
  obtain ⟨d1, m1, h1, g1⟩ := m_must1 h him (v := 1) (by decide)
  obtain ⟨x0, w0, i2, k2, c2, d2, -, b0, p0, q0, h2, f2, g2, j2, r0⟩ := num_st h1 0 7 (by omega) (by omega) 0 7 0 (fun _ => ⟨rfl, rfl, rfl⟩)
  obtain ⟨x1, w1, i3, k3, c3, d3, l1, b1, p1, q1, h3, f3, g3, j3, r1⟩ := num_st h2 x0 7 (by omega) (by omega) w0 7 0 (fun z => ⟨(r0 z).2, rfl, rfl⟩)
  obtain ⟨x2, w2, i4, k4, c4, d4, -, b2, p2, q2, h4, f4, g4, j4, r2⟩ := num_st h3 0 3 (by omega) (by omega) 0 3 0 (fun _ => ⟨rfl, rfl, rfl⟩)
  obtain ⟨A, y, i5, k5, c5, d5, a1, a2, h5, f5, g5, j5, r3⟩ := ansr_st h4 (nI e) (nI (6 * e + r)) w0 w1 w2
  have p0 : fn_X3_number 0 7 (pi_up c 100 3 (nI (i + 1))) = _ := p0
  have p1 : fn_X3_number (nI x0) 7 c2 = _ := p1
  have p2 : fn_X3_number 0 3 c3 = _ := p2
  have q0 : fn_X9_numberIn 0 7 0 d1 = _ := q0
  have e116 : d 116 e = nI r := hP.1.1
  have e1161 : d1 116 e = nI r := by rw [g1 116 e (by omega)]; exact e116
  have fc : Fc c c5 := Fc_tr Fc_3 (Fc_tr f2 (Fc_tr f3 (Fc_tr f4 f5)))
  have fx : Fx 33 38 d d5 := Fx_tr g1 (Fx_tr g2 (Fx_tr g3 (Fx_tr g4 g5)))
  have k53 := h5.2.2.2.1.1
  have cE : fn_X3_readRule (69 + 2 * e) c = if c5 100 4 = 0 then (ob1 (fn_X8_casesOf (nI x0) (nI x1) (nI x2) c5) fun r15 => ob1 (fn_X3_answerBy (69 + 2 * e) r15 A c5) fun f17 => some f17) else some c5 := by
    unfold fn_X3_readRule
    rw [if_pos (sk_ans he)]
    simp only [pn, h.2.2.1, nI_1, p0, o2s, p1, p2, a1]
  have dE : fn_X9_readRule (nI e) d = if d5 110 37 = 0 then some (pi_up (pi_up (pi_up (pi_up (pi_up d5 117 (6 * e + r) w0) 118 (6 * e + r) w1) 119 (6 * e + r) w2) 120 (6 * e + r) y) 116 e (nI (r + 1))) else some d5 := by
    unfold fn_X9_readRule
    have e1165 : d5 116 e = nI r := by rw [fx 116 e (by omega)]; exact e116
    simp (disch := omega) only [zp, nI_clamp, e116, l6, lq, show ¬ r = 6 by omega, o1s, m1, e1161, pn, pk_mul, nI_add, q0, o2s, q1, q2, if_true, if_false, ↓reduceIte, Bool.false_eq_true, reduceCtorEq]
    rw [a2]
    simp (disch := omega) only [zp, nI_clamp, pu_n, e1165, nI_1, if_true, if_false, ↓reduceIte, Bool.false_eq_true, reduceCtorEq]
  rw [cE, dE]
  by_cases hk : k5 = 0
  · subst hk
    obtain ⟨z4, an, han, rfl, rfl⟩ := r3 rfl
    obtain ⟨z3, rfl⟩ := r2 z4
    obtain ⟨z2, rfl⟩ := r1 z3
    obtain ⟨-, rfl⟩ := r0 z2
    rw [if_pos (show c5 100 4 = 0 from h5.2.2.2.1.2.1), if_pos (show d5 110 37 = 0 from h5.2.2.2.1.2.2.1), c_casesOf l1 (by omega) (by omega)]
    have hab := ab_lt x0 (by omega) x1 (by omega) x2 (by omega)
    obtain ⟨c6, e1, e2, e3⟩ := c_answerBy he hab (nI (en an)) c5
    simp only [o1s]
    rw [e1]
    refine ⟨i5, 0, c6, _, rfl, rfl, ?_, by omega, fun a j s1 s2 => ?_, fun a j s1 s2 s3 => ?_, fun _ => ?_⟩
    · exact Q_cc (Q_dd h5 (fun a j q => by simp (disch := omega) only [pu_n])) (fun a j q => e2 a j (by omega))
    · rw [e2 a j (by omega), fc a j s1]
    · simp (disch := omega) only [pu_n]
      exact fx a j s1
    · refine EdP_add (EdP_fr hP (fun j => fc _ j (by omega)) (fx 116 e (by omega)) (fun a k s1 s2 s3 s4 => fx a k (by omega))) hr l1 (by omega) (by omega) han ?_ (fun a k s1 s2 s3 s4 => ?_) ?_ ?_ ?_ ?_ e3
      · simp (disch := omega) only [pu_n, pu_s]
      · simp (disch := omega) only [pu_n]
      · simp (disch := omega) only [pu_n, pu_s]
      · simp (disch := omega) only [pu_n, pu_s]
      · simp (disch := omega) only [pu_n, pu_s]
      · simp (disch := omega) only [pu_n, pu_s]
  · rw [if_neg (show ¬ c5 100 4 = 0 by rw [h5.2.2.2.1.2.1]; exact nI_ne0 (by omega) (by omega)), if_neg (show ¬ d5 110 37 = 0 by rw [h5.2.2.2.1.2.2.1]; exact nI_ne0 (by omega) (by omega))]
    exact ⟨i5, k5, c5, d5, rfl, rfl, h5, by omega, Fc_E e fc, Fx_E e fx, fun z => absurd z hk⟩
theorem rule_full {L : Nat} {B : Nat → Nat} {m i : Nat} {c d : pd_M} (h : Q L B m i 0 c d) {e : Nat} (he : e < 16) (h6 : d 116 e = nI 6) : ∃ d', fn_X9_readRule (nI e) d = some d' ∧ Q L B m i 3 (pi_up c 100 4 (nI 3)) d' ∧ Fx 33 38 d d' := by
  obtain ⟨d1, e1, h1, g1⟩ := m_bad0 h (b := 3) (by omega) (by omega)
  refine ⟨d1, ?_, h1, g1⟩
  have e1 : fn_X9_bad 3 d = some d1 := e1
  have e2 : d1 116 e = nI 6 := by rw [g1 116 e (by omega)]; exact h6
  obtain ⟨A, y, i5, k5, c5, d5, a1, a2, h5, f5, g5, j5, r3⟩ := ansr_st h1 (nI e) (nI (6 * e + 6)) 0 0 0
  unfold fn_X9_readRule
  simp (disch := omega) only [zp, nI_clamp, h6, l6, o1s, e1, m_mustF h1 (show (3 : Nat) ≠ 0 by omega), e2, pn, pk_mul, nI_add, numIn_F h1 (show (3 : Nat) ≠ 0 by omega), o2s, if_true, if_false, ↓reduceIte, Bool.false_eq_true, reduceCtorEq]
  rw [a2]
  have hd : d5 = d1 := by
    have t := a2 (fun _ x => some x)
    have hw := m_word h1.1.2 h1.2.2.2.2 (Pp_le L B i)
    have hg : fn_X9_mustRefuseOrGive d1 = some d1 := by
      unfold fn_X9_mustRefuseOrGive
      simp (disch := omega) only [h1.2.2.2.1.2.2.1, zc, show ¬ (3 : Nat) = 0 by omega, if_true, if_false, ↓reduceIte, Bool.false_eq_true, reduceCtorEq]
    rw [hw, hg] at t
    simp only [o1s] at t
    by_cases z : lg_cmp (lN (wvs L B (Pp L B i))) 1734964837 = 0
    · obtain ⟨y2, e2⟩ := rm_F h1 (by omega) (nI e) (nI (6 * e + 6)) 0 0 0 1 0
      simp only [z, o1s, if_true, show ¬ (1 : Int32) = 0 by decide, if_false, e2, o2s] at t
      exact (Option.some.inj t).symm
    · obtain ⟨y2, e2⟩ := rm_F h1 (by omega) (nI e) (nI (6 * e + 6)) 0 0 0 0 2401
      simp only [z, o1s, if_true, if_false, e2, o2s] at t
      exact (Option.some.inj t).symm
  rw [hd]
  simp (disch := omega) only [h1.2.2.2.1.2.2.1, zc, show ¬ (3 : Nat) = 0 by omega, if_true, if_false, ↓reduceIte, Bool.false_eq_true, reduceCtorEq]
/-- the rules -/
theorem rules_st {L : Nat} {B : Nat → Nat} {m e : Nat} (he : e < 16) (z1 z2 : Int32) : ∀ (u r n n' i : Nat) (c d : pd_M), r + u = 7 → u < n → u < n' → Q L B m i 0 c d → EdP c d e r →
    ∃ i' k' c' d', lp_X3_readEdition_102 n z1 (69 + 2 * e) (nI r) c = some c' ∧ lp_X9_readEdition_94 n' z2 (nI e) d = some d' ∧ Q L B m i' k' c' d' ∧ i ≤ i' ∧ FcE e c c' ∧ FxE e d d' ∧ (k' = 0 → ∃ r', EdP c' d' e r') := by
  intro u
  induction u with
  | zero => intro r n n' i c d h1 _ _ _ hP; have := hP.1.2; omega
  | succ u ih =>
    intro r n n' i c d h1 h2 h3 h hP
    obtain ⟨n, rfl⟩ : ∃ k, n = k + 1 := ⟨n - 1, by omega⟩
    obtain ⟨n', rfl⟩ : ∃ k, n' = k + 1 := ⟨n' - 1, by omega⟩
    have hr := hP.1.2
    have hwd := m_word h.1.2 h.2.2.2.2 (Pp_le L B i)
    obtain ⟨w1, -⟩ := m_cmp h.1.2 (Pp_le L B i)
    obtain ⟨k1, k2, -⟩ := c_tok h
    have cl := (cod_lt L B (Pp L B i)).1
    unfold lp_X3_readEdition_102 lp_X9_readEdition_94
    rw [if_pos (sk_ans he), if_pos (show c 100 4 = 0 from h.2.2.2.1.2.1), if_pos k1, k2, if_pos (show d 110 37 = 0 from h.2.2.2.1.2.2.1), hwd]
    simp (disch := omega) only [l6, lt_, lq, l106, show ¬ 6 < r by omega, o1s, w1, pn, nI_1, if_true, if_false, ↓reduceIte, Bool.false_eq_true, reduceCtorEq]
    by_cases hw : cod L B (Pp L B i) = 106
    · rw [if_pos hw, if_pos hw]
      by_cases r6 : r = 6
      · subst r6
        obtain ⟨d1, e1, h4, g1⟩ := rule_full h he hP.1.1
        obtain ⟨n, rfl⟩ : ∃ k, n = k + 1 := ⟨n - 1, by omega⟩
        obtain ⟨n', rfl⟩ : ∃ k, n' = k + 1 := ⟨n' - 1, by omega⟩
        refine ⟨i, 3, pi_up c 100 4 (nI 3), d1, ?_, ?_, h4, by omega, Fc_E e Fc_4, Fx_E e g1, fun z => absurd z (by omega)⟩
        · simp only [if_true, o1s]
          unfold lp_X3_readEdition_102
          rw [if_pos (sk_ans he), if_pos (by decide)]
          rfl
        · rw [e1]
          simp only [o1s]
          unfold lp_X9_readEdition_94
          rw [if_neg (show ¬ d1 110 37 = 0 by rw [h4.2.2.2.1.2.2.1]; decide)]
      · rw [if_neg r6]
        obtain ⟨i1, k3, c1, d1, e1, e2, h4, j1, f1, g1, hok⟩ := rule_st h hw he (by omega) hP
        rw [e1, e2]
        simp only [o1s]
        by_cases hk : k3 = 0
        · subst hk
          obtain ⟨i2, k4, c2, d2, a1, a2, a3, a4, a5, a6, a7⟩ := ih (r + 1) n n' i1 c1 d1 (by omega) (by omega) (by omega) h4 (hok rfl)
          exact ⟨i2, k4, c2, d2, a1, a2, a3, by omega, fun a j s1 s2 => by rw [a5 a j s1 s2, f1 a j s1 s2], fun a j s1 s2 s3 => by rw [a6 a j s1 s2 s3, g1 a j s1 s2 s3], a7⟩
        · have k33 := h4.2.2.2.1.1
          obtain ⟨n, rfl⟩ : ∃ k, n = k + 1 := ⟨n - 1, by omega⟩
          obtain ⟨n', rfl⟩ : ∃ k, n' = k + 1 := ⟨n' - 1, by omega⟩
          refine ⟨i1, k3, c1, d1, ?_, ?_, h4, by omega, f1, g1, fun z => absurd z hk⟩
          · unfold lp_X3_readEdition_102
            rw [if_pos (sk_ans he), if_neg (show ¬ c1 100 4 = 0 by rw [h4.2.2.2.1.2.1]; exact nI_ne0 (by omega) (by omega))]
            split <;> rfl
          · unfold lp_X9_readEdition_94
            rw [if_neg (show ¬ d1 110 37 = 0 by rw [h4.2.2.2.1.2.2.1]; exact nI_ne0 (by omega) (by omega))]
    · rw [if_neg hw, if_neg hw]
      exact ⟨i, 0, c, d, rfl, rfl, h, by omega, Fc_E e Fc_rf, Fx_E e Fx_rf, fun _ => ⟨r, hP⟩⟩
theorem lc_84 {e : Nat} (he : e < 16) (z1 : Int32) : ∀ (r n j : Nat) (c : pd_M), j + r = 24 → r < n → lp_X3_readEdition_84 n z1 (69 + 2 * e) (nI j) c = some (clr c (69 + 2 * e) j 24) := by
  intro r
  induction r with
  | zero =>
    intro n j c h1 h2
    obtain ⟨n, rfl⟩ : ∃ k, n = k + 1 := ⟨n - 1, by omega⟩
    unfold lp_X3_readEdition_84
    rw [show j = 24 by omega, clr_end]
    simp (disch := omega) only [sk_ans he, l24, ly, Nat.le_refl, if_true, if_false, ↓reduceIte, Bool.false_eq_true, reduceCtorEq]
  | succ r ih =>
    intro n j c h1 h2
    obtain ⟨n, rfl⟩ : ∃ k, n = k + 1 := ⟨n - 1, by omega⟩
    unfold lp_X3_readEdition_84
    simp (disch := omega) only [sk_ans he, l24, ly, show ¬ 24 ≤ j by omega, zp, nI_clamp, pn, nI_1, if_true, if_false, ↓reduceIte, Bool.false_eq_true, reduceCtorEq]
    rw [ih n (j + 1) _ (by omega) (by omega), clr_step (by omega)]
/-- the end of a text's part -/
theorem sign_st {L : Nat} {B : Nat → Nat} {m i k : Nat} {c d : pd_M} (h : Q L B m i k c d) :
    ∃ i' k' c' d', fn_X3_take 101 c = some c' ∧ (if (d 110 37) = 0 then ob1 (if (d 110 34) = 4 then some (1) else some (0)) fun (v42 : Int32) => ob1 (fn_X9_must v42 d) fun f43 => some f43 else some d) = some d' ∧ Q L B m i' k' c' d' ∧ Fc c c' ∧ Fx 33 38 d d' ∧ i ≤ i' ∧ (k' = 0 → k = 0) := by
  have k3 := h.2.2.2.1.1
  have kl : kd L B (Pp L B i) < 5 := by
    unfold kd
    repeat' split
    all_goals omega
  have ck := (cod_lt L B (Pp L B i)).2.2.2
  have e34 : (d 110 34 = 4) = (cod L B (Pp L B i) = 101) := by
    rw [h.2.2.2.2.2.1, l4, lq (by omega) (by omega)]
    exact propext ck.symm
  by_cases hk : k = 0
  · subst hk
    rw [if_pos (show d 110 37 = 0 from h.2.2.2.1.2.2.1)]
    simp only [e34]
    by_cases e : cod L B (Pp L B i) = 101
    · obtain ⟨i', k', c', d', a1, a2, a3, a4, a5, a6, a7⟩ := take_st h 101 (by omega) (by omega) 1 (fun _ => ⟨fun _ => rfl, fun z => absurd e z⟩)
      refine ⟨i', k', c', d', a1, ?_, a3, a4, a5, a6, fun _ => by trivial⟩
      simp only [e, if_true, o1s, a2]
    · obtain ⟨i', k', c', d', a1, a2, a3, a4, a5, a6, a7⟩ := take_st h 101 (by omega) (by omega) 0 (fun _ => ⟨fun z => absurd z e, fun _ => rfl⟩)
      refine ⟨i', k', c', d', a1, ?_, a3, a4, a5, a6, fun _ => by trivial⟩
      simp only [e, if_false, o1s, a2]
  · obtain ⟨i', k', c', d', a1, a2, a3, a4, a5, a6, a7⟩ := take_st h 101 (by omega) (by omega) 0 (fun z => absurd z hk)
    rw [m_mustF h hk] at a2
    cases a2
    refine ⟨i', k', c', d, a1, ?_, a3, a4, a5, a6, fun z => (a7 z).1⟩
    rw [if_neg (show ¬ d 110 37 = 0 by rw [h.2.2.2.1.2.2.1]; exact nI_ne0 (by omega) (by omega))]
