/-! PURE: editions, tries, withins of a text -/
theorem sgn_F {L : Nat} {B : Nat → Nat} {m i k : Nat} {c d : pd_M} (h : Q L B m i k c d) (hk : k ≠ 0) : sgn d = some d := by
  have := h.2.2.2.1.1
  unfold sgn
  rw [if_neg (show ¬ d 110 37 = 0 by rw [h.2.2.2.1.2.2.1]; exact nI_ne0 (by omega) (by omega))]
theorem FC_Fc {N : Nat} {E : Nat → Nat} {c c' : pd_M} (h : Fc c c') : FC N E c c' := fun a j q => h a j (fun z => q.1 z.1)
theorem FD_Fx {N : Nat} {E : Nat → Nat} {d d' : pd_M} (h : Fx 33 38 d d') : FD N E d d' := fun a j q => h a j (fun z => (q.1 z.1).2 z.2)
theorem St_F {L : Nat} {B : Nat → Nat} {m i i' k' N : Nat} {E : Nat → Nat} {c d c' d' : pd_M} {x y : Option pd_M} (hx : x = some c') (hy : y = some d') (h : Q L B m i' k' c' d') (hk : k' ≠ 0) (f : Fc c c') (g : Fx 33 38 d d') : St L B m i N E c d x y :=
  ⟨i', k', c', d', hx, hy, h, FC_Fc f, FD_Fx g, fun z => absurd z hk⟩
theorem ed_st {L : Nat} {B : Nat → Nat} {m i N : Nat} {E : Nat → Nat} {c d : pd_M} (h : Q L B m i 0 c d) (hD : Dr N E c d) (ht : cod L B (Pp L B i) = 102) : St L B m i N E c d (fn_X3_readEdition c) (fn_X9_readOne d) := by
  obtain ⟨d1, h1, g1, e1⟩ := one_pre h ht (by omega) (fun z => absurd z (by omega))
  rw [e1, show oneM 102 d1 = fn_X9_readEdition d1 from rfl]
  have hn := m_num h1.1.2 h1.2.2.2.2 (Pp_le L B (i + 1))
  have cl := (cod_lt L B (Pp L B (i + 1))).1
  have ck := (cod_lt L B (Pp L B (i + 1))).2.1
  have k34 := h1.2.2.2.2.2.1
  have kl : kd L B (Pp L B (i + 1)) < 5 := by
    unfold kd
    repeat' split
    all_goals omega
  have e34 : (d1 110 34 = 3) = (kd L B (Pp L B (i + 1)) = 3) := by
    rw [k34, l3, lq (by omega) (by omega)]
  have hl := look_ok h1 (lo := 0) (hi := 3) (bar := 0) (by omega) (by omega) (by omega)
  have hl : fn_X3_look 0 3 0 (pi_up c 100 3 (nI (i + 1))) = _ := hl
  have hend := cod_end h1.1.1 h1.2.1
  have him := h1.2.1
  generalize cod L B (Pp L B (i + 1)) = v at hn cl ck hl hend
  have cE : fn_X3_readEdition c = ob2 (fn_X3_look 0 3 0 (pi_up c 100 3 (nI (i + 1)))) fun r2 f3 =>
      ob1 (if (f3 100 4) = 0 then
      if pa_in r2 4 = true then
      if (f3 102 r2.toNatClampNeg) < 4 then
      some (f3)
      else
      some (pi_up f3 100 4 3)
      else none
      else
      some (f3)) fun (f6 : pd_M) =>
      if (f6 100 4) = 0 then
      if pa_in r2 4 = true then
      ob1 (fn_X7_editionOf r2 ((pi_up f6 100 3 ((f6 100 3) + 1)) 102 r2.toNatClampNeg)) fun r13 =>
      ob1 (lp_X3_readEdition_84 5000 r2 (r13 + 1) 0 (pi_up f6 100 3 ((f6 100 3) + 1))) fun f19 =>
      ob1 (lp_X3_readEdition_102 5000 r2 (r13 + 1) 0 f19) fun f31 =>
      ob1 (fn_X3_take 101 f31) fun f33 =>
      ob1 (fn_X3_answerBy (r13 + 1) 16777215 268435456 f33) fun f35 =>
      if pa_in r2 4 = true then
      if pa_in r2 4 = true then
      some (pi_up f35 102 (r2.toNatClampNeg) ((f35 102 r2.toNatClampNeg) + 1))
      else none
      else none
      else none
      else
      some f6 := by
    unfold fn_X3_readEdition
    simp only [pn, h.2.2.1, nI_1]
  rw [cE, hl]
  have z14 : (pi_up c 100 3 (nI (i + 1))) 100 4 = 0 := h1.2.2.2.1.2.1
  by_cases hv : v ≤ 99
  · have k3 := ck.mp hv
    have h34 : d1 110 34 = 3 := by rw [e34]; exact k3
    rw [if_pos hv]
    rw [if_pos k3] at hn
    by_cases hv3 : v ≤ 3
    · rw [if_pos ⟨by omega, hv3, Nat.zero_testBit v⟩]
      obtain ⟨hE4, ec, edd⟩ := hD.2.1 v (by omega)
      have ec1 : (pi_up c 100 3 (nI (i + 1))) 102 v = nI (E v) := by rw [pu_n (by omega)]; exact ec
      have ed1 : d1 115 v = nI (E v) := by rw [g1 115 v (by omega)]; exact edd
      by_cases hE : E v = 4
      · obtain ⟨db, b1, b2, b3⟩ := m_bad0 h1 (b := 3) (by omega) (by omega)
        have b4 : db 110 34 = nI 3 := by rw [b2.2.2.2.2.2.1, k3]
        have h34' : d1 110 34 = nI 3 := h34
        refine St_F (i' := i + 1) (k' := 3) (c' := pi_up (pi_up c 100 3 (nI (i + 1))) 100 4 (nI 3)) (d' := db) ?_ ?_ b2 (by omega) (Fc_tr Fc_3 Fc_4) (Fx_tr g1 b3)
        · simp (disch := omega) only [o2s, z14, zp, nI_clamp, ec1, hE, l4, lt_, Nat.lt_irrefl, o1s, if_true, if_false, ↓reduceIte, Bool.false_eq_true, reduceCtorEq]
          rw [if_neg (by rw [pu_s]; decide)]
          rfl
        · unfold fn_X9_readEdition
          simp (disch := omega) only [hn, o1s, h34', l3, l4, ly, zp, nI_clamp, ed1, hE, hv3, show ¬ 4 ≤ v by omega, b1, b4, m_mustF b2 (show (3 : Nat) ≠ 0 by omega), if_true, if_false, ↓reduceIte, Bool.false_eq_true, reduceCtorEq]
          rw [if_neg (show ¬ db 110 37 ≤ 0 by rw [b2.2.2.2.1.2.2.1]; decide), o1s, sgn_F b2 (by omega)]
      · -- it is read
        obtain ⟨d2, m2, h2, g2⟩ := m_must1 h1 (show i + 1 < m by omega) (v := 1) (by decide)
        have he : 4 * v + E v < 16 := by omega
        generalize hee : 4 * v + E v = e at he
        have cc : pi_up (pi_up c 100 3 (nI (i + 1))) 100 3 (((pi_up c 100 3 (nI (i + 1))) 100 3) + 1) = pi_up (pi_up c 100 3 (nI (i + 1))) 100 3 (nI (i + 1 + 1)) := by
          rw [pu_s, nI_1]
        generalize hc2 : pi_up (pi_up c 100 3 (nI (i + 1))) 100 3 (nI (i + 1 + 1)) = c2 at h2 cc
        have fc2 : Fc c c2 := by rw [← hc2]; exact Fc_tr Fc_3 Fc_3
        have h3 : Q L B m (i + 1 + 1) 0 (clr c2 (69 + 2 * e) 0 24) (pi_up d2 116 e 0) := Q_cc (Q_upd h2 (by omega)) (fun a j q => clr_n (by omega))
        have hP : EdP (clr c2 (69 + 2 * e) 0 24) (pi_up d2 116 e 0) e 0 := by
          refine ⟨⟨pu_s, by omega⟩, fun k k1 k2 => absurd k2 (by omega), fun j hj => ?_⟩
          rw [clr_s (by omega)]
          unfold ff
          rw [if_pos (by omega)]
        obtain ⟨i4, k4, c4, d4, a1, a2, h4, j4, f4, g4, hok⟩ := rules_st he (nI v) (nI v) 7 0 5000 5000 _ _ _ (by omega) (by omega) (by omega) h3 hP
        have ed4 : d4 115 v = nI (E v) := by rw [g4 115 v (by omega) (by omega) (by omega), pu_n (by omega), g2 115 v (by omega)]; exact ed1
        have h5 : Q L B m i4 k4 c4 (pi_up d4 115 v (nI (E v + 1))) := Q_upd h4 (by omega)
        obtain ⟨i5, k5, c5, d6, t1, t2, h6, f6, g6, j6, hok2⟩ := sgn_st h5
        obtain ⟨c6, y1, y2, y3⟩ := c_answerBy he (cs := 16777215) (by decide) 268435456 c5
        have y1 : fn_X3_answerBy (69 + 2 * e) 16777215 268435456 c5 = some c6 := y1
        have ec4 : c4 102 v = nI (E v) := by rw [f4 102 v (by omega) (by omega), clr_n (by omega), fc2 102 v (by omega)]; exact ec
        have ec6 : c6 102 v = nI (E v) := by rw [y2 102 v (by omega), f6 102 v (by omega)]; exact ec4
        have e2c : c2 102 v = nI (E v) := by rw [fc2 102 v (by omega)]; exact ec
        have F1 : ∀ a j, ¬ (a = 100 ∧ (j = 3 ∨ j = 4)) → a ≠ 69 + 2 * e → c6 a j = c a j := fun a j q1 q2 => by
          rw [y2 a j (by omega), f6 a j q1, f4 a j q1 q2, clr_n (by omega), fc2 a j q1]
        have F2 : ∀ a j, ¬ (a = 110 ∧ 33 ≤ j ∧ j ≤ 38) → ¬ (a = 116 ∧ j = e) → ¬ (117 ≤ a ∧ a ≤ 120 ∧ 6 * e ≤ j ∧ j < 6 * e + 6) → ¬ (a = 115 ∧ j = v) → d6 a j = d a j := fun a j q1 q2 q3 q4 => by
          rw [g6 a j q1, pu_n (by omega), g4 a j q1 q2 q3, pu_n (by omega), g2 a j q1, g1 a j q1]
        refine ⟨i5, k5, pi_up c6 102 v (nI (E v + 1)), d6, ?_, ?_, Q_upc (Q_cc h6 (fun a j q => y2 a j (by omega))) (by omega), fun a j q => ?_, fun a j q => ?_, fun z => ?_⟩
        · simp (disch := omega) only [o2s, z14, zp, nI_clamp, ec1, l4, lt_, show E v < 4 by omega, o1s, cc, e2c, c_edOf (show v < 4 by omega) (show E v < 4 by omega), hee, if_true, if_false, ↓reduceIte, Bool.false_eq_true, reduceCtorEq]
          rw [show 68 + 2 * e + 1 = 69 + 2 * e by omega, show lp_X3_readEdition_84 5000 (nI v) (69 + 2 * e) 0 c2 = _ from lc_84 he (nI v) 24 5000 0 c2 (by omega) (by omega), o1s, show lp_X3_readEdition_102 5000 (nI v) (69 + 2 * e) 0 (clr c2 (69 + 2 * e) 0 24) = _ from a1, o1s, t1, o1s, y1, o1s, ec6, nI_1]
        · unfold fn_X9_readEdition
          have e16 : d2 115 v = nI (E v) := by rw [g2 115 v (by omega)]; exact ed1
          have a2 : lp_X9_readEdition_94 5000 (nI v) (nI e) (pi_up d2 116 e 0) = some d4 := a2
          have z2 : d2 110 37 ≤ 0 := by rw [show d2 110 37 = 0 from h2.2.2.2.1.2.2.1]; decide
          have h34' : d1 110 34 = nI 3 := h34
          simp (disch := omega) only [hn, o1s, h34', l3, l4, lq, ly, zp, nI_clamp, ed1, hE, hv3, show ¬ 4 ≤ v by omega, m2, z2, e16, pn, pk_mul, nI_add, hee, a2, ed4, nI_1, if_true, if_false, ↓reduceIte, Bool.false_eq_true, reduceCtorEq]
          exact t2
        · rw [pu_n (by have := q.2.1; omega)]
          refine F1 a j (fun z => q.1 z.1) ?_
          rw [← hee]
          exact q.2.2.2 v (by omega) (E v) (by omega) (by omega)
        · have q7 := q.2.2.2.2.2.2.2 v (by omega) (E v) (by omega) (by omega)
          rw [hee] at q7
          exact F2 a j (fun z => (q.1 z.1).2 z.2) q7.1 q7.2 (fun z => q.2.1 z.1)
        · have zk4 := hok2 z
          obtain ⟨r', hr'⟩ := hok zk4
          obtain ⟨D1, D2, D3, D4, D5, D6⟩ := hD
          refine ⟨by omega, N, fun s => if s = v then E v + 1 else E s, by omega, fun s => ?_, ⟨D1.1, ?_, ?_⟩, fun s hs => ?_, fun k hk => ?_, fun s hs => ?_, fun i hi => ?_, fun s hs e' he' => ?_⟩
          · simp only []
            split
            · next q => subst q; omega
            · omega
          · rw [pu_n (by omega), F1 101 4 (by omega) (by omega)]; exact D1.2.1
          · rw [F2 110 13 (by omega) (by omega) (by omega) (by omega)]; exact D1.2.2
          · by_cases q : s = v
            · subst q
              simp only [if_true]
              refine ⟨by omega, pu_s, ?_⟩
              rw [g6 115 s (by omega), pu_s]
            · simp only [q, if_false]
              rw [pu_n (by omega), F1 102 s (by omega) (by omega), F2 115 s (by omega) (by omega) (by omega) (by omega)]
              exact D2 s hs
          · rw [pu_n (by omega), F1 103 k (by omega) (by omega), F2 131 k (by omega) (by omega) (by omega) (by omega)]; exact D3 k hk
          · rw [pu_n (by omega), pu_n (by omega), F1 104 s (by omega) (by omega), F1 105 s (by omega) (by omega), F2 134 s (by omega) (by omega) (by omega) (by omega), F2 135 s (by omega) (by omega) (by omega) (by omega)]; exact D4 s hs
          · refine SyJ_fr (D5 i hi) (fun j => ?_) (fun a q1 q2 => F2 a i (by omega) (by omega) (by omega) (by omega)) (fun j hj => F2 129 _ (by omega) (by omega) (by omega) (by omega))
            rw [pu_n (by omega), F1 _ j (by omega) (by omega)]
          · have hs4 := (D2 s hs).1
            have new : 4 * s + e' = e → EdJ (pi_up c6 102 v (nI (E v + 1))) d6 (4 * s + e') := by
              intro q
              rw [q]
              refine EdJ_of (c := c5) (d := d4) (EdP_fr hr' (fun j => f6 _ j (by omega)) rfl (fun _ _ _ _ _ _ => rfl)) ?_ (fun a k q1 q2 q3 q4 => ?_) (fun j hj => ?_)
              · rw [g6 116 e (by omega), pu_n (by omega)]
              · rw [g6 a k (by omega), pu_n (by omega)]
              · rw [pu_n (by omega)]
                exact y3 j hj
            by_cases q : 4 * s + e' = e
            · exact new q
            · have old : e' < E s := by
                by_cases q2 : s = v
                · subst q2
                  simp only [if_true] at he'
                  omega
                · simp only [q2, if_false] at he'
                  exact he'
              refine EdJ_fr (D6 s hs e' old) (fun j => ?_) ?_ (fun a k q1 q2 q3 q4 => ?_)
              · rw [pu_n (by omega), F1 _ j (by omega) (by omega)]
              · exact F2 116 _ (by omega) (by omega) (by omega) (by omega)
              · exact F2 a k (by omega) (by omega) (by omega) (by omega)
    · rw [if_neg (fun z => hv3 z.2.1)]
      obtain ⟨db, b1, b2, b3⟩ := m_bad0 h1 (b := 2) (by omega) (by omega)
      have b1 : fn_X9_bad 2 d1 = some db := b1
      have b4 : db 110 34 = nI 3 := by rw [b2.2.2.2.2.2.1, k3]
      refine St_F (i' := i + 1) (k' := 2) (c' := pi_up (pi_up c 100 3 (nI (i + 1))) 100 4 (nI 2)) (d' := db) ?_ ?_ b2 (by omega) (Fc_tr Fc_3 Fc_4) (Fx_tr g1 b3)
      · rw [o2s, if_neg (by rw [pu_s]; decide), o1s, if_neg (by rw [pu_s]; decide)]
      · unfold fn_X9_readEdition
        have h34' : d1 110 34 = nI 3 := h34
        simp (disch := omega) only [hn, o1s, h34', l3, l4, ly, zp, nI_clamp, hv3, show 4 ≤ v by omega, b1, b4, m_mustF b2 (show (2 : Nat) ≠ 0 by omega), if_true, if_false, ↓reduceIte, Bool.false_eq_true, reduceCtorEq]
        rw [if_neg (show ¬ db 110 37 ≤ 0 by rw [b2.2.2.2.1.2.2.1]; decide), o1s, sgn_F b2 (by omega)]
  · have k3 : ¬ kd L B (Pp L B (i + 1)) = 3 := fun z => hv (ck.mpr z)
    have h34 : ¬ d1 110 34 = 3 := by rw [e34]; exact k3
    rw [if_neg hv]
    obtain ⟨d2, b1, b2, b3⟩ := m_must0 h1
    refine St_F (i' := i + 1) (k' := 1) (c' := pi_up (pi_up c 100 3 (nI (i + 1))) 100 4 (nI 1)) (d' := d2) ?_ ?_ b2 (by omega) (Fc_tr Fc_3 Fc_4) (Fx_tr g1 b3)
    · rw [o2s, if_neg (by rw [pu_s]; decide), o1s, if_neg (by rw [pu_s]; decide)]
    · unfold fn_X9_readEdition
      simp only [hn, o1s, h34, b1, if_true, if_false, ↓reduceIte, Bool.false_eq_true, reduceCtorEq]
      rw [if_neg (show ¬ d2 110 37 ≤ 0 by rw [b2.2.2.2.1.2.2.1]; decide), o1s, sgn_F b2 (by omega)]
