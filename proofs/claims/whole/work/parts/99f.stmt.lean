/-! PURE: tries and withins of a text -/
theorem nk {k : Nat} (h : k ≠ 0) (h3 : k ≤ 3) : ¬ nI k = 0 := nI_ne0 (by omega) (by omega)
theorem try_st {L : Nat} {B : Nat → Nat} {m i N : Nat} {E : Nat → Nat} {c d : pd_M} (h : Q L B m i 0 c d) (hD : Dr N E c d) (ht : cod L B (Pp L B i) = 104) : St L B m i N E c d (fn_X3_readTry c) (fn_X9_readOne d) := by
  obtain ⟨d1, h1, g1, e1⟩ := one_pre h ht (by omega) (fun z => absurd z (by omega))
  rw [e1, show oneM 104 d1 = tryM d1 from rfl]
  obtain ⟨x0, w0, i2, k2, c2, d2, -, b0, p0, q0, h2, f2, g2, j2, r0⟩ := num_st h1 0 3 (by omega) (by omega) 0 3 0 (fun _ => ⟨rfl, rfl, rfl⟩)
  obtain ⟨x1, w1, i3, k3, c3, d3, -, b1, p1, q1, h3, f3, g3, j3, r1⟩ := num_st h2 0 3 (by omega) (by omega) 0 3 0 (fun _ => ⟨rfl, rfl, rfl⟩)
  obtain ⟨x2, w2, i4, k4, c4, d4, -, b2, p2, q2, h4, f4, g4, j4, r2⟩ := num_st h3 0 15 (by omega) (by omega) 0 15 0 (fun _ => ⟨rfl, rfl, rfl⟩)
  have p0 : fn_X3_number 0 3 (pi_up c 100 3 (nI (i + 1))) = _ := p0
  have p1 : fn_X3_number 0 3 c2 = _ := p1
  have p2 : fn_X3_number 0 15 c3 = _ := p2
  have fc : Fc c c4 := Fc_tr Fc_3 (Fc_tr f2 (Fc_tr f3 f4))
  have fx : Fx 33 38 d d4 := Fx_tr g1 (Fx_tr g2 (Fx_tr g3 g4))
  have f33 : c3 103 (x0 * 4 + x1) = c 103 (x0 * 4 + x1) := Fc_tr Fc_3 (Fc_tr f2 f3) 103 _ (by omega)
  have k43 := h4.2.2.2.1.1
  have cE : ∀ y, fn_X3_take 101 (pi_up c4 103 (x0 * 4 + x1) (c 103 (x0 * 4 + x1) ||| nI x2)) = some y → fn_X3_readTry c = some y := by
    intro y hy
    unfold fn_X3_readTry
    simp (disch := omega) only [pn, h.2.2.1, nI_1, p0, o2s, p1, p2, l4, pk_mul, nI_add, zp, nI_clamp, f33, hy, o1s, if_true, if_false, ↓reduceIte, Bool.false_eq_true, reduceCtorEq]
  have h5 : Q L B m i4 k4 (pi_up c4 103 (x0 * 4 + x1) (c 103 (x0 * 4 + x1) ||| nI x2)) d4 := Q_upc h4 (by omega)
  by_cases hk : k4 = 0
  · subst hk
    obtain ⟨z3, rfl⟩ := r2 rfl
    obtain ⟨z2, rfl⟩ := r1 z3
    obtain ⟨-, rfl⟩ := r0 z2
    have e131 : d4 131 (4 * x0 + x1) = d 131 (4 * x0 + x1) := fx 131 _ (by omega)
    have h6 := Q_upd (a := 131) (j := 4 * x0 + x1) (v := d 131 (4 * x0 + x1) ||| nI x2) h5 (by omega)
    obtain ⟨i5, k5, c5, d6, t1, t2, h7, f6, g6, j6, hok2⟩ := sgn_st h6
    have dE : tryM d1 = some (pi_up d4 131 (4 * x0 + x1) (d 131 (4 * x0 + x1) ||| nI x2)) := by
      unfold tryM
      rw [q0, o2s, q1, o2s, q2, o2s, if_pos (show d4 110 37 = 0 from h4.2.2.2.1.2.2.1)]
      simp (disch := omega) only [l4, pk_mul, nI_add, zp, nI_clamp, e131, pn, o1s, if_true, if_false, ↓reduceIte, Bool.false_eq_true, reduceCtorEq]
    rw [dE, o1s, cE _ t1, t2]
    have F1 : ∀ a j, ¬ (a = 100 ∧ (j = 3 ∨ j = 4)) → ¬ (a = 103 ∧ j = x0 * 4 + x1) → c5 a j = c a j := fun a j q1 q2 => by
      rw [f6 a j q1, pu_n (by omega), fc a j q1]
    have F2 : ∀ a j, ¬ (a = 110 ∧ 33 ≤ j ∧ j ≤ 38) → ¬ (a = 131 ∧ j = 4 * x0 + x1) → d6 a j = d a j := fun a j q1 q2 => by
      rw [g6 a j q1, pu_n (by omega), fx a j q1]
    refine ⟨i5, k5, c5, d6, rfl, rfl, h7, fun a j q => F1 a j (fun z => q.1 z.1) (by have := q.2.1; omega), fun a j q => F2 a j (fun z => (q.1 z.1).2 z.2) (fun z => q.2.2.1 z.1), fun z => ?_⟩
    obtain ⟨D1, D2, D3, D4, D5, D6⟩ := hD
    have SE := SE_fr (c' := c5) (d' := d6) D1.1 (fun s hs => (D2 s hs).1) (fun a j q1 q2 => F1 a j (by omega) (by omega)) (fun a j q1 q2 => F2 a j (by omega) (by omega)) D5 D6
    refine ⟨by omega, N, E, by omega, fun s => by omega, ⟨D1.1, ?_, ?_⟩, fun s hs => ?_, fun k hk => ?_, fun s hs => ?_, SE.1, SE.2⟩
    · rw [F1 101 4 (by omega) (by omega)]; exact D1.2.1
    · rw [F2 110 13 (by omega) (by omega)]; exact D1.2.2
    · rw [F1 102 s (by omega) (by omega), F2 115 s (by omega) (by omega)]; exact D2 s hs
    · by_cases q : k = 4 * x0 + x1
      · subst q
        rw [f6 103 _ (by omega), g6 131 _ (by omega), pu_s, show 4 * x0 + x1 = x0 * 4 + x1 by omega, pu_s, ← D3 _ (by omega)]
      · rw [F1 103 k (by omega) (by omega), F2 131 k (by omega) (by omega)]; exact D3 k hk
    · rw [F1 104 s (by omega) (by omega), F1 105 s (by omega) (by omega), F2 134 s (by omega) (by omega), F2 135 s (by omega) (by omega)]; exact D4 s hs
  · obtain ⟨i5, k5, c5, d6, t1, t2, h7, f6, g6, j6, hok2⟩ := sgn_st h5
    have dE : tryM d1 = some d4 := by
      unfold tryM
      rw [q0, o2s, q1, o2s, q2, o2s, if_neg (show ¬ d4 110 37 = 0 by rw [h4.2.2.2.1.2.2.1]; exact nk hk k43), o1s]
    rw [dE, o1s, cE _ t1, t2]
    refine ⟨i5, k5, c5, d6, rfl, rfl, h7, fun a j q => ?_, FD_Fx (Fx_tr fx g6), fun z => absurd (hok2 z) hk⟩
    rw [f6 a j (fun z => q.1 z.1), pu_n (by have := q.2.1; omega), fc a j (fun z => q.1 z.1)]
/-- SERVICES that a promise of hours rests on -/
theorem isNum_st {L : Nat} {B : Nat → Nat} {m i k : Nat} {c d : pd_M} (h : Q L B m i k c d) : fn_X3_isNumber c = some (if kd L B (Pp L B i) = 3 then 1 else 0) ∧ (d 110 34 = 3) = (kd L B (Pp L B i) = 3) := by
  obtain ⟨k1, k2, -⟩ := c_tok h
  have cl := (cod_lt L B (Pp L B i)).1
  have ck := (cod_lt L B (Pp L B i)).2.1
  have kl : kd L B (Pp L B i) < 5 := by
    unfold kd
    repeat' split
    all_goals omega
  refine ⟨?_, ?_⟩
  · unfold fn_X3_isNumber
    rw [if_pos k1, k2]
    simp (disch := omega) only [l99, lt_]
    by_cases z : kd L B (Pp L B i) = 3
    · rw [if_neg (by omega), if_pos z]
    · rw [if_pos (by omega), if_neg z]
  · rw [h.2.2.2.2.2.1, l3, lq (by omega) (by omega)]
theorem pc_or : ∀ T, T < 16 → ∀ f, f < 4 → T.testBit f = false → pc (T ||| 2 ^ f) = pc T + 1 ∧ T ||| 2 ^ f < 16 := by decide +kernel
theorem pc_4 : ∀ T, T < 16 → pc T = 4 → ∀ f, f < 4 → T.testBit f = true := by decide +kernel
theorem pc_16 : ∀ T, T < 16 → pc T ≤ 4 := by decide +kernel
theorem or_16 : ∀ T, T < 16 → ∀ f, f < 4 → T ||| 2 ^ f < 16 := by decide +kernel
theorem within_lp {L : Nat} {B : Nat → Nat} {m s : Nat} (hs : s < 4) (z1 z2 z3 : Int32) : ∀ (u t n n' i T S : Nat) (c d : pd_M), t + u = 4 → u < n → u < n' → Q L B m i 0 c d → T < 16 → pc T = t + 1 → S < 16 → T = S ||| 2 ^ s → S.testBit s = false →
    ∃ T' w i' k' c' d', T' < 16 ∧ lp_X3_readWithin_39 n z1 (nI T) (nI t) c = some (nI T', c') ∧ lp_X9_readWithin_19 n' (nI s) z2 (nI S) d = some (w, d') ∧ Q L B m i' k' c' d' ∧ Fc c c' ∧ Fx 33 38 d d' ∧ i ≤ i' ∧ (k' = 0 → ∃ S', S' < 16 ∧ w = nI S' ∧ T' = S' ||| 2 ^ s ∧ S'.testBit s = false) := by
  intro u
  induction u with
  | zero =>
    intro t n n' i T S c d h1 h2 h3 h hT hp
    have := pc_16 T hT
    omega
  | succ u ih =>
    intro t n n' i T S c d h1 h2 h3 h hT hp hS hTS hSs
    obtain ⟨n, rfl⟩ : ∃ k, n = k + 1 := ⟨n - 1, by omega⟩
    obtain ⟨n', rfl⟩ : ∃ k, n' = k + 1 := ⟨n' - 1, by omega⟩
    obtain ⟨y1, y2⟩ := isNum_st h
    have bar : nI S ||| ((1 : Int32) <<< (nI s &&& 31)) = nI T := by rw [q_1shl (by omega), fa_or, hTS]
    unfold lp_X3_readWithin_39 lp_X9_readWithin_19
    rw [if_neg (show ¬ (4 : Int32) ≤ nI t from nI_ge (a := t) (b := 4) (by omega) (by decide)), if_pos (show c 100 4 = 0 from h.2.2.2.1.2.1), y1, o1s, if_pos (show d 110 37 = 0 from h.2.2.2.1.2.2.1), bar]
    simp only [y2]
    by_cases z : kd L B (Pp L B i) = 3
    · rw [if_pos z, if_neg (by decide), if_pos z]
      obtain ⟨x, w, i1, k1, c1, d1, b0, p0, q0, hh1, f1, g1, j1, r0⟩ := fresh_st h 3 T (by omega) hT 0 3 (nI T) (fun _ => ⟨rfl, rfl, rfl⟩)
      have p0 : fn_X3_fresh 3 (nI T) c = _ := p0
      have k13 := hh1.2.2.2.1.1
      rw [p0, q0]
      simp (disch := omega) only [o2s, q_1shl, fa_or, pn, nI_1]
      by_cases hk : k1 = 0
      · subst hk
        obtain ⟨-, rfl, hb⟩ := r0 rfl
        rw [if_pos (show d1 110 37 = 0 from hh1.2.2.2.1.2.2.1), q_1shl (by omega)]
        simp only [o1s, fa_or]
        obtain ⟨pt, pl⟩ := pc_or T hT x (by omega) hb
        have e2 : T ||| 2 ^ x = (S ||| 2 ^ x) ||| 2 ^ s := by
          rw [hTS, Nat.or_assoc, Nat.or_comm (2 ^ s), ← Nat.or_assoc]
        have hxs : x ≠ s := by
          intro q
          subst q
          rw [hTS, Nat.testBit_or, Nat.testBit_two_pow] at hb
          simp at hb
        obtain ⟨T', w', i2, k2, c2, d2, a0, a1, a2, a3, a4, a5, a6, a7⟩ := ih (t + 1) n n' i1 (T ||| 2 ^ x) (S ||| 2 ^ x) c1 d1 (by omega) (by omega) (by omega) hh1 pl (by omega) (or_16 S hS x (by omega)) e2 (by
          rw [Nat.testBit_or, Nat.testBit_two_pow, hSs]
          simp [hxs])
        exact ⟨T', w', i2, k2, c2, d2, a0, a1, a2, a3, Fc_tr f1 a4, Fx_tr g1 a5, by omega, a7⟩
      · rw [if_neg (show ¬ d1 110 37 = 0 by rw [hh1.2.2.2.1.2.2.1]; exact nk hk k13)]
        obtain ⟨n, rfl⟩ : ∃ k, n = k + 1 := ⟨n - 1, by omega⟩
        obtain ⟨n', rfl⟩ : ∃ k, n' = k + 1 := ⟨n' - 1, by omega⟩
        refine ⟨T ||| 2 ^ x, nI S ||| 0, i1, k1, c1, d1, or_16 T hT x (by omega), ?_, ?_, hh1, f1, g1, by omega, fun z => absurd z hk⟩
        · unfold lp_X3_readWithin_39
          rw [if_neg (show ¬ c1 100 4 = 0 by rw [hh1.2.2.2.1.2.1]; exact nk hk k13)]
          split <;> rfl
        · rw [o1s]
          unfold lp_X9_readWithin_19
          rw [if_neg (show ¬ d1 110 37 = 0 by rw [hh1.2.2.2.1.2.2.1]; exact nk hk k13)]
    · rw [if_neg z, if_pos rfl, if_neg z]
      exact ⟨T, nI S, i, 0, c, d, hT, rfl, rfl, h, Fc_rf, Fx_rf, by omega, fun _ => ⟨S, hS, rfl, hTS, hSs⟩⟩
theorem wi_nd : ∀ S, S < 16 → ∀ s, s < 4 → S.testBit s = false → nd (S ||| 2 ^ s) (2 ^ s) = S := by decide +kernel
theorem pc_1 : ∀ s, s < 4 → pc (2 ^ s) = 1 ∧ 2 ^ s < 16 := by decide +kernel
theorem wi_F {L : Nat} {B : Nat → Nat} {m i k : Nat} {c d : pd_M} (h : Q L B m i k c d) (hk : k ≠ 0) (z1 z2 z3 : Int32) : lp_X3_readWithin_39 5000 z1 z2 0 c = some (z2, c) ∧ lp_X9_readWithin_19 5000 z1 z2 z3 d = some (z3, d) := by
  have k3 := h.2.2.2.1.1
  constructor
  · unfold lp_X3_readWithin_39
    rw [if_neg (by decide), if_neg (show ¬ c 100 4 = 0 by rw [h.2.2.2.1.2.1]; exact nk hk k3)]
  · unfold lp_X9_readWithin_19
    rw [if_neg (show ¬ d 110 37 = 0 by rw [h.2.2.2.1.2.2.1]; exact nk hk k3)]
theorem within_st {L : Nat} {B : Nat → Nat} {m i N : Nat} {E : Nat → Nat} {c d : pd_M} (h : Q L B m i 0 c d) (hD : Dr N E c d) (ht : cod L B (Pp L B i) = 105) : St L B m i N E c d (fn_X3_readWithin c) (fn_X9_readOne d) := by
  obtain ⟨d1, h1, g1, e1⟩ := one_pre h ht (by omega) (fun z => absurd z (by omega))
  rw [e1, show oneM 105 d1 = fn_X9_readWithin d1 from rfl]
  obtain ⟨s, w0, i2, k2, c2, d2, -, b0, p0, q0, h2, f2, g2, j2, r0⟩ := num_st h1 0 3 (by omega) (by omega) 0 3 0 (fun _ => ⟨rfl, rfl, rfl⟩)
  obtain ⟨x1, w1, i3, k3, c3, d3, -, b1, p1, q1, h3, f3, g3, j3, r1⟩ := num_st h2 0 99 (by omega) (by omega) 0 99 0 (fun _ => ⟨rfl, rfl, rfl⟩)
  have p0 : fn_X3_number 0 3 (pi_up c 100 3 (nI (i + 1))) = _ := p0
  have p1 : fn_X3_number 0 99 c2 = _ := p1
  have fc : Fc c c3 := Fc_tr Fc_3 (Fc_tr f2 f3)
  have fx : Fx 33 38 d d3 := Fx_tr g1 (Fx_tr g2 g3)
  have h4 : Q L B m i3 k3 (pi_up c3 104 s (nI x1)) d3 := Q_upc h3 (by omega)
  have hp1 := pc_1 s (by omega)
  have nd31 : ∀ T, T < 16 → nI T &&& (((1 : Int32) <<< (nI s &&& 31)) ^^^ (-1)) = nI (nd T (2 ^ s)) := fun T hT => by
    rw [q_1shl (by omega), q_nd (by omega)]
  -- the class behind its loop
  have cE : ∀ T c4 y, T < 16 → lp_X3_readWithin_39 5000 (nI s) (nI (2 ^ s)) 0 (pi_up c3 104 s (nI x1)) = some (nI T, c4) → fn_X3_take 101 (pi_up c4 105 s (nI (nd T (2 ^ s)))) = some y → fn_X3_readWithin c = some y := by
    intro T c4 y hT e1 e2
    unfold fn_X3_readWithin
    simp (disch := omega) only [pn, h.2.2.1, nI_1, p0, o2s, p1, zp, nI_clamp, if_true, if_false, ↓reduceIte, Bool.false_eq_true, reduceCtorEq]
    have nq : nI T &&& (nI (2 ^ s) ^^^ (-1)) = nI (nd T (2 ^ s)) := q_nd (by omega)
    simp (disch := omega) only [q_1shl, e1, o2s, nq, e2, o1s]
  by_cases hk : k3 = 0
  · subst hk
    obtain ⟨z2, rfl⟩ := r1 rfl
    obtain ⟨-, rfl⟩ := r0 z2
    obtain ⟨T', w, i4, k4, c4, d4, a0, a1, a2, h5, f4, g4, j4, hok⟩ := within_lp (s := s) (by omega) (nI s) (nI x1) 0 4 0 5000 5000 i3 (2 ^ s) 0 _ _ (by omega) (by omega) (by omega) h4 hp1.2 (by omega) (by omega) (Nat.zero_or _).symm (Nat.zero_testBit _)
    have a1 : lp_X3_readWithin_39 5000 (nI s) (nI (2 ^ s)) 0 (pi_up c3 104 s (nI x1)) = _ := a1
    have a2 : lp_X9_readWithin_19 5000 (nI s) (nI x1) 0 d3 = _ := a2
    have k43 := h5.2.2.2.1.1
    have h6 := Q_upc (a := 105) (j := s) (v := nI (nd T' (2 ^ s))) h5 (by omega)
    by_cases hk4 : k4 = 0
    · subst hk4
      obtain ⟨S', s1, rfl, s3, s4⟩ := hok rfl
      have h7 := Q_upd (a := 135) (j := s) (v := nI S') (Q_upd (a := 134) (j := s) (v := nI x1) h6 (by omega)) (by omega)
      obtain ⟨i5, k5, c5, d6, t1, t2, h8, f6, g6, j6, hok2⟩ := sgn_st h7
      have dE : fn_X9_readWithin d1 = some (pi_up (pi_up d4 134 s (nI x1)) 135 s (nI S')) := by
        unfold fn_X9_readWithin
        rw [q0, o2s, q1, o2s, a2, o2s, if_pos (show d4 110 37 = 0 from h5.2.2.2.1.2.2.1)]
        simp (disch := omega) only [zp, nI_clamp, pn, if_true, if_false, ↓reduceIte, Bool.false_eq_true, reduceCtorEq]
      rw [dE, o1s, cE _ _ _ a0 a1 t1, t2]
      have F1 : ∀ a j, ¬ (a = 100 ∧ (j = 3 ∨ j = 4)) → ¬ (a = 104 ∧ j = s) → ¬ (a = 105 ∧ j = s) → c5 a j = c a j := fun a j q1 q2 q3 => by
        rw [f6 a j q1, pu_n (by omega), f4 a j q1, pu_n (by omega), fc a j q1]
      have F2 : ∀ a j, ¬ (a = 110 ∧ 33 ≤ j ∧ j ≤ 38) → ¬ (a = 134 ∧ j = s) → ¬ (a = 135 ∧ j = s) → d6 a j = d a j := fun a j q1 q2 q3 => by
        rw [g6 a j q1, pu_n (by omega), pu_n (by omega), g4 a j q1, fx a j q1]
      refine ⟨i5, k5, c5, d6, rfl, rfl, h8, fun a j q => F1 a j (fun z => q.1 z.1) (by have := q.2.1; omega) (by have := q.2.1; omega), fun a j q => F2 a j (fun z => (q.1 z.1).2 z.2) (fun z => q.2.2.2.1 z.1) (fun z => q.2.2.2.2.1 z.1), fun z => ?_⟩
      obtain ⟨D1, D2, D3, D4, D5, D6⟩ := hD
      have SE := SE_fr (c' := c5) (d' := d6) D1.1 (fun s hs => (D2 s hs).1) (fun a j q1 q2 => F1 a j (by omega) (by omega) (by omega)) (fun a j q1 q2 => F2 a j (by omega) (by omega) (by omega)) D5 D6
      refine ⟨by omega, N, E, by omega, fun s => by omega, ⟨D1.1, ?_, ?_⟩, fun s hs => ?_, fun k hk => ?_, fun s' hs => ?_, SE.1, SE.2⟩
      · rw [F1 101 4 (by omega) (by omega) (by omega)]; exact D1.2.1
      · rw [F2 110 13 (by omega) (by omega) (by omega)]; exact D1.2.2
      · rw [F1 102 s (by omega) (by omega) (by omega), F2 115 s (by omega) (by omega) (by omega)]; exact D2 s hs
      · rw [F1 103 k (by omega) (by omega) (by omega), F2 131 k (by omega) (by omega) (by omega)]; exact D3 k hk
      · by_cases q : s' = s
        · subst q
          have e1 : c5 104 s' = nI x1 := by rw [f6 104 s' (by omega), pu_n (by omega), f4 104 s' (by omega), pu_s]
          have e2 : c5 105 s' = nI S' := by rw [f6 105 s' (by omega), pu_s, s3, wi_nd S' s1 s' (by omega) s4]
          have e3 : d6 134 s' = nI x1 := by rw [g6 134 s' (by omega), pu_n (by omega), pu_s]
          have e4 : d6 135 s' = nI S' := by rw [g6 135 s' (by omega), pu_s]
          rw [e1, e2, e3, e4]
          exact ⟨rfl, Or.inr ⟨x1, by omega, rfl⟩, rfl, S', s1, rfl⟩
        · rw [F1 104 s' (by omega) (by omega) (by omega), F1 105 s' (by omega) (by omega) (by omega), F2 134 s' (by omega) (by omega) (by omega), F2 135 s' (by omega) (by omega) (by omega)]; exact D4 s' hs
    · obtain ⟨i5, k5, c5, d6, t1, t2, h8, f6, g6, j6, hok2⟩ := sgn_st h6
      have dE : fn_X9_readWithin d1 = some d4 := by
        unfold fn_X9_readWithin
        rw [q0, o2s, q1, o2s, a2, o2s, if_neg (show ¬ d4 110 37 = 0 by rw [h5.2.2.2.1.2.2.1]; exact nk hk4 k43)]
      rw [dE, o1s, cE _ _ _ a0 a1 t1, t2]
      refine ⟨i5, k5, c5, d6, rfl, rfl, h8, fun a j q => ?_, FD_Fx (Fx_tr fx (Fx_tr g4 g6)), fun z => absurd (hok2 z) hk4⟩
      have hx := q.2.1
      rw [f6 a j (fun z => q.1 z.1), pu_n (by omega), f4 a j (fun z => q.1 z.1), pu_n (by omega), fc a j (fun z => q.1 z.1)]
  · have k33 := h3.2.2.2.1.1
    have a1 := (wi_F h4 hk (nI s) (nI (2 ^ s)) 0).1
    have a2 := (wi_F h4 hk w0 w1 0).2
    have h6 := Q_upc (a := 105) (j := s) (v := nI (nd (2 ^ s) (2 ^ s))) h4 (by omega)
    obtain ⟨i5, k5, c5, d6, t1, t2, h8, f6, g6, j6, hok2⟩ := sgn_st h6
    have dE : fn_X9_readWithin d1 = some d3 := by
      unfold fn_X9_readWithin
      rw [q0, o2s, q1, o2s, a2, o2s, if_neg (show ¬ d3 110 37 = 0 by rw [h3.2.2.2.1.2.2.1]; exact nk hk k33)]
    rw [dE, o1s, cE _ _ _ hp1.2 a1 t1, t2]
    refine ⟨i5, k5, c5, d6, rfl, rfl, h8, fun a j q => ?_, FD_Fx (Fx_tr fx g6), fun z => absurd (hok2 z) hk⟩
    have hx := q.2.1
    rw [f6 a j (fun z => q.1 z.1), pu_n (by omega), pu_n (by omega), fc a j (fun z => q.1 z.1)]
