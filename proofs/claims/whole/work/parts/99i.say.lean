/-! PURE: a whole SAYING -/
theorem say_full {L : Nat} {B : Nat → Nat} {m i N : Nat} {E : Nat → Nat} {c d : pd_M} (h : Q L B m i 0 c d) (hD : Dr N E c d) (ht : cod L B (Pp L B i) = 103) (hN : N = 20) : St L B m i N E c d (fn_X3_readSaying c) (fn_X9_readOne d) := by
  subst hN
  obtain ⟨db, b1, b2, b3⟩ := m_bad0 h (b := 3) (by omega) (by omega)
  have b1 : fn_X9_bad 3 d = some db := b1
  obtain ⟨-, -, -, w3, w2, w4, w5⟩ := m_cmp h.1.2 (Pp_le L B i)
  rw [ht] at w2 w3 w4 w5
  have hw := m_word h.1.2 h.2.2.2.2 (Pp_le L B i)
  refine St_F (i' := i) (k' := 3) (c' := pi_up c 100 4 (nI 3)) (d' := db) ?_ ?_ b2 (by omega) Fc_4 b3
  · unfold fn_X3_readSaying
    rw [if_neg (show ¬ c 101 4 < 20 by rw [hD.1.2.1]; decide)]
    rfl
  · unfold fn_X9_readOne
    rw [hw]
    simp only [o1s, w2, w3, w4, w5, Nat.reduceEqDiff, if_true, if_false]
    rw [if_pos (show d 110 13 = 20 from hD.1.2.2), b1]
    simp only [o1s]
    rw [m_mustF b2 (by omega), o1s, if_neg (show ¬ db 110 37 ≤ 0 by rw [b2.2.2.2.1.2.2.1]; decide)]
set_option maxHeartbeats 1000000 in
theorem say_st {L : Nat} {B : Nat → Nat} {m i N : Nat} {E : Nat → Nat} {c d : pd_M} (h : Q L B m i 0 c d) (hD : Dr N E c d) (ht : cod L B (Pp L B i) = 103) : St L B m i N E c d (fn_X3_readSaying c) (fn_X9_readOne d) := by
  by_cases h20 : N = 20
  · exact say_full h hD ht h20
  have hN : N < 20 := by have := hD.1.1; omega
  obtain ⟨d1, h1, g1, e1⟩ := one_pre h ht (by omega) (fun _ => by rw [hD.1.2.2, l20, lq (by omega) (by omega)]; exact h20)
  rw [e1, show oneM 103 d1 = fn_X9_readSaying d1 from rfl]
  have n13 : d1 110 13 = nI N := by rw [g1 110 13 (by omega)]; exact hD.1.2.2
  have n4 : (pi_up c 100 3 (nI (i + 1))) 101 4 = nI N := by rw [pu_n (by omega)]; exact hD.1.2.1
  obtain ⟨x0, w0, i2, k2, c2, d2, -, b0, p0, q0, h2, f2, g2, j2, r0⟩ := num_st h1 0 3 (by omega) (by omega) 0 3 0 (fun _ => ⟨rfl, rfl, rfl⟩)
  have h2 : Q L B m i2 k2 (pi_up c2 (48 + N) 0 (nI x0)) (pi_up d2 121 N w0) := Q_upd (Q_upc h2 (by omega)) (by omega)
  obtain ⟨x1, w1, i3, k3, c3, d3, -, b1, p1, q1, h3, f3, g3, j3, r1⟩ := num_st h2 0 3 (by omega) (by omega) 0 3 0 (fun _ => ⟨rfl, rfl, rfl⟩)
  have h3 : Q L B m i3 k3 (pi_up c3 (48 + N) 1 (nI x1)) (pi_up d3 122 N w1) := Q_upd (Q_upc h3 (by omega)) (by omega)
  have ec0 : (pi_up c3 (48 + N) 1 (nI x1)) (48 + N) 0 = nI x0 := by rw [pu_n (by omega), f3 _ 0 (by omega), pu_s]
  have ed0 : (pi_up d3 122 N w1) 121 N = w0 := by rw [pu_n (by omega), g3 121 N (by omega), pu_s]
  have hp1 := pc_1 x0 (by omega)
  obtain ⟨x2, w2, i4, k4, c4, d4, b2, p2, q2, h4, f4, g4, j4, r2⟩ := fresh_st h3 3 (2 ^ x0) (by omega) hp1.2 0 3 ((1 : Int32) <<< (w0 &&& 31)) (fun z => ⟨rfl, rfl, by rw [(r0 (r1 z).1).2, q_1shl (by omega)]⟩)
  have h4 : Q L B m i4 k4 (pi_up c4 (48 + N) 2 (nI x2)) (pi_up d4 123 N w2) := Q_upd (Q_upc h4 (by omega)) (by omega)
  obtain ⟨x3, w3, i5, k5, c5, d5, -, b3, p3, q3, h5, f5, g5, j5, r3⟩ := num_st h4 0 7 (by omega) (by omega) 0 7 0 (fun _ => ⟨rfl, rfl, rfl⟩)
  have h5 : Q L B m i5 k5 (pi_up c5 (48 + N) 3 (nI x3)) (pi_up d5 124 N w3) := Q_upd (Q_upc h5 (by omega)) (by omega)
  have ec3 : (pi_up c5 (48 + N) 3 (nI x3)) (48 + N) 3 = nI x3 := pu_s
  have ed3 : (pi_up d5 124 N w3) 124 N = w3 := pu_s
  obtain ⟨x4, w4, i6, k6, c6, d6, l4', b4, p4, q4, h6, f6, g6, j6, r4⟩ := num_st h5 x3 7 (by omega) (by omega) w3 7 0 (fun z => ⟨(r3 z).2, rfl, rfl⟩)
  have h6 : Q L B m i6 k6 (pi_up c6 (48 + N) 4 (nI x4)) (pi_up d6 125 N w4) := Q_upd (Q_upc h6 (by omega)) (by omega)
  obtain ⟨x5, w5, i7, k7, c7, d7, -, b5, p5, q5, h7, f7, g7, j7, r5⟩ := num_st h6 0 3 (by omega) (by omega) 0 3 0 (fun _ => ⟨rfl, rfl, rfl⟩)
  have h7 : Q L B m i7 k7 (pi_up (pi_up c7 (48 + N) 5 (nI x5)) (48 + N) 7 (nI (abN x3 x4 x5))) (pi_up d7 126 N w5) := Q_upd (Q_upc (Q_upc h7 (by omega)) (by omega)) (by omega)
  obtain ⟨i8, k8, c8, d8, a1, a2, h8, f8, g8, j8, r6⟩ := then_st h7 hN
  have n138 : d8 110 13 = nI N := by
    rw [g8 110 13 (by omega) (by omega) (by omega) (by omega), pu_n (by omega), g7 110 13 (by omega), pu_n (by omega), g6 110 13 (by omega), pu_n (by omega), g5 110 13 (by omega), pu_n (by omega), g4 110 13 (by omega), pu_n (by omega), g3 110 13 (by omega), pu_n (by omega), g2 110 13 (by omega)]
    exact n13
  have h9 : Q L B m i8 k8 c8 (pi_up d8 110 13 (nI (N + 1))) := Q_upd h8 (by omega)
  obtain ⟨i9, k9, c9, d9, t1, t2, h10, f9, g9, j9, hok2⟩ := sgn_st h9
  have p0 : fn_X3_number 0 3 (pi_up c 100 3 (nI (i + 1))) = _ := p0
  have p1 : fn_X3_number 0 3 (pi_up c2 (48 + N) 0 (nI x0)) = _ := p1
  have p2 : fn_X3_fresh 3 (nI (2 ^ x0)) (pi_up c3 (48 + N) 1 (nI x1)) = _ := p2
  have p3 : fn_X3_number 0 7 (pi_up c4 (48 + N) 2 (nI x2)) = _ := p3
  have p4 : fn_X3_number (nI x3) 7 (pi_up c5 (48 + N) 3 (nI x3)) = _ := p4
  have p5 : fn_X3_number 0 3 (pi_up c6 (48 + N) 4 (nI x4)) = _ := p5
  -- the class's row
  have R : ∀ j, c7 (48 + N) j = if j = 0 then nI x0 else if j = 1 then nI x1 else if j = 2 then nI x2 else if j = 3 then nI x3 else if j = 4 then nI x4 else c (48 + N) j := by
    intro j
    rw [f7 _ j (by omega)]
    by_cases z4 : j = 4
    · subst z4; rw [pu_s]; rfl
    rw [pu_n (by omega), f6 _ j (by omega)]
    by_cases z3 : j = 3
    · subst z3; rw [pu_s]; rfl
    rw [pu_n (by omega), f5 _ j (by omega)]
    by_cases z2 : j = 2
    · subst z2; rw [pu_s]; rfl
    rw [pu_n (by omega), f4 _ j (by omega)]
    by_cases z1 : j = 1
    · subst z1; rw [pu_s]; rfl
    rw [pu_n (by omega), f3 _ j (by omega)]
    by_cases z0 : j = 0
    · subst z0; rw [pu_s]; rfl
    rw [pu_n (by omega), f2 _ j (by omega), pu_n (by omega), if_neg z0, if_neg z1, if_neg z2, if_neg z3, if_neg z4]
  have e73 : (pi_up c7 (48 + N) 5 (nI x5)) (48 + N) 3 = nI x3 := by rw [pu_n (by omega), R]; rfl
  have e74 : (pi_up c7 (48 + N) 5 (nI x5)) (48 + N) 4 = nI x4 := by rw [pu_n (by omega), R]; rfl
  have e75 : (pi_up c7 (48 + N) 5 (nI x5)) (48 + N) 5 = nI x5 := pu_s
  have FA : ∀ a j, ¬ (a = 100 ∧ (j = 3 ∨ j = 4)) → a ≠ 48 + N → c9 a j = c a j := fun a j q1 q2 => by
    rw [f9 a j q1, f8 a j q1 (by omega), pu_n (by omega), pu_n (by omega), f7 a j q1, pu_n (by omega), f6 a j q1, pu_n (by omega), f5 a j q1, pu_n (by omega), f4 a j q1, pu_n (by omega), f3 a j q1, pu_n (by omega), f2 a j q1, pu_n (by omega)]
  have FB : ∀ a j, ¬ (a = 110 ∧ 33 ≤ j ∧ j ≤ 38) → ¬ (a = 110 ∧ j = 13) → ¬ (121 ≤ a ∧ a ≤ 128 ∧ j = N) → ¬ (a = 129 ∧ 4 * N ≤ j ∧ j < 4 * N + 4) → d9 a j = d a j := fun a j q1 q2 q3 q4 => by
    rw [g9 a j q1, pu_n (by omega), g8 a j q1 (by omega) (by omega) q4, pu_n (by omega), g7 a j q1, pu_n (by omega), g6 a j q1, pu_n (by omega), g5 a j q1, pu_n (by omega), g4 a j q1, pu_n (by omega), g3 a j q1, pu_n (by omega), g2 a j q1, g1 a j q1]
  have n49 : c9 101 4 = nI N := by rw [FA 101 4 (by omega) (by omega)]; exact hD.1.2.1
  have cE : fn_X3_readSaying c = some (pi_up c9 101 4 (nI (N + 1))) := by
    unfold fn_X3_readSaying
    rw [if_pos (show c 101 4 < 20 by rw [hD.1.2.1]; exact nI_lt (b := 20) hN (by decide))]
    simp only [pn, h.2.2.1, nI_1, n4]
    rw [if_pos (zp hN (by omega)), nI_clamp (by omega), p0, o2s, p1, o2s, ec0, q_1shl (by omega), p2, o2s, p3, o2s, ec3, p4, o2s, p5, o2s, e73, e74, e75, c_casesOf l4' (by omega) (by omega), o1s, a1, o1s, t1, o1s, n49, nI_1]
  have dE : fn_X9_readSaying d1 = some (pi_up d8 110 13 (nI (N + 1))) := by
    unfold fn_X9_readSaying
    rw [n13]
    simp (disch := omega) only [pn, zp, nI_clamp, if_true, if_false, ↓reduceIte, Bool.false_eq_true, reduceCtorEq]
    rw [q0, o2s, q1, o2s, ed0, q2, o2s, q3, o2s, ed3, q4, o2s, q5, o2s, a2, n138, nI_1]
  rw [dE, o1s, cE, t2]
  refine ⟨i9, k9, pi_up c9 101 4 (nI (N + 1)), d9, rfl, rfl, Q_upc h10 (by omega), fun a j q => ?_, fun a j q => ?_, fun z => ?_⟩
  · have q2 := q.2.1
    have q3 := q.2.2.1
    rw [pu_n (by omega), FA a j (fun z => q.1 z.1) (by omega)]
  · have q6 := q.2.2.2.2.2.1
    have q7 := q.2.2.2.2.2.2.1
    exact FB a j (fun z => (q.1 z.1).2 z.2) (fun z => (q.1 z.1).1 z.2) (fun z => by have := q6 ⟨z.1, z.2.1⟩; omega) (fun z => by have := q7 z.1; omega)
  · have z8 := hok2 z
    obtain ⟨z7, ref, T, V, u1, u2, u3, u4, u5, u6, u7⟩ := r6 z8
    obtain ⟨z6, y5⟩ := r5 z7
    obtain ⟨z5, y4⟩ := r4 z6
    obtain ⟨z4, y3⟩ := r3 z5
    obtain ⟨z3, y2, -⟩ := r2 z4
    obtain ⟨z2, y1⟩ := r1 z3
    obtain ⟨-, y0⟩ := r0 z2
    obtain ⟨D1, D2, D3, D4, D5, D6⟩ := hD
    -- the reference's row
    have dn : ∀ a, 121 ≤ a → a ≤ 126 → d9 a N = d7 a N ∨ (a = 126 ∧ d9 a N = w5) := fun a q1 q2 => by
      by_cases q : a = 126
      · subst q
        exact Or.inr ⟨rfl, by rw [g9 126 N (by omega), pu_n (by omega), g8 126 N (by omega) (by omega) (by omega) (by omega), pu_s]⟩
      · exact Or.inl (by rw [g9 a N (by omega), pu_n (by omega), g8 a N (by omega) (by omega) (by omega) (by omega), pu_n (by omega)])
    have m6 : d9 126 N = nI x5 := by
      rw [g9 126 N (by omega), pu_n (by omega), g8 126 N (by omega) (by omega) (by omega) (by omega), pu_s, y5]
    have m5 : d9 125 N = nI x4 := by
      rw [g9 125 N (by omega), pu_n (by omega), g8 125 N (by omega) (by omega) (by omega) (by omega), pu_n (by omega), g7 125 N (by omega), pu_s, y4]
    have m4 : d9 124 N = nI x3 := by
      rw [g9 124 N (by omega), pu_n (by omega), g8 124 N (by omega) (by omega) (by omega) (by omega), pu_n (by omega), g7 124 N (by omega), pu_n (by omega), g6 124 N (by omega), pu_s, y3]
    have m3 : d9 123 N = nI x2 := by
      rw [g9 123 N (by omega), pu_n (by omega), g8 123 N (by omega) (by omega) (by omega) (by omega), pu_n (by omega), g7 123 N (by omega), pu_n (by omega), g6 123 N (by omega), pu_n (by omega), g5 123 N (by omega), pu_s, y2]
    have m2 : d9 122 N = nI x1 := by
      rw [g9 122 N (by omega), pu_n (by omega), g8 122 N (by omega) (by omega) (by omega) (by omega), pu_n (by omega), g7 122 N (by omega), pu_n (by omega), g6 122 N (by omega), pu_n (by omega), g5 122 N (by omega), pu_n (by omega), g4 122 N (by omega), pu_s, y1]
    have m1 : d9 121 N = nI x0 := by
      rw [g9 121 N (by omega), pu_n (by omega), g8 121 N (by omega) (by omega) (by omega) (by omega), pu_n (by omega), g7 121 N (by omega), pu_n (by omega), g6 121 N (by omega), pu_n (by omega), g5 121 N (by omega), pu_n (by omega), g4 121 N (by omega), pu_n (by omega), g3 121 N (by omega), pu_s, y0]
    have m7 : d9 127 N = nI ref := by rw [g9 127 N (by omega), pu_n (by omega)]; exact u2
    have m8 : d9 128 N = nI T := by rw [g9 128 N (by omega), pu_n (by omega)]; exact u4
    have m9 : ∀ j, j < 4 → d9 129 (4 * N + j) = nI (V j) := fun j hj => by rw [g9 129 _ (by omega), pu_n (by omega)]; exact (u6 j hj).1
    have v1 := vw_of m1 (by omega) (by omega)
    have v2 := vw_of m2 (by omega) (by omega)
    have v3 := vw_of m3 (by omega) (by omega)
    have v4 := vw_of m4 (by omega) (by omega)
    have v5 := vw_of m5 (by omega) (by omega)
    have v6 := vw_of m6 (by omega) (by omega)
    have v7 := vw_of m7 (by omega) (by omega)
    have v8 := vw_of m8 (by omega) (by omega)
    have v9 : ∀ j, j < 4 → vw d9 129 (4 * N + j) = V j := fun j hj => vw_of (m9 j hj) (by have := (u6 j hj).2.2; omega) (by omega)
    have v90 := v9 0 (by omega)
    rw [Nat.add_zero] at v90
    have CR : ∀ j, (pi_up c9 101 4 (nI (N + 1))) (48 + N) j = c8 (48 + N) j := fun j => by rw [pu_n (by omega), f9 _ j (by omega)]
    have C8 : ∀ j, j ≠ 6 → j ≠ 8 → c8 (48 + N) j = (pi_up (pi_up c7 (48 + N) 5 (nI x5)) (48 + N) 7 (nI (abN x3 x4 x5))) (48 + N) j := fun j q1 q2 => f8 _ j (by omega) (by omega)
    refine ⟨by omega, N + 1, E, by omega, fun s => by omega, ⟨by omega, pu_s, ?_⟩, fun s hs => ?_, fun k hk => ?_, fun s hs => ?_, fun i' hi' => ?_, fun s hs e he => ?_⟩
    · rw [g9 110 13 (by omega), pu_s]
    · rw [pu_n (by omega), FA 102 s (by omega) (by omega), FB 115 s (by omega) (by omega) (by omega) (by omega)]; exact D2 s hs
    · rw [pu_n (by omega), FA 103 k (by omega) (by omega), FB 131 k (by omega) (by omega) (by omega) (by omega)]; exact D3 k hk
    · rw [pu_n (by omega), pu_n (by omega), FA 104 s (by omega) (by omega), FA 105 s (by omega) (by omega), FB 134 s (by omega) (by omega) (by omega) (by omega), FB 135 s (by omega) (by omega) (by omega) (by omega)]; exact D4 s hs
    · by_cases q : i' = N
      · subst q
        refine ⟨?_, ?_, ?_⟩
        · unfold SyR Fo
          rw [v1, v2, v3, v4, v5, v6, v7, v8]
          exact ⟨by omega, by omega, by omega, l4', by omega, by omega, u1, u5, fun j hj => by rw [v9 j hj]; exact (u6 j hj).2⟩
        · unfold SyC ab al
          rw [v1, v2, v3, v4, v5, v6, v7, v8, v90, v9 1 (by omega), v9 2 (by omega), v9 3 (by omega)]
          simp only [CR]
          refine ⟨?_, ?_, ?_, ?_, ?_, ?_, u3, ?_, u7⟩
          · rw [C8 0 (by omega) (by omega), pu_n (by omega), pu_n (by omega), R]; rfl
          · rw [C8 1 (by omega) (by omega), pu_n (by omega), pu_n (by omega), R]; rfl
          · rw [C8 2 (by omega) (by omega), pu_n (by omega), pu_n (by omega), R]; rfl
          · rw [C8 3 (by omega) (by omega), pu_n (by omega), pu_n (by omega), R]; rfl
          · rw [C8 4 (by omega) (by omega), pu_n (by omega), pu_n (by omega), R]; rfl
          · rw [C8 5 (by omega) (by omega), pu_n (by omega), pu_s]
          · rw [C8 7 (by omega) (by omega), pu_s]
        · unfold SyD
          rw [v1, v2, v3, v4, v5, v6, v7, v8]
          exact ⟨m1, m2, m3, m4, m5, m6, m7, m8, fun j hj => by rw [v9 j hj]; exact m9 j hj⟩
      · refine SyJ_fr (D5 i' (by omega)) (fun j => ?_) (fun a q1 q2 => FB a i' (by omega) (by omega) (by omega) (by omega)) (fun j hj => FB 129 _ (by omega) (by omega) (by omega) (by omega))
        rw [pu_n (by omega), FA _ j (by omega) (by omega)]
    · have hs4 := (D2 s hs).1
      refine EdJ_fr (D6 s hs e he) (fun j => ?_) (FB 116 _ (by omega) (by omega) (by omega) (by omega)) (fun a k q1 q2 q3 q4 => FB a k (by omega) (by omega) (by omega) (by omega))
      rw [pu_n (by omega), FA _ j (by omega) (by omega)]
