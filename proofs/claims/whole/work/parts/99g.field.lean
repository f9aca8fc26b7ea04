/-! PURE: the fields of a SAYING -/
def orb : Nat → Nat → Nat → Nat
  | v, _, 0 => v
  | v, lo, r + 1 => orb (v ||| 2 ^ lo) (lo + 1) r
theorem orb_sp : ∀ lo, lo < 6 → ∀ hi, hi < 6 → lo ≤ hi → ∀ z, z < 2 → orb (z * 64) lo (hi + 1 - lo) = (2 ^ (hi + 1) - 2 ^ lo) ||| z * 64 ∧ 0 < (2 ^ (hi + 1) - 2 ^ lo) ||| z * 64 ∧ (2 ^ (hi + 1) - 2 ^ lo) ||| z * 64 < 128 := by decide +kernel
theorem lf_47 {p : Nat} (hp : sk p = (14, 9)) (z2 : Int32) {hi : Nat} (hh : hi < 6) {c : pd_M} : ∀ (r n v lo : Nat), lo + r = hi + 1 → r < n → lp_X3_readField_47 n p z2 (nI hi) (nI v) (nI lo) c = some (nI (orb v lo r)) := by
  intro r
  induction r with
  | zero =>
    intro n v lo h1 h2
    obtain ⟨n, rfl⟩ : ∃ k, n = k + 1 := ⟨n - 1, by omega⟩
    unfold lp_X3_readField_47 orb
    simp (disch := omega) only [hp, lt_, show hi < lo by omega, if_true, if_false, ↓reduceIte, Bool.false_eq_true, reduceCtorEq]
  | succ r ih =>
    intro n v lo h1 h2
    obtain ⟨n, rfl⟩ : ∃ k, n = k + 1 := ⟨n - 1, by omega⟩
    unfold lp_X3_readField_47 orb
    simp (disch := omega) only [hp, lt_, show ¬ hi < lo by omega, q_1shl, fa_or, pn, nI_1, if_true, if_false, ↓reduceIte, Bool.false_eq_true, reduceCtorEq]
    exact ih n _ (lo + 1) (by omega) (by omega)
theorem pk4_bit {V : Nat → Nat} (hV : ∀ j, j < 4 → V j < 128) {i : Nat} (hi : i < 28) : (pk4 (V 0) (V 1) (V 2) (V 3)).testBit i = (V (i / 7)).testBit (i % 7) := by
  have hf := pk4_fi (hV 0 (by omega)) (hV 1 (by omega)) (hV 2 (by omega)) (hV 3 (by omega))
  have hj : fi (pk4 (V 0) (V 1) (V 2) (V 3)) (i / 7) = V (i / 7) := by
    rcases (by omega : i / 7 = 0 ∨ i / 7 = 1 ∨ i / 7 = 2 ∨ i / 7 = 3) with q | q | q | q <;> rw [q]
    · exact hf.1
    · exact hf.2.1
    · exact hf.2.2.1
    · exact hf.2.2.2
  have hb := fi_bit (pk4 (V 0) (V 1) (V 2) (V 3)) (i / 7) (i % 7)
  rw [hj, show 7 * (i / 7) + i % 7 = i by omega] at hb
  rw [hb, decide_eq_true (show i % 7 < 7 by omega), Bool.true_and]
def Vu (V : Nat → Nat) (f v : Nat) : Nat → Nat := fun j => if j = f then v else V j
theorem al_set {V : Nat → Nat} (hV : ∀ j, j < 4 → V j < 128) {f v : Nat} (hf : f < 4) (hv : v < 128) (h7 : V f = 127) : nI (pk4 (V 0) (V 1) (V 2) (V 3)) &&& ((((127 : Int32) <<< ((7 * nI f) &&& 31)) ^^^ (-1)) ||| (nI v <<< ((7 * nI f) &&& 31))) = nI (pk4 (Vu V f v 0) (Vu V f v 1) (Vu V f v 2) (Vu V f v 3)) := by
  have hV' : ∀ j, j < 4 → Vu V f v j < 128 := by
    intro j hj
    unfold Vu
    split
    · exact hv
    · exact hV j hj
  rw [show (127 : Int32) = nI 127 from rfl, l7, pk_mul, q_shl 127 (by omega), q_shl v (by omega)]
  refine b_ext fun i hi => ?_
  rw [b_and, b_or, b_xor, bt_nI, bt_nI, bt_nI, bt_nI, b_m1 i hi, decide_eq_true hi]
  simp only [Bool.true_and]
  rw [← Nat.shiftLeft_eq, ← Nat.shiftLeft_eq, Nat.testBit_shiftLeft, Nat.testBit_shiftLeft, show (127 : Nat) = 2 ^ 7 - 1 from rfl, Nat.testBit_two_pow_sub_one]
  by_cases h28 : i < 28
  · rw [pk4_bit hV h28, pk4_bit hV' h28]
    unfold Vu
    by_cases e : i / 7 = f
    · rw [if_pos e, e, h7, show (127 : Nat) = 2 ^ 7 - 1 from rfl, Nat.testBit_two_pow_sub_one, decide_eq_true (show i % 7 < 7 by omega), decide_eq_true (show 7 * f ≤ i by omega), decide_eq_true (show i - 7 * f < 7 by omega), show i - 7 * f = i % 7 by omega]
      simp
    · rw [if_neg e]
      by_cases e2 : 7 * f ≤ i
      · rw [decide_eq_false (show ¬ i - 7 * f < 7 by omega)]
        simp
      · rw [decide_eq_false e2]
        simp
  · have p1 := pk4_lt (hV 0 (by omega)) (hV 1 (by omega)) (hV 2 (by omega)) (hV 3 (by omega))
    have p2 := pk4_lt (hV' 0 (by omega)) (hV' 1 (by omega)) (hV' 2 (by omega)) (hV' 3 (by omega))
    rw [tb_hi (k := 28) p1 (by omega), tb_hi (k := 28) p2 (by omega), Bool.false_and]
/-- the fields told so far -/
def FS (N T : Nat) (V : Nat → Nat) (c d : pd_M) : Prop := c (48 + N) 6 = nI T ∧ T < 16 ∧ c (48 + N) 8 = nI (pk4 (V 0) (V 1) (V 2) (V 3)) ∧ d 127 N = 0 ∧ d 128 N = nI T ∧ ∀ j, j < 4 → d 129 (4 * N + j) = nI (V j) ∧ 0 < V j ∧ V j < 128 ∧ (T.testBit j = false → V j = 127)
def FcS (N : Nat) (c c' : pd_M) : Prop := ∀ a j, ¬ (a = 100 ∧ (j = 3 ∨ j = 4)) → ¬ (a = 48 + N ∧ (j = 6 ∨ j = 8)) → c' a j = c a j
def FxS (N : Nat) (d d' : pd_M) : Prop := ∀ a j, ¬ (a = 110 ∧ 33 ≤ j ∧ j ≤ 38) → ¬ (a = 128 ∧ j = N) → ¬ (a = 129 ∧ 4 * N ≤ j ∧ j < 4 * N + 4) → d' a j = d a j
theorem FS_fr {N T : Nat} {V : Nat → Nat} {c c' d d' : pd_M} (h : FS N T V c d) (f : Fc c c') (g : Fx 33 38 d d') (hN : N < 20) : FS N T V c' d' := by
  obtain ⟨h1, h2, h3, h4, h5, h6⟩ := h
  refine ⟨?_, h2, ?_, ?_, ?_, fun j hj => ?_⟩
  · rw [f _ 6 (by omega)]; exact h1
  · rw [f _ 8 (by omega)]; exact h3
  · rw [g 127 N (by omega)]; exact h4
  · rw [g 128 N (by omega)]; exact h5
  · rw [g 129 _ (by omega)]; exact h6 j hj
theorem fields_st {L : Nat} {B : Nat → Nat} {m N : Nat} (hN : N < 20) : ∀ (u t n n' i T : Nat) (V : Nat → Nat) (c d : pd_M), t + u = 5 → u < n → u < n' → Q L B m i 0 c d → FS N T V c d → pc T = t →
    ∃ T' V' i' k' c' d', lp_X3_readThen_27 n (48 + N) (nI t) c = some c' ∧ lp_X9_readSaying_155 n' (nI N) d = some d' ∧ Q L B m i' k' c' d' ∧ FcS N c c' ∧ FxS N d d' ∧ i ≤ i' ∧ (k' = 0 → FS N T' V' c' d') := by
  have hsk := arr_sh_45 hN
  intro u
  induction u with
  | zero =>
    intro t n n' i T V c d h1 _ _ _ hF hp
    have := pc_16 T hF.2.1
    omega
  | succ u ih =>
    intro t n n' i T V c d h1 h2 h3 h hF hp
    obtain ⟨n, rfl⟩ : ∃ k, n = k + 1 := ⟨n - 1, by omega⟩
    obtain ⟨n', rfl⟩ : ∃ k, n' = k + 1 := ⟨n' - 1, by omega⟩
    obtain ⟨y1, y2⟩ := isNum_st h
    obtain ⟨F1, F2, F3, F4, F5, F6⟩ := id hF
    unfold lp_X3_readThen_27 lp_X9_readSaying_155
    rw [if_pos hsk, if_neg (show ¬ (4 : Int32) < nI t from nI_nlt (a := 4) (b := t) (by omega) (by decide)), if_pos (show c 100 4 = 0 from h.2.2.2.1.2.1), y1, o1s, if_pos (show d 110 37 = 0 from h.2.2.2.1.2.2.1)]
    simp (disch := omega) only [zp, nI_clamp, F4, y2, F5, if_true, if_false, ↓reduceIte, Bool.false_eq_true, reduceCtorEq]
    by_cases z : kd L B (Pp L B i) = 3
    · rw [if_pos z, if_neg (by decide), if_pos z]
      obtain ⟨x0, w0, i1, k1, c1, d1, b0, p0, q0, hh1, f1, g1, j1, r0⟩ := fresh_st h 3 T (by omega) F2 0 3 (nI T) (fun _ => ⟨rfl, rfl, rfl⟩)
      obtain ⟨x1, w1, i2, k2, c2, d2, -, b1, p1, q1, hh2, f2, g2, j2, r1⟩ := num_st hh1 0 5 (by omega) (by omega) 0 5 0 (fun _ => ⟨rfl, rfl, rfl⟩)
      obtain ⟨x2, w2, i3, k3, c3, d3, l2', b2, p2, q2, hh3, f3, g3, j3, r2⟩ := num_st hh2 x1 5 (by omega) (by omega) w1 5 0 (fun z => ⟨(r1 z).2, rfl, rfl⟩)
      obtain ⟨x3, w3, i4, k4, c4, d4, -, b3, p3, q3, hh4, f4, g4, j4, r3⟩ := num_st hh3 0 1 (by omega) (by omega) 0 1 0 (fun _ => ⟨rfl, rfl, rfl⟩)
      have p0 : fn_X3_fresh 3 (nI T) c = _ := p0
      have p1 : fn_X3_number 0 5 c1 = _ := p1
      have p2 : fn_X3_number (nI x1) 5 c2 = _ := p2
      have p3 : fn_X3_number 0 1 c3 = _ := p3
      have fc : Fc c c4 := Fc_tr f1 (Fc_tr f2 (Fc_tr f3 f4))
      have fx : Fx 33 38 d d4 := Fx_tr g1 (Fx_tr g2 (Fx_tr g3 g4))
      have hF4 := FS_fr hF fc fx hN
      have k43 := hh4.2.2.2.1.1
      have s6 : nI x3 <<< ((6 : Int32) &&& 31) = nI (x3 * 64) := by
        rw [l6, q_shl x3 (by omega)]
      obtain ⟨sp1, sp2, sp3⟩ := orb_sp x1 (by omega) x2 (by omega) l2' x3 (by omega)
      generalize hv : (2 ^ (x2 + 1) - 2 ^ x1) ||| x3 * 64 = v at sp1 sp2 sp3
      have l47 : lp_X3_readField_47 5000 (48 + N) (nI x0) (nI x2) (nI (x3 * 64)) (nI x1) c4 = some (nI v) := by
        rw [lf_47 hsk (nI x0) (by omega) (x2 + 1 - x1) 5000 (x3 * 64) x1 (by omega) (by omega), sp1]
      have cE : fn_X3_readField (48 + N) c = if c4 100 4 = 0 then some (pi_up (pi_up c4 (48 + N) 6 ((c4 (48 + N) 6) ||| ((1 : Int32) <<< (nI x0 &&& 31)))) (48 + N) 8 ((c4 (48 + N) 8) &&& ((((127 : Int32) <<< ((7 * nI x0) &&& 31)) ^^^ (-1)) ||| (nI v <<< ((7 * nI x0) &&& 31))))) else some c4 := by
        unfold fn_X3_readField
        rw [if_pos hsk, F1, p0, o2s, p1, o2s, p2, o2s, p3, o2s, s6]
        simp (disch := omega) only [pn, l47, o1s, pu_n]
      rw [cE]
      rw [q0, o2s, q1, o2s, q2, o2s, q3, o2s]
      by_cases hk : k4 = 0
      · subst hk
        obtain ⟨e3, rfl⟩ := r3 rfl
        obtain ⟨e2, rfl⟩ := r2 e3
        obtain ⟨e1, rfl⟩ := r1 e2
        obtain ⟨-, rfl, hb⟩ := r0 e1
        obtain ⟨G1, -, G3, G4, G5, G6⟩ := id hF4
        obtain ⟨pt, pl⟩ := pc_or T F2 x0 (by omega) hb
        have hx7 := (G6 x0 (by omega)).2.2.2 hb
        have e8 := al_set (fun j hj => (G6 j hj).2.2.1) (show x0 < 4 by omega) sp3 hx7
        have em : (((1 : Int32) <<< ((nI x2 + 1) &&& 31)) - ((1 : Int32) <<< (nI x1 &&& 31))) ||| (nI x3 <<< ((6 : Int32) &&& 31)) = nI v := by
          rw [s6, nI_1, q_1shl (by omega), q_1shl (by omega), pk_sub (Nat.pow_le_pow_right (by decide) (by omega)), fa_or, hv]
        rw [if_pos (show c4 100 4 = 0 from hh4.2.2.2.1.2.1), if_pos (show d4 110 37 = 0 from hh4.2.2.2.1.2.2.1), em]
        simp (disch := omega) only [G1, G3, G5, e8, q_1shl, fa_or, pn, nI_1, l4, pk_mul, nI_add, zp, nI_clamp, o1s, if_true, if_false, ↓reduceIte, Bool.false_eq_true, reduceCtorEq]
        have h6 : Q L B m i4 0 (pi_up (pi_up c4 (48 + N) 6 (nI (T ||| 2 ^ x0))) (48 + N) 8 (nI (pk4 (Vu V x0 v 0) (Vu V x0 v 1) (Vu V x0 v 2) (Vu V x0 v 3)))) (pi_up (pi_up d4 128 N (nI (T ||| 2 ^ x0))) 129 (4 * N + x0) (nI v)) := Q_upd (Q_upd (Q_upc (Q_upc hh4 (by omega)) (by omega)) (by omega)) (by omega)
        have hF6 : FS N (T ||| 2 ^ x0) (Vu V x0 v) (pi_up (pi_up c4 (48 + N) 6 (nI (T ||| 2 ^ x0))) (48 + N) 8 (nI (pk4 (Vu V x0 v 0) (Vu V x0 v 1) (Vu V x0 v 2) (Vu V x0 v 3)))) (pi_up (pi_up d4 128 N (nI (T ||| 2 ^ x0))) 129 (4 * N + x0) (nI v)) := by
          refine ⟨?_, pl, pu_s, ?_, ?_, fun j hj => ?_⟩
          · rw [pu_n (by omega), pu_s]
          · rw [pu_n (by omega), pu_n (by omega)]; exact G4
          · rw [pu_n (by omega), pu_s]
          · unfold Vu
            by_cases q : j = x0
            · subst q
              rw [if_pos rfl, pu_s]
              refine ⟨rfl, sp2, sp3, fun y => ?_⟩
              rw [Nat.testBit_or, Nat.testBit_two_pow] at y
              simp at y
            · rw [if_neg q, pu_n (by omega), pu_n (by omega)]
              obtain ⟨v1, v2, v3, v4⟩ := G6 j hj
              refine ⟨v1, v2, v3, fun y => v4 ?_⟩
              rw [Nat.testBit_or] at y
              exact (Bool.or_eq_false_iff.mp y).1
        obtain ⟨T', V', i5, k5, c5, d5, a1, a2, a3, a4, a5, a6, a7⟩ := ih (t + 1) n n' i4 (T ||| 2 ^ x0) (Vu V x0 v) _ _ (by omega) (by omega) (by omega) h6 hF6 (by omega)
        refine ⟨T', V', i5, k5, c5, d5, a1, a2, a3, fun a j s1 s2 => ?_, fun a j s1 s2 s3 => ?_, by omega, a7⟩
        · rw [a4 a j s1 s2, pu_n (by omega), pu_n (by omega), fc a j s1]
        · rw [a5 a j s1 s2 s3, pu_n (by omega), pu_n (by omega), fx a j s1]
      · rw [if_neg (show ¬ c4 100 4 = 0 by rw [hh4.2.2.2.1.2.1]; exact nk hk k43), if_neg (show ¬ d4 110 37 = 0 by rw [hh4.2.2.2.1.2.2.1]; exact nk hk k43)]
        simp only [o1s, pn]
        obtain ⟨n, rfl⟩ : ∃ k, n = k + 1 := ⟨n - 1, by omega⟩
        obtain ⟨n', rfl⟩ : ∃ k, n' = k + 1 := ⟨n' - 1, by omega⟩
        refine ⟨T, V, i4, k4, c4, d4, ?_, ?_, hh4, fun a j s1 s2 => fc a j s1, fun a j s1 s2 s3 => fx a j s1, by omega, fun z => absurd z hk⟩
        · unfold lp_X3_readThen_27
          rw [if_pos hsk, if_neg (show ¬ c4 100 4 = 0 by rw [hh4.2.2.2.1.2.1]; exact nk hk k43)]
          split <;> rfl
        · unfold lp_X9_readSaying_155
          rw [if_neg (show ¬ d4 110 37 = 0 by rw [hh4.2.2.2.1.2.2.1]; exact nk hk k43)]
    · rw [if_neg z, if_pos rfl, if_neg z]
      exact ⟨T, V, i, 0, c, d, rfl, rfl, h, fun _ _ _ _ => rfl, fun _ _ _ _ _ => rfl, by omega, fun _ => hF⟩
