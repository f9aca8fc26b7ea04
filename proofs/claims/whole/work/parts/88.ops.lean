/-! PURE: noMore, allows -/
theorem al_sub {f : pd_M} {a b : Nat} (ha : Sy f a) (hb : Sy f b) : nd (al (vw f) b) (al (vw f) a) = 0 ↔ (vw f 127 a = vw f 127 b ∧ (vw f 127 a = 0 → ∀ j, j < 4 → nd (vw f 129 (4 * b + j)) (vw f 129 (4 * a + j)) = 0)) := by
  have Fa := Sy_Fo ha
  have Fb := Sy_Fo hb
  have ra := ha.2.2.2.2.2.2.2.1.2
  have rb := hb.2.2.2.2.2.2.2.1.2
  rw [sub_fi (al_lt Fb), al_28 Fa, al_28 Fb]
  simp only [decide_eq_true_eq]
  rcases (by omega : vw f 127 a = 0 ∨ vw f 127 a = 1) with e | e
  · rcases (by omega : vw f 127 b = 0 ∨ vw f 127 b = 1) with e2 | e2
    · simp only [e, e2, Nat.zero_ne_one, false_implies, true_and, true_implies]
      refine forall_congr' fun j => forall_congr' fun hj => ?_
      rw [al_fi Fa hj, al_fi Fb hj, e, e2, if_neg (by decide), if_neg (by decide)]
    · simp [e, e2]
  · rcases (by omega : vw f 127 b = 0 ∨ vw f 127 b = 1) with e2 | e2
    · refine ⟨fun z => ?_, fun z => by omega⟩
      exfalso
      have z0 := z.2 0 (by omega)
      have p0 := Fb 0 (by omega)
      rw [al_fi Fa (by omega), al_fi Fb (by omega), if_pos e, if_neg (by omega)] at z0
      have := (nd_0 (a := vw f 129 (4 * b + 0)) (b := 0) (by omega)).mp z0
      have e0 : vw f 129 (4 * b + 0) = 0 := by
        refine Nat.eq_of_testBit_eq fun i => ?_
        rw [Nat.zero_testBit]
        cases q : (vw f 129 (4 * b + 0)).testBit i
        · rfl
        · have := this i q
          rw [Nat.zero_testBit] at this
          exact absurd this (by decide)
      omega
    · refine ⟨fun _ => ⟨by omega, fun z => absurd z (by omega)⟩, fun _ => ⟨fun _ => e, fun j hj => ?_⟩⟩
      rw [al_fi Fb hj, if_pos e2, nd_zero]
theorem lm_noMore {f : pd_M} {a b : Nat} (ha : a < 20) (hb : b < 20) (sa : Sy f a) (sb : Sy f b) (h0 : vw f 127 a = 0) : ∀ (r n j : Nat) (v : Bool), j + r = 4 → r < n → lp_X9_noMore_122 n (nI a) (nI b) (if v = true then 1 else 0) (nI j) f = some (if (v && decide (ff (fun j => decide (nd (vw f 129 (4 * b + j)) (vw f 129 (4 * a + j)) ≠ 0)) r j = 4)) = true then 1 else 0) := by
  have e7 := sa.2.2.2.2.2.2.2.1.1
  intro r
  induction r with
  | zero =>
    intro n j v hj hn
    obtain ⟨n, rfl⟩ : ∃ k, n = k + 1 := ⟨n - 1, by omega⟩
    have : j = 4 := by omega
    subst this
    simp (disch := omega) only [lp_X9_noMore_122, l4, ly, ff, Nat.le_refl, decide_true, Bool.and_true, if_true, if_false, ↓reduceIte, Bool.false_eq_true, reduceCtorEq]
  | succ r ih =>
    intro n j v hj hn
    obtain ⟨n, rfl⟩ : ∃ k, n = k + 1 := ⟨n - 1, by omega⟩
    have i0 := ih n (j + 1) false (by omega) (by omega)
    have i1 := ih n (j + 1) true (by omega) (by omega)
    obtain ⟨a1, a2, a3⟩ := sa.2.2.2.2.2.2.2.2.1 j (by omega)
    obtain ⟨b1, b2, b3⟩ := sb.2.2.2.2.2.2.2.2.1 j (by omega)
    have hnd := nd_lt (a := vw f 129 (4 * b + j)) (b := vw f 129 (4 * a + j)) (by omega)
    simp only [Bool.false_eq_true, if_false, if_true, Bool.false_and, Bool.true_and] at i0 i1
    rw [show ff (fun j => decide (nd (vw f 129 (4 * b + j)) (vw f 129 (4 * a + j)) ≠ 0)) (r + 1) j = if decide (nd (vw f 129 (4 * b + j)) (vw f 129 (4 * a + j)) ≠ 0) = true then j else ff (fun j => decide (nd (vw f 129 (4 * b + j)) (vw f 129 (4 * a + j)) ≠ 0)) r (j + 1) from rfl]
    simp (disch := omega) only [lp_X9_noMore_122, l4, ly, zp, nI_clamp, e7, h0, show ¬ 4 ≤ j by omega, pk_mul, nI_add, a1, b1, q_nd, zc, pn, nI_1, if_true, if_false, ↓reduceIte, Bool.false_eq_true, reduceCtorEq]
    cases v
    · simp only [Bool.false_eq_true, if_false, if_true, ob1, i0, Bool.false_and]
    · by_cases h : nd (vw f 129 (4 * b + j)) (vw f 129 (4 * a + j)) = 0
      · simp only [h, o10, if_true, if_false, ob1, i1, ne_eq, not_true_eq_false, decide_false, Bool.false_eq_true, Bool.true_and]
      · simp only [h, o10, if_true, if_false, ob1, i0, ne_eq, not_false_eq_true, decide_true, Bool.true_and, decide_eq_true_eq, show ¬ j = 4 by omega]
theorem ifc {P Q : Prop} {α : Type} {a b : α} {dP : Decidable P} {dQ : Decidable Q} (h : P ↔ Q) : (if P then a else b) = if Q then a else b := by
  by_cases p : P
  · rw [if_pos p, if_pos (h.mp p)]
  · rw [if_neg p, if_neg (mt h.mpr p)]
theorem bool_if (B : Bool) (g : pd_M) : (if (if B = true then (1 : Int32) else 0) = 0 then some ((0 : Int32), g) else some (1, g)) = some (if B = true then 1 else 0, g) := by cases B <;> simp
theorem op_noMore {f : pd_M} (hT : Td f) (p q : Int32) : OpR (fn_X8_noMore p q f) (fn_X9_noMore p q f) f := by
  have hz := FrT_zz f
  have hG := Td_fr hz hT
  have hn := hT.1.2.2
  rcases q_ix p (n := vw f 0 0) (by omega) with h | ⟨a, ha, rfl⟩
  · refine ⟨-1000001, ?_, ?_⟩
    · simp [fn_X8_noMore, has_out hT h, ob1]
    · simp [fn_X9_noMore, pn, isa_out hG (by rw [vw_fr hz]; exact h), ob1]
  have i1 := has_in hT ha
  have i2 := isa_in hG (s := a) (by rw [vw_fr hz]; exact ha)
  rcases q_ix q (n := vw f 0 0) (by omega) with h | ⟨b, hb, rfl⟩
  · refine ⟨-1000001, ?_, ?_⟩
    · simp [fn_X8_noMore, i1, has_out hT h, ob1]
    · simp [fn_X9_noMore, pn, i2, isa_out hG (by rw [vw_fr hz]; exact h), ob1]
  have i3 := has_in hT hb
  have i4 := isa_in hG (s := b) (by rw [vw_fr hz]; exact hb)
  have sa := hT.2.2.1 a ha
  have sb := hT.2.2.1 b hb
  have sa2 := sa
  have sb2 := sb
  have hal := al_lt (Sy_Fo sb)
  have hab := ab_31 sa
  have hW1 := q_within (a := ab (vw f) a) (b := ab (vw f) b) (by omega)
  have hW2 := q_within (a := al (vw f) b) (b := al (vw f) a) (by omega)
  have hS := al_sub sa sb
  obtain ⟨-, -, ⟨c1, c2, c3⟩, ⟨d1, d2⟩, ⟨e1, e2, e3, e4⟩, ⟨g1, g2, g3⟩, -, ⟨r1, r2⟩, -, u1, w1⟩ := sa
  obtain ⟨-, -, ⟨c1', c2', c3'⟩, ⟨d1', d2'⟩, ⟨e1', e2', e3', e4'⟩, ⟨g1', g2', g3'⟩, -, ⟨r1', r2'⟩, -, u1', w1'⟩ := sb
  have hA : nd (ab (vw f) a) (ab (vw f) b) = 0 ↔ _ := ab_sub e3 e4 g3 e3' e4' g3'
  by_cases hg : vw f 123 a = vw f 123 b
  · have hC : OpR (some (if nd (ab (vw f) a) (ab (vw f) b) = 0 ∧ nd (al (vw f) b) (al (vw f) a) = 0 then 1 else 0)) (fn_X9_noMore (nI a) (nI b) f) f := by
      refine ⟨_, rfl, ?_⟩
      unfold fn_X9_noMore
      simp (disch := omega) only [pn, i2, i4, ob1, o10, zp, nI_clamp, pu_n, c1, c1', d1, d1', e1, e1', g1, g1', r1, r1', lq, lt_, l3, hg, if_true, if_false, ↓reduceIte, Bool.false_eq_true, reduceCtorEq]
      have hv : (ob1 (if vw f 124 a < vw f 124 b then some (0 : Int32) else if vw f 125 b < vw f 125 a then some 0 else if vw f 126 b = 3 then (if vw f 127 a = vw f 127 b then some 1 else some 0) else if vw f 126 b = vw f 126 a then (if vw f 127 a = vw f 127 b then some 1 else some 0) else some 0) fun v => some v) = some (if decide ((vw f 124 b ≤ vw f 124 a ∧ vw f 125 a ≤ vw f 125 b ∧ (vw f 126 b = 3 ∨ vw f 126 b = vw f 126 a)) ∧ vw f 127 a = vw f 127 b) = true then 1 else 0) := by
        by_cases t1 : vw f 124 a < vw f 124 b
        · simp [t1, ob1, show ¬ vw f 124 b ≤ vw f 124 a by omega]
        · by_cases t2 : vw f 125 b < vw f 125 a
          · simp [t1, t2, ob1, show ¬ vw f 125 a ≤ vw f 125 b by omega]
          · by_cases t3 : vw f 126 b = 3
            · by_cases t4 : vw f 127 a = vw f 127 b
              · simp [t1, t2, t3, t4, ob1, show vw f 124 b ≤ vw f 124 a by omega, show vw f 125 a ≤ vw f 125 b by omega]
              · simp [t1, t2, t3, t4, ob1]
            · by_cases t5 : vw f 126 b = vw f 126 a
              · by_cases t4 : vw f 127 a = vw f 127 b
                · rw [if_neg t1, if_neg t2, if_neg t3, if_pos t5, if_pos t4, if_pos (by simp [t4, t5]; omega)]; rfl
                · simp [t1, t2, t3, t4, t5, ob1]
              · simp [t1, t2, t3, t5, ob1]
      revert hv
      generalize (if vw f 124 a < vw f 124 b then some (0 : Int32) else if vw f 125 b < vw f 125 a then some 0 else if vw f 126 b = 3 then (if vw f 127 a = vw f 127 b then some 1 else some 0) else if vw f 126 b = vw f 126 a then (if vw f 127 a = vw f 127 b then some 1 else some 0) else some 0) = X
      intro hv
      rcases X with _ | x
      · exact absurd hv (by simp [ob1])
      have hx : x = if decide ((vw f 124 b ≤ vw f 124 a ∧ vw f 125 a ≤ vw f 125 b ∧ (vw f 126 b = 3 ∨ vw f 126 b = vw f 126 a)) ∧ vw f 127 a = vw f 127 b) = true then 1 else 0 := Option.some.inj hv
      subst hx
      have sG := Sy_fr hz (by omega) sa2
      have sGb := Sy_fr hz (by omega) sb2
      simp only [hA, hS]
      rcases (by omega : vw f 127 a = 0 ∨ vw f 127 a = 1) with h0 | h1
      · have hl := lm_noMore (f := pi_up f 110 0 0) (by omega) (by omega) sG sGb (by rw [vw_fr hz]; exact h0) 4 5000 0 (decide ((vw f 124 b ≤ vw f 124 a ∧ vw f 125 a ≤ vw f 125 b ∧ (vw f 126 b = 3 ∨ vw f 126 b = vw f 126 a)) ∧ vw f 127 a = vw f 127 b)) (by omega) (by omega)
        rw [vw_fr hz] at hl
        have hl' := hl
        rw [show nI 0 = (0 : Int32) from rfl] at hl'
        simp only [hl']
        have hff : ff (fun j => decide (nd (vw f 129 (4 * b + j)) (vw f 129 (4 * a + j)) ≠ 0)) 4 0 = 4 ↔ ∀ j, j < 4 → nd (vw f 129 (4 * b + j)) (vw f 129 (4 * a + j)) = 0 := by
          constructor
          · intro q j hj
            have := ff_no (fun j => decide (nd (vw f 129 (4 * b + j)) (vw f 129 (4 * a + j)) ≠ 0)) 4 0 j (by omega) (by omega)
            simpa using this
          · intro q
            exact ff_is (by omega) (by omega) (fun j _ hj => by simp [q j hj]) (fun z => absurd z (by omega))
        rw [bool_if]
        refine congrArg some (Prod.ext (ifc ?_) rfl)
        simp only [Bool.and_eq_true, decide_eq_true_eq, hff]
        exact ⟨fun z => ⟨z.1.1, z.1.2, fun _ => z.2⟩, fun z => ⟨⟨z.1, z.2.1⟩, z.2.2 h0⟩⟩
      · have e7 : (pi_up f 110 0 0) 127 a = nI 1 := by rw [pu_n (by omega), r1, h1]
        have hl : ∀ v : Int32, lp_X9_noMore_122 5000 (nI a) (nI b) v 0 (pi_up f 110 0 0) = some v := by
          intro v
          show lp_X9_noMore_122 (4999 + 1) (nI a) (nI b) v (nI 0) (pi_up f 110 0 0) = some v
          simp (disch := omega) only [lp_X9_noMore_122, l4, ly, zp, nI_clamp, e7, zc, show ¬ 4 ≤ 0 by omega, Nat.one_ne_zero, if_true, if_false, ↓reduceIte, Bool.false_eq_true, reduceCtorEq]
        simp only [hl]
        rw [bool_if]
        refine congrArg some (Prod.ext (ifc ?_) rfl)
        simp only [decide_eq_true_eq]
        exact ⟨fun z => ⟨z.1, z.2, fun q => absurd q (by omega)⟩, fun z => ⟨z.1, z.2.1⟩⟩
    have hL : fn_X8_noMore (nI a) (nI b) f = some (if nd (ab (vw f) a) (ab (vw f) b) = 0 ∧ nd (al (vw f) b) (al (vw f) a) = 0 then 1 else 0) := by
      unfold fn_X8_noMore
      simp (disch := omega) only [i1, i3, ob1, o10, zp, nI_clamp, c2, c2', u1, u1', w1, w1', lq, hg, hW1, hW2, if_true, if_false, ↓reduceIte, Bool.false_eq_true, reduceCtorEq]
      by_cases t1 : nd (ab (vw f) a) (ab (vw f) b) = 0
      · by_cases t2 : nd (al (vw f) b) (al (vw f) a) = 0
        · simp [t1, t2]
        · simp [t1, t2]
      · simp [t1]
    rw [hL]
    exact hC
  · refine ⟨-1000002, ?_, ?_⟩
    · unfold fn_X8_noMore
      simp (disch := omega) only [i1, i3, ob1, o10, zp, nI_clamp, c2, c2', lq, hg, if_true, if_false, ↓reduceIte, Bool.false_eq_true, reduceCtorEq]
    · unfold fn_X9_noMore
      simp (disch := omega) only [pn, i2, i4, ob1, o10, zp, nI_clamp, pu_n, c1, c1', lq, hg, if_true, if_false, ↓reduceIte, Bool.false_eq_true, reduceCtorEq]
