/-! PURE: calls that read what is told -/
theorem ab_31 {f : pd_M} {s : Nat} (hy : Sy f s) : ab (vw f) s < 16777216 := by
  obtain ⟨-, -, -, -, ⟨-, -, h1, h2⟩, ⟨-, -, h3⟩, -⟩ := hy
  exact ab_lt _ (by omega) _ h2 _ h3
theorem ab_bit {f : pd_M} {s : Nat} (hy : Sy f s) {c : Nat} (hc : c < 24) : (ab (vw f) s).testBit c = sAb (vw f) s (c / 3) (c % 3) := by
  obtain ⟨-, -, -, -, ⟨-, -, h1, h2⟩, ⟨-, -, h3⟩, -⟩ := hy
  exact ab_bitN _ (by omega) _ h2 h1 _ h3 c hc
theorem lc_firstBroken {f : pd_M} {s e : Nat} (hs : s < 20) (hy : Sy f s) (he : e < 16) (hE : Ed f e) : ∀ (r n c : Nat), c + r = 24 → r < n → lp_X8_firstBroken_2 n (48 + s) (68 + 2 * e) (nI c) f = if ff (sBk (vw f) s e) r c = 24 then some (.inr ()) else some (.inl (nI (ff (sBk (vw f) s e) r c))) := by
  have k1 := arr_sh_45 hs
  have k2 := arr_sh_46 he
  have hF := Sy_Fo hy
  have hb := ab_31 hy
  have ha := al_lt hF
  obtain ⟨w0, w1⟩ := hy.2.2.2.2.2.2.2.2.2
  intro r
  induction r with
  | zero =>
    intro n c hc hn
    obtain ⟨n, rfl⟩ : ∃ k, n = k + 1 := ⟨n - 1, by omega⟩
    have : c = 24 := by omega
    subst this
    simp (disch := omega) only [lp_X8_firstBroken_2, k1, k2, l24, ly, ff, Nat.le_refl, if_true, if_false, ↓reduceIte, Bool.false_eq_true, reduceCtorEq]
  | succ r ih =>
    intro n c hc hn
    obtain ⟨n, rfl⟩ : ∃ k, n = k + 1 := ⟨n - 1, by omega⟩
    have hi := ih n (c + 1) (by omega) (by omega)
    have hA := hE.2.2 c (by omega)
    have hEn := en_lt (sAns (vw f) e (c / 3) (c % 3))
    have hW := q_within (a := en (sAns (vw f) e (c / 3) (c % 3))) (b := al (vw f) s) (by omega)
    have hX := en_al hF (sAns (vw f) e (c / 3) (c % 3))
    simp (disch := omega) only [lp_X8_firstBroken_2, k1, k2, l24, ly, w0, w1, q_bit0, pn, nI_1, hi, zp, nI_clamp, show 68 + 2 * e + 1 = 69 + 2 * e by omega, hA, hW, show ¬ 24 ≤ c by omega, ab_bit hy (show c < 24 by omega), if_true, if_false, ↓reduceIte, Bool.false_eq_true, reduceCtorEq]
    rw [show ff (sBk (vw f) s e) (r + 1) c = if sBk (vw f) s e c = true then c else ff (sBk (vw f) s e) r (c + 1) from rfl]
    have hb : sBk (vw f) s e c = (sAb (vw f) s (c / 3) (c % 3) && decide (sWr (vw f) s (sAns (vw f) e (c / 3) (c % 3)) ≠ 9)) := rfl
    cases h1 : sAb (vw f) s (c / 3) (c % 3)
    · simp [hb, h1]
    · by_cases h2 : sWr (vw f) s (sAns (vw f) e (c / 3) (c % 3)) = 9
      · simp [hb, h1, h2, hX.mpr h2]
      · simp [hb, h1, h2, mt hX.mp h2, show c ≠ 24 by omega]
theorem c_firstBroken {f : pd_M} {s e : Nat} (hs : s < 20) (hy : Sy f s) (he : e < 16) (hE : Ed f e) : fn_X8_firstBroken (48 + s) (68 + 2 * e) f = some (if sBr (vw f) s e = 24 then -1000000 else nI (sBr (vw f) s e)) := by
  have h := lc_firstBroken hs hy he hE 24 5000 0 (by omega) (by omega)
  unfold fn_X8_firstBroken sBr
  rw [show (0 : Int32) = nI 0 from rfl, h]
  simp only [arr_sh_45 hs, arr_sh_46 he, if_true]
  by_cases e : ff (sBk (vw f) s e) 24 0 = 24
  · simp only [e, if_true, os0]
  · simp only [e, if_false, os0]
theorem lc_wrongField {f : pd_M} {x y : Nat} (hx : x < 536870912) : ∀ (r n j : Nat), j + r = 4 → r < n → lp_X8_wrongField_15 n (nI x) (nI y) (nI j) f = if ff (fun j => decide (nd (fi x j) (fi y j) ≠ 0)) r j = 4 then some (.inr ()) else some (.inl (nI (ff (fun j => decide (nd (fi x j) (fi y j) ≠ 0)) r j))) := by
  intro r
  induction r with
  | zero =>
    intro n j hj hn
    obtain ⟨n, rfl⟩ : ∃ k, n = k + 1 := ⟨n - 1, by omega⟩
    have : j = 4 := by omega
    subst this
    simp (disch := omega) only [lp_X8_wrongField_15, l4, ly, ff, Nat.le_refl, if_true, if_false, ↓reduceIte, Bool.false_eq_true, reduceCtorEq]
  | succ r ih =>
    intro n j hj hn
    obtain ⟨n, rfl⟩ : ∃ k, n = k + 1 := ⟨n - 1, by omega⟩
    have hi := ih n (j + 1) (by omega) (by omega)
    have hn := nd_lt (a := x) (b := y) (by omega)
    have h5 := fi_lt (nd x y) j
    simp (disch := omega) only [lp_X8_wrongField_15, l4, ly, q_nd, q_field, zc, nd_fi hx, pn, nI_1, hi, show ¬ 4 ≤ j by omega, if_true, if_false, ↓reduceIte, Bool.false_eq_true, reduceCtorEq]
    rw [nd_fi hx] at h5
    simp (disch := omega) only [zc]
    rw [show ff (fun j => decide (nd (fi x j) (fi y j) ≠ 0)) (r + 1) j = if decide (nd (fi x j) (fi y j) ≠ 0) = true then j else ff (fun j => decide (nd (fi x j) (fi y j) ≠ 0)) r (j + 1) from rfl]
    by_cases h : nd (fi x j) (fi y j) = 0
    · simp [h]
    · simp [h, show j ≠ 4 by omega]
theorem q_28 {x : Nat} : nI x &&& 268435456 = nI (if x.testBit 28 then 268435456 else 0) := by
  rw [lr, fa_and]
  congr 1
  refine Nat.eq_of_testBit_eq fun i => ?_
  rw [Nat.testBit_and, show 268435456 = 2 ^ 28 from rfl, Nat.testBit_two_pow]
  by_cases e : 28 = i
  · subst e
    cases x.testBit 28
    · simp
    · decide +kernel
  · cases x.testBit 28
    · simp [e]
    · simp only [if_true, Bool.true_and]
      rw [Nat.testBit_two_pow]
      simp [e]
theorem c_wrongField {f : pd_M} {M : Nat → Nat → Nat} {s a : Nat} (h : Fo M s) (hw : sWr M s a ≠ 9) (hR : M 127 s < 2) : fn_X8_wrongField (nI (en a)) (nI (al M s)) f = some (nI (sWr M s a)) := by
  have hl := lc_wrongField (f := f) (x := en a) (y := al M s) (en_lt a) 4 5000 0 (by omega) (by omega)
  have h5 := ff_le (fun j => !(M 129 (4 * s + j)).testBit (dg a j)) 4 0
  unfold fn_X8_wrongField
  rw [q_28, q_28, en_28, al_28 h, show (0 : Int32) = nI 0 from rfl, hl]
  unfold sWr at hw ⊢
  by_cases e : M 127 s = 1
  · simp only [e, if_true] at hw ⊢
    by_cases e2 : a = 2401
    · exact absurd (by rw [if_pos e2]) hw
    · simp only [e2, if_false, decide_false, decide_true, Bool.false_eq_true, if_true]
      simp (disch := omega) only [lq]
      rfl
  · simp only [e, if_false] at hw ⊢
    by_cases e2 : a = 2401
    · simp only [e2, if_true, decide_false, decide_true, Bool.false_eq_true, if_false]
      simp (disch := omega) only [lq]
      rfl
    · simp only [e2, if_false, decide_false, Bool.false_eq_true, if_true] at hw ⊢
      have hc : ff (fun j => decide (nd (fi (en a) j) (fi (al M s) j) ≠ 0)) 4 0 = sWj M s a := by
        unfold sWj
        refine ff_cong fun j _ hj => ?_
        have := nd_one (y := M 129 (4 * s + j)) (dg_lt a j)
        rw [en_fi e2 (by omega), al_fi h (by omega), if_neg e]
        cases hb : (M 129 (4 * s + j)).testBit (dg a j)
        · rw [hb] at this
          simp [this]
        · rw [hb] at this
          simp [this]
      rw [hc]
      by_cases e3 : sWj M s a = 4
      · exact absurd (by rw [if_pos e3]) hw
      · simp only [e3, if_false, os0]
theorem c_edOf {s e : Nat} (hs : s < 4) (he : e < 4) : fn_X7_editionOf (nI s) (nI e) = some (68 + 2 * (4 * s + e)) := by
  unfold fn_X7_editionOf
  simp (disch := omega) only [l4, pk_mul, nI_add, zp, nI_clamp, if_true, if_false, ↓reduceIte, Bool.false_eq_true, reduceCtorEq]
  rw [Nat.mul_comm s 4]
theorem op_play {f : pd_M} (hT : Td f) (p e w : Int32) : OpR (fn_X8_play p e w f) (fn_X9_play p e w f) f := by
  have hz := FrT_zz f
  have hG := Td_fr hz hT
  have hn := hT.1.2.2
  rcases q_ix p (n := vw f 0 0) (by omega) with h | ⟨s, hs, rfl⟩
  · refine ⟨-1000001, ?_, ?_⟩
    · simp [fn_X8_play, has_out hT h, ob1]
    · simp [fn_X9_play, pn, isa_out hG (by rw [vw_fr hz]; exact h), ob1]
  · have hy := hT.2.2.1 s hs
    have hyG := Sy_fr hz (by omega) hy
    have i1 := has_in hT hs
    have i2 := isa_in hG (s := s) (by rw [vw_fr hz]; exact hs)
    have hF := Sy_Fo hy
    obtain ⟨c1, c2, c3⟩ := hy.2.2.1
    obtain ⟨w0, w1⟩ := hy.2.2.2.2.2.2.2.2.2
    have hR := hy.2.2.2.2.2.2.2.1.2
    rcases q_ix w (n := 2) (by decide) with h | ⟨j, hj, rfl⟩
    · have e1 : fn_X8_isBelow w 2 = 0 := qB_out (n := 2) (by decide) h
      have e3 : fn_X9_in w.toInt64 0 1 = 0 := qI_out (lo := 0) (hi := 1) (by decide) (by decide) (by omega)
      refine ⟨-1000001, ?_, ?_⟩
      · simp [fn_X8_play, i1, ob1, e1]
      · unfold fn_X9_play
        simp (disch := omega) only [pn, i2, ob1, o10, zp, nI_clamp, pu_n, c1, e3, if_true, if_false, ↓reduceIte, Bool.false_eq_true, reduceCtorEq]
        rcases ed_cases hG (nI (vw f 123 s)) e with ⟨-, k⟩ | ⟨_, _, _, _, _, _, -, k⟩
        · simp [k]
        · simp [k]
    · have e1 : fn_X8_isBelow (nI j) 2 = 1 := qB_in (n := 2) hj (by decide)
      have e3 : fn_X9_in (nI j).toInt64 0 1 = 1 := qI_in (lo := 0) (hi := 1) (by omega) (by omega) (by decide)
      rcases ed_cases hT (nI (vw f 123 s)) e with ⟨k1, k2⟩ | ⟨g, x, hg, hx, eg, rfl, k1, k2⟩
      · have k3 : fn_X9_isEdition (nI (vw f 123 s)) e (pi_up f 110 0 0) = some 0 := by
          rcases ed_cases hG (nI (vw f 123 s)) e with ⟨-, k⟩ | ⟨g, x, hg, hx, eg, rfl, k, -⟩
          · exact k
          · rw [vw_fr hz] at hx
            rcases ed_cases hT (nI (vw f 123 s)) (nI x) with ⟨q1, -⟩ | ⟨_, _, _, _, _, _, q1, -⟩
            · exfalso
              have h4 := (hT.2.1 g hg).2.2
              rw [eg] at q1
              unfold fn_X7_hasEdition at q1
              have hB : fn_X8_isBelow (nI g) 4 = 1 := qB_in (n := 4) hg (by decide)
              simp (disch := omega) only [hB, o10, zp, nI_clamp, (hT.2.1 g hg).2.1, qB_in hx (by omega), if_true, if_false, ↓reduceIte, Bool.false_eq_true, reduceCtorEq] at q1
              exact absurd q1 (by decide)
            · rw [k1] at q1
              exact absurd q1 (by decide)
        refine ⟨-1000001, ?_, ?_⟩
        · unfold fn_X8_play
          simp (disch := omega) only [i1, ob1, o10, e1, zp, nI_clamp, c2, k1, if_true, if_false, ↓reduceIte, Bool.false_eq_true, reduceCtorEq]
        · unfold fn_X9_play
          simp (disch := omega) only [pn, i2, ob1, o10, zp, nI_clamp, pu_n, c1, e3, k3, if_true, if_false, ↓reduceIte, Bool.false_eq_true, reduceCtorEq]
      · have h4 := (hT.2.1 g hg).2.2
        have egg : vw f 123 s = g := (nI_eq (by omega) (by omega)).mp eg
        subst egg
        have k3 : fn_X9_isEdition (nI (vw f 123 s)) (nI x) (pi_up f 110 0 0) = some 1 := by
          unfold fn_X9_isEdition
          have hc : (0 : Int) ≤ (nI x).toInt ∧ (nI x).toInt < vw f 114 (vw f 123 s) := by rw [nI_toInt (by omega)]; omega
          simp (disch := omega) only [ser_in hg, ob1, o10, zp, nI_clamp, pu_n, (hT.2.1 _ hg).1, qI_n, hc, and_self, if_true, if_false, ↓reduceIte, Bool.false_eq_true, reduceCtorEq]
        have hE := hT.2.2.2.1 _ hg x hx
        have hEG := Ed_fr hz (by omega) hE
        have m1 := m_breaks (f := pi_up f 110 0 0) (e := x) (by omega) hyG (by omega) (by rw [vw_fr hz]; exact hEG)
        rw [vw_fr hz] at m1
        have n1 := c_firstBroken (show s < 20 by omega) hy (by omega) hE
        have hb := sBr_le (vw f) s (4 * vw f 123 s + x)
        by_cases hB : sBr (vw f) s (4 * vw f 123 s + x) = 24
        · unfold OpR fn_X8_play fn_X9_play
          simp (disch := omega) only [pn, i1, i2, ob1, o10, e1, e3, zp, nI_clamp, pu_n, c1, c2, k1, k3, c_edOf, m1, n1, hB, if_true, if_false, ↓reduceIte, Bool.false_eq_true, reduceCtorEq]
          rcases (by omega : j = 0 ∨ j = 1) with rfl | rfl
          · exact ⟨1, rfl, rfl⟩
          · exact ⟨-1000000, rfl, rfl⟩
        · have hv : sWr (vw f) s (sAns (vw f) (4 * vw f 123 s + x) (sBr (vw f) s (4 * vw f 123 s + x) / 3) (sBr (vw f) s (4 * vw f 123 s + x) % 3)) ≠ 9 := by
            have := ff_yes (sBk (vw f) s (4 * vw f 123 s + x)) 24 0 (by unfold sBr at hb hB; omega)
            simp only [sBk, Bool.and_eq_true, decide_eq_true_eq] at this
            exact this.2
          have hwf := c_wrongField (f := f) hF hv hR
          have h10 := sWr_lt (vw f) s (sAns (vw f) (4 * vw f 123 s + x) (sBr (vw f) s (4 * vw f 123 s + x) / 3) (sBr (vw f) s (4 * vw f 123 s + x) % 3))
          have hans := hE.2.2 (sBr (vw f) s (4 * vw f 123 s + x)) (by omega)
          have hval : sVal (vw f) s (4 * vw f 123 s + x) (sBr (vw f) s (4 * vw f 123 s + x)) < 2 ^ 31 := by unfold sVal; omega
          unfold OpR fn_X8_play fn_X9_play
          simp (disch := omega) only [pn, i1, i2, ob1, o10, e1, e3, zp, nI_clamp, pu_n, c1, c2, k1, k3, c_edOf, m1, n1, hB, zj, w1, hans, hwf, show 68 + 2 * (4 * vw f 123 s + x) + 1 = 69 + 2 * (4 * vw f 123 s + x) by omega, if_true, if_false, ↓reduceIte, Bool.false_eq_true, reduceCtorEq]
          rcases (by omega : j = 0 ∨ j = 1) with rfl | rfl
          · exact ⟨0, rfl, rfl⟩
          · refine ⟨_, rfl, ?_⟩
            have hr : nI (sBr (vw f) s (4 * vw f 123 s + x)) - nI (sBr (vw f) s (4 * vw f 123 s + x)) / 3 * 3 = nI (sBr (vw f) s (4 * vw f 123 s + x) % 3) := pk_rem (d := 3) (by omega) (by decide) (by decide)
            have hd : nI (sBr (vw f) s (4 * vw f 123 s + x)) / 3 = nI (sBr (vw f) s (4 * vw f 123 s + x) / 3) := pk_div (d := 3) (by omega) (by decide) (by decide)
            rw [hr, hd, if_pos (show nI 1 = (1 : Int32) from rfl)]
            simp (disch := omega) only [l8, l64, pk_mul, nI_add]
            rfl
