/-! PURE: letOut -/
theorem rg1 (h A B : Int32) : h + (A - B) = (h - B) + A := by
  rw [Int32.sub_eq_add_neg, Int32.sub_eq_add_neg]
  ac_rfl
def nbr (h s p : Nat) : Nat := h - fig h s * 5 ^ s + p * 5 ^ s
theorem fig_sub {h s : Nat} (hs : s < 4) : fig h s * 5 ^ s ≤ h := by
  rcases (by omega : s = 0 ∨ s = 1 ∨ s = 2 ∨ s = 3) with rfl | rfl | rfl | rfl
  · rw [fig_0]; omega
  · rw [fig_1]; omega
  · rw [fig_2]; omega
  · rw [fig_3]; omega
theorem nbr_ho {M : Nat → Nat → Nat} {h s p : Nat} (hs : s < 4) (hh : sHo M h) (hp : p ≤ M 114 s) (h4 : M 114 s ≤ 4) : sHo M (nbr h s p) := by
  obtain ⟨h1, h2⟩ := hh
  have f0 := h2 0 (by omega)
  have f1 := h2 1 (by omega)
  have f2 := h2 2 (by omega)
  have f3 := h2 3 (by omega)
  rw [fig_0] at f0
  rw [fig_1] at f1
  rw [fig_2] at f2
  rw [fig_3] at f3
  unfold nbr
  rcases (by omega : s = 0 ∨ s = 1 ∨ s = 2 ∨ s = 3) with rfl | rfl | rfl | rfl
  · rw [fig_0]
    refine ⟨by omega, fun s hs => ?_⟩
    rcases (by omega : s = 0 ∨ s = 1 ∨ s = 2 ∨ s = 3) with rfl | rfl | rfl | rfl
    · rw [fig_0]; omega
    · rw [fig_1]; omega
    · rw [fig_2]; omega
    · rw [fig_3]; omega
  · rw [fig_1]
    have e25 : h - h / 5 % 5 * 5 ^ 1 = 25 * (h / 25) + h % 5 := by omega
    rw [e25]
    refine ⟨by omega, fun s hs => ?_⟩
    rcases (by omega : s = 0 ∨ s = 1 ∨ s = 2 ∨ s = 3) with rfl | rfl | rfl | rfl
    · rw [fig_0]; omega
    · rw [fig_1]; omega
    · rw [fig_2]; omega
    · rw [fig_3]
      have e6 : (25 * (h / 25) + h % 5 + p * 5 ^ 1) / 25 = h / 25 := by omega
      have e7 : (25 * (h / 25) + h % 5 + p * 5 ^ 1) / 125 = (25 * (h / 25) + h % 5 + p * 5 ^ 1) / 25 / 5 := by rw [Nat.div_div_eq_div_mul]
      have e8 : h / 125 = h / 25 / 5 := by rw [Nat.div_div_eq_div_mul]
      rw [e7, e6, ← e8]
      exact f3
  · rw [fig_2]
    refine ⟨by omega, fun s hs => ?_⟩
    rcases (by omega : s = 0 ∨ s = 1 ∨ s = 2 ∨ s = 3) with rfl | rfl | rfl | rfl
    · rw [fig_0]; omega
    · rw [fig_1]; omega
    · rw [fig_2]; omega
    · rw [fig_3]; omega
  · rw [fig_3]
    refine ⟨by omega, fun s hs => ?_⟩
    rcases (by omega : s = 0 ∨ s = 1 ∨ s = 2 ∨ s = 3) with rfl | rfl | rfl | rfl
    · rw [fig_0]; omega
    · rw [fig_1]; omega
    · rw [fig_2]; omega
    · rw [fig_3]; omega
theorem nbr_c {h s p : Nat} (hs : s < 4) : nI (h - fig h s * 5 ^ s) + nI p * nI (5 ^ s) = nI (nbr h s p) := by
  rw [pk_mul, nI_add]; rfl
theorem nbr_m {h s p : Nat} (hs : s < 4) : nI h + (nI p - nI (fig h s)) * nI (5 ^ s) = nI (nbr h s p) := by
  rw [Int32.sub_mul, rg1, pk_mul, pk_mul, pk_sub (fig_sub hs), nI_add]; rfl
def Gr (M : Nat → Nat → Nat) (h : Nat) : Prop := sRed M h = M 0 0
def Rl (f e : pd_M) (n : Nat) (c d : pd_M) : Prop :=
  (∀ a k, a ≠ 106 → a ≠ 107 → a ≠ 108 → c a k = f a k) ∧
  (∀ a k, a ≠ 137 → a ≠ 138 → d a k = e a k) ∧
  (c 106 3 = nI n ∧ n ≤ 625) ∧
  ∃ q : Nat → Nat, (∀ i, i < n → c 108 i = nI (q i) ∧ d 138 i = nI (q i) ∧ sHo (vw f) (q i) ∧ Gr (vw f) (q i) ∧ ∃ t, t ≤ i ∧ c 107 (q i) = nI t ∧ d 137 (q i) = nI t) ∧ (∀ i j, i < j → j < n → q i ≠ q j) ∧
    ∀ h, h < 625 → (∃ i, i < n ∧ q i = h) ∨ (d 137 h = -1000000 ∧ (c 107 h = -1 ∨ (c 107 h = -2 ∧ ¬ Gr (vw f) h)))
def bm (z4 z5 x : Int32) (f : pd_M) : Option (Int32 × pd_M) :=
  if (f 137 x.toNatClampNeg) = (-1000000) then
    ob1 (fn_X9_redOf x f) fun r35 =>
    if r35 = (-1000000) then
    if pa_in z5 625 = true then
    if pa_in (f 138 z5.toNatClampNeg) 625 = true then
    if pa_in x 625 = true then
    pn ((pi_up f 137 (x.toNatClampNeg) ((f 137 (f 138 z5.toNatClampNeg).toNatClampNeg) + 1))) fun f41 =>
    if pa_in z4 625 = true then
    pn ((pi_up f41 138 (z4.toNatClampNeg) x)) fun f43 =>
    pn (z4 + 1) fun x44 =>
    some (x44, f43)
    else none
    else none
    else none
    else none
    else
    some (z4, f)
    else
    some (z4, f)
theorem lp122_eq (n : Nat) (z1 z3 z4 z5 z6 z7 : Int32) (f : pd_M) : lp_X9_letOut_122 (n + 1) z1 z3 z4 z5 z6 z7 f = if pa_in z6 4 = true then
    if (f 114 z6.toNatClampNeg) < z7 then
    some (z4, f)
    else
    if pa_in z5 625 = true then
    if pa_in z5 625 = true then
    pn (((f 138 z5.toNatClampNeg) + ((z7 - (fn_X9_figure (f 138 z5.toNatClampNeg) z6)) * (fn_X9_worth z6)))) fun x30 =>
    if pa_in x30 625 = true then
    ob2 (bm z4 z5 x30 f) fun (y33 : Int32) (f34 : pd_M) =>
    pn (z7 + 1) fun x45 =>
    lp_X9_letOut_122 n z1 z3 y33 z5 z6 x45 f34
    else none
    else none
    else none
    else none := rfl
theorem Rl_Td {f e c d : pd_M} {n : Nat} (hT : Td f) (hW : We f) (hE : Td e) (hv : vw e = vw f) (R : Rl f e n c d) : Td c ∧ vw c = vw f ∧ We c ∧ Td d ∧ vw d = vw f := by
  have h1 : FrT f c := ⟨R.1 110 12 (by omega) (by omega) (by omega), fun a k q => R.1 a k (by omega) (by omega) (by omega)⟩
  have h2 : FrT e d := ⟨R.2.1 110 12 (by omega) (by omega), fun a k q => R.2.1 a k (by omega) (by omega)⟩
  exact ⟨Td_fr h1 hT, vw_fr h1, fun s hs => by rw [R.1 2 s (by omega) (by omega) (by omega), hW s hs], Td_fr h2 hE, (vw_fr h2).trans hv⟩
theorem m2_ne : ((-2 : Int32) = -1) = False := eq_false (by decide)
theorem bf_step {f e c d : pd_M} {n k h0 t h : Nat} (hT : Td f) (hW : We f) (hE : Td e) (hv : vw e = vw f) (R : Rl f e n c d) (hk : k < n) (h1 : c 108 k = nI h0) (h2 : c 107 h0 = nI t) (ht : t ≤ k) (h0v : h0 < 625) (hh : sHo (vw f) h) :
    ∃ n' c' d', fn_X1_reach (nI h) (nI t + 1) c = some c' ∧ bm (nI n) (nI k) (nI h) d = some (nI n', d') ∧ Rl f e n' c' d' ∧ n ≤ n' ∧ c' 108 k = nI h0 ∧ c' 107 h0 = nI t := by
  obtain ⟨tc, vc, wc, td, vd⟩ := Rl_Td hT hW hE hv R
  have hn0 := hT.1.2.2
  have hl := c_least tc wc (h := h) (by rw [vc]; exact hh)
  have hm := m_red td (h := h) (by rw [vd]; exact hh)
  rw [vc] at hl
  rw [vd] at hm
  have hle := ff_le (sRd (vw f) h) (vw f 0 0) 0
  have hlt : sRed (vw f) h < 2 ^ 31 := by unfold sRed; omega
  obtain ⟨R1, R2, ⟨R3, R4⟩, q, R5, R6, R7⟩ := id R
  have hh1 := hh.1
  obtain ⟨k1, k2, -, -, t2, k3, k4, k5⟩ := R5 k hk
  have ek : q k = h0 := (nI_eq (by have := (R5 k hk).2.2.1.1; omega) (by omega)).mp (k1.symm.trans h1)
  rw [ek] at k2 k4 k5
  have et : t2 = t := (nI_eq (by omega) (by omega)).mp (k4.symm.trans h2)
  subst et
  rcases R7 h hh1 with ⟨i, hi, rfl⟩ | ⟨d1, c1 | ⟨c1, hr⟩⟩
  · obtain ⟨-, -, -, -, t', j1, j2, j3⟩ := R5 i hi
    refine ⟨n, c, d, ?_, ?_, R, Nat.le_refl n, h1, h2⟩
    · unfold fn_X1_reach
      simp (disch := omega) only [zp, nI_clamp, j2, zk, if_true, if_false, ↓reduceIte, Bool.false_eq_true, reduceCtorEq]
    · unfold bm
      simp (disch := omega) only [nI_clamp, j3, zj, if_true, if_false, ↓reduceIte, Bool.false_eq_true, reduceCtorEq]
  · by_cases hg : sRed (vw f) h = vw f 0 0
    · have hnew : ∀ i, i < n → q i ≠ h := by
        intro i hi e
        obtain ⟨-, -, -, -, t', j1, j2, j3⟩ := R5 i hi
        rw [e, d1] at j3
        have := zj (i := t') (by omega)
        rw [← j3] at this
        exact absurd rfl (of_eq_false this)
      have hn : n < 625 := by
        have := fb_holes 625 (n + 1) (fun i => if i < n then q i else h) (fun i hi => by
          show (if i < n then q i else h) < 625
          by_cases e : i < n
          · rw [if_pos e]; exact (R5 i e).2.2.1.1
          · rw [if_neg e]; exact hh1) (fun i j hij hj => by
          show (if i < n then q i else h) ≠ (if j < n then q j else h)
          rw [if_pos (show i < n by omega)]
          by_cases e : j < n
          · rw [if_pos e]; exact R6 i j hij e
          · rw [if_neg e]; exact hnew i (by omega))
        omega
      have hne : h0 ≠ h := fun e => hnew k hk (ek.trans e)
      refine ⟨n + 1, pi_up (pi_up (pi_up c 107 h (nI t2 + 1)) 108 n (nI h)) 106 3 (nI (n + 1)), pi_up (pi_up d 137 h (nI t2 + 1)) 138 n (nI h), ?_, ?_, ⟨?_, ?_, ⟨?_, by omega⟩, fun i => if i = n then h else q i, ?_, ?_, ?_⟩, by omega, ?_, ?_⟩
      · unfold fn_X1_reach
        simp (disch := omega) only [zp, nI_clamp, c1, hl, hg, ob1, R3, l625, lt_, hn, pn, pu_n, pu_s, nI_1, if_true, if_false, ↓reduceIte, Bool.false_eq_true, reduceCtorEq]
      · unfold bm
        simp (disch := omega) only [zp, nI_clamp, d1, hm, hg, ob1, k2, k5, pn, nI_1, if_true, if_false, ↓reduceIte, Bool.false_eq_true, reduceCtorEq]
      · intro a j a1 a2 a3
        simp (disch := omega) only [pu_n]
        exact R1 a j a1 a2 a3
      · intro a j a1 a2
        simp (disch := omega) only [pu_n]
        exact R2 a j a1 a2
      · simp (disch := omega) only [pu_s]
      · intro i hi
        by_cases e : i = n
        · subst e
          simp only [if_true]
          refine ⟨?_, ?_, hh, hg, t2 + 1, by omega, ?_, ?_⟩
          · simp (disch := omega) only [pu_n, pu_s]
          · simp (disch := omega) only [pu_n, pu_s]
          · simp (disch := omega) only [pu_n, pu_s, nI_1]
          · simp (disch := omega) only [pu_n, pu_s, nI_1]
        · simp only [e, if_false]
          obtain ⟨r1, r2, r3, r4, t', r5, r6, r7⟩ := R5 i (by omega)
          have hqi := hnew i (by omega)
          refine ⟨?_, ?_, r3, r4, t', r5, ?_, ?_⟩
          · simp (disch := omega) only [pu_n]; exact r1
          · simp (disch := omega) only [pu_n]; exact r2
          · simp (disch := omega) only [pu_n]; exact r6
          · simp (disch := omega) only [pu_n]; exact r7
      · intro i j hij hj
        show (if i = n then h else q i) ≠ (if j = n then h else q j)
        rw [if_neg (show ¬ i = n by omega)]
        by_cases e : j = n
        · rw [if_pos e]; exact hnew i (by omega)
        · rw [if_neg e]; exact R6 i j hij (by omega)
      · intro x hx
        by_cases e : x = h
        · exact Or.inl ⟨n, by omega, by rw [e]; exact if_pos rfl⟩
        · rcases R7 x hx with ⟨i, hi, r⟩ | r
          · exact Or.inl ⟨i, by omega, by rw [← r]; exact if_neg (by omega)⟩
          · refine Or.inr ?_
            simp (disch := omega) only [pu_n]
            exact r
      · simp (disch := omega) only [pu_n]; exact h1
      · simp (disch := omega) only [pu_n]; exact h2
    · have hne : h0 ≠ h := by
        intro e
        have := (R5 k hk).2.2.2.1
        rw [ek, e] at this
        exact hg this
      refine ⟨n, pi_up c 107 h (-2), d, ?_, ?_, ⟨?_, R2, ⟨?_, R4⟩, q, ?_, R6, ?_⟩, Nat.le_refl n, ?_, ?_⟩
      · unfold fn_X1_reach
        simp (disch := omega) only [zp, nI_clamp, c1, hl, hg, ob1, zj, pn, if_true, if_false, ↓reduceIte, Bool.false_eq_true, reduceCtorEq]
      · unfold bm
        simp (disch := omega) only [zp, nI_clamp, d1, hm, hg, ob1, zj, pn, if_true, if_false, ↓reduceIte, Bool.false_eq_true, reduceCtorEq]
      · intro a j a1 a2 a3
        simp (disch := omega) only [pu_n]
        exact R1 a j a1 a2 a3
      · simp (disch := omega) only [pu_n]; exact R3
      · intro i hi
        obtain ⟨r1, r2, r3, r4, t', r5, r6, r7⟩ := R5 i hi
        have hqi : q i ≠ h := fun e => hg (by rw [← e]; exact r4)
        refine ⟨?_, r2, r3, r4, t', r5, ?_, r7⟩
        · simp (disch := omega) only [pu_n]; exact r1
        · simp (disch := omega) only [pu_n]; exact r6
      · intro x hx
        by_cases e : x = h
        · subst e
          exact Or.inr ⟨d1, Or.inr ⟨pu_s, hg⟩⟩
        · rcases R7 x hx with r | r
          · exact Or.inl r
          · refine Or.inr ?_
            simp (disch := omega) only [pu_n]
            exact r
      · simp (disch := omega) only [pu_n]; exact h1
      · simp (disch := omega) only [pu_n]; exact h2
  · refine ⟨n, c, d, ?_, ?_, R, Nat.le_refl n, h1, h2⟩
    · unfold fn_X1_reach
      simp (disch := omega) only [zp, nI_clamp, c1, m2_ne, if_true, if_false, ↓reduceIte, Bool.false_eq_true, reduceCtorEq]
    · have hg : ¬ sRed (vw f) h = vw f 0 0 := hr
      unfold bm
      simp (disch := omega) only [nI_clamp, d1, hm, hg, ob1, zj, if_true, if_false, ↓reduceIte, Bool.false_eq_true, reduceCtorEq]
theorem bf_in {f e : pd_M} {k h0 t s : Nat} (z1 z3 : Int32) (hT : Td f) (hW : We f) (hE : Td e) (hv : vw e = vw f) (ht : t ≤ k) (h0v : sHo (vw f) h0) (hs : s < 4) :
    ∀ (r n1 n2 p n : Nat) (c d : pd_M), p + r = vw f 114 s + 1 → r < n1 → r < n2 → Rl f e n c d → k < n → c 108 k = nI h0 → c 107 h0 = nI t →
    ∃ n' c' d', lp_X1_spread_25 n1 (nI h0) (nI s) (nI (h0 - fig h0 s * 5 ^ s)) (nI p) c = some c' ∧ lp_X9_letOut_122 n2 z1 z3 (nI n) (nI k) (nI s) (nI p) d = some (nI n', d') ∧ Rl f e n' c' d' ∧ n ≤ n' ∧ c' 108 k = nI h0 ∧ c' 107 h0 = nI t := by
  have hs4 := (hT.2.1 s hs).2.2
  have h00 := h0v.1
  intro r
  induction r with
  | zero =>
    intro n1 n2 p n c d hp hn1 hn2 R hk h1 h2
    obtain ⟨n1, rfl⟩ : ∃ k, n1 = k + 1 := ⟨n1 - 1, by omega⟩
    obtain ⟨n2, rfl⟩ : ∃ k, n2 = k + 1 := ⟨n2 - 1, by omega⟩
    obtain ⟨tc, vc, wc, td, vd⟩ := Rl_Td hT hW hE hv R
    have e1 := (tc.2.1 s hs).2.1
    have e2 := (td.2.1 s hs).1
    rw [vc] at e1
    rw [vd] at e2
    refine ⟨n, c, d, ?_, ?_, R, Nat.le_refl n, h1, h2⟩
    · simp (disch := omega) only [lp_X1_spread_25, zp, nI_clamp, e1, lt_, show vw f 114 s < p by omega, if_true, if_false, ↓reduceIte, Bool.false_eq_true, reduceCtorEq]
    · simp (disch := omega) only [lp122_eq, zp, nI_clamp, e2, lt_, show vw f 114 s < p by omega, if_true, if_false, ↓reduceIte, Bool.false_eq_true, reduceCtorEq]
  | succ r ih =>
    intro n1 n2 p n c d hp hn1 hn2 R hk h1 h2
    obtain ⟨n1, rfl⟩ : ∃ k, n1 = k + 1 := ⟨n1 - 1, by omega⟩
    obtain ⟨n2, rfl⟩ : ∃ k, n2 = k + 1 := ⟨n2 - 1, by omega⟩
    obtain ⟨tc, vc, wc, td, vd⟩ := Rl_Td hT hW hE hv R
    have e1 := (tc.2.1 s hs).2.1
    have e2 := (td.2.1 s hs).1
    rw [vc] at e1
    rw [vd] at e2
    have h138 : d 138 k = nI h0 := by
      obtain ⟨-, -, -, q, R5, -⟩ := id R
      rw [(R5 k hk).2.1, ← (R5 k hk).1, h1]
    have hn625 := R.2.2.1.2
    have hx := nbr_ho hs h0v (p := p) (by omega) hs4
    have hx1 := hx.1
    obtain ⟨n', c', d', s1, s2, s3, s4, s5, s6⟩ := bf_step hT hW hE hv R hk h1 h2 ht h00 hx
    obtain ⟨n'', c'', d'', i1, i2, i3, i4, i5, i6⟩ := ih n1 n2 (p + 1) n' c' d' (by omega) (by omega) (by omega) s3 (by omega) s5 s6
    refine ⟨n'', c'', d'', ?_, ?_, i3, by omega, i5, i6⟩
    · simp (disch := omega) only [lp_X1_spread_25, zp, nI_clamp, e1, lt_, wc s hs, nbr_c hs, h2, s1, ob1, pn, nI_1, i1, show ¬ vw f 114 s < p by omega, if_true, if_false, ↓reduceIte, Bool.false_eq_true, reduceCtorEq]
      rw [nI_1] at s1
      simp only [s1, i1]
    · simp (disch := omega) only [lp122_eq, zp, nI_clamp, e2, lt_, h138, m_figure h00 hs, m_worth hs, nbr_m hs, pn, s2, ob2, nI_1, i2, show ¬ vw f 114 s < p by omega, if_true, if_false, ↓reduceIte, Bool.false_eq_true, reduceCtorEq]
theorem bf_mid {f e : pd_M} {k h0 t : Nat} (z1 z3 : Int32) (hT : Td f) (hW : We f) (hE : Td e) (hv : vw e = vw f) (ht : t ≤ k) (h0v : sHo (vw f) h0) :
    ∀ (r n1 n2 s n : Nat) (c d : pd_M), s + r = 4 → r < n1 → r < n2 → Rl f e n c d → k < n → c 108 k = nI h0 → c 107 h0 = nI t →
    ∃ n' c' d', lp_X1_spread_2 n1 (nI h0) (nI s) c = some c' ∧ lp_X9_letOut_113 n2 z1 z3 (nI n) (nI k) (nI s) d = some (nI n', d') ∧ Rl f e n' c' d' ∧ n ≤ n' := by
  intro r
  induction r with
  | zero =>
    intro n1 n2 s n c d hs hn1 hn2 R hk h1 h2
    obtain ⟨n1, rfl⟩ : ∃ k, n1 = k + 1 := ⟨n1 - 1, by omega⟩
    obtain ⟨n2, rfl⟩ : ∃ k, n2 = k + 1 := ⟨n2 - 1, by omega⟩
    have : s = 4 := by omega
    subst this
    refine ⟨n, c, d, ?_, ?_, R, Nat.le_refl n⟩
    · simp (disch := omega) only [lp_X1_spread_2, l4, ly, Nat.le_refl, if_true, if_false, ↓reduceIte, Bool.false_eq_true, reduceCtorEq]
    · simp (disch := omega) only [lp_X9_letOut_113, l4, ly, Nat.le_refl, if_true, if_false, ↓reduceIte, Bool.false_eq_true, reduceCtorEq]
  | succ r ih =>
    intro n1 n2 s n c d hs hn1 hn2 R hk h1 h2
    obtain ⟨n1, rfl⟩ : ∃ k, n1 = k + 1 := ⟨n1 - 1, by omega⟩
    obtain ⟨n2, rfl⟩ : ∃ k, n2 = k + 1 := ⟨n2 - 1, by omega⟩
    have h00 := h0v.1
    have hs4 := (hT.2.1 s (by omega)).2.2
    obtain ⟨tc, vc, wc, td, vd⟩ := Rl_Td hT hW hE hv R
    obtain ⟨n', c', d', s1, s2, s3, s4, s5, s6⟩ := bf_in z1 z3 hT hW hE hv ht h0v (show s < 4 by omega) (vw f 114 s + 1) 5000 5000 0 n c d (by omega) (by omega) (by omega) R hk h1 h2
    obtain ⟨n'', c'', d'', i1, i2, i3, i4⟩ := ih n1 n2 (s + 1) n' c' d' (by omega) (by omega) (by omega) s3 (by omega) s5 s6
    rw [show nI 0 = (0 : Int32) from rfl] at s1 s2
    refine ⟨n'', c'', d'', ?_, ?_, i3, by omega⟩
    · simp (disch := omega) only [lp_X1_spread_2, l4, ly, c_standing wc h00, ob1, zp, nI_clamp, wc s (by omega), pk_mul, pk_sub (fig_sub (show s < 4 by omega)), pn, s1, nI_1, i1, show ¬ 4 ≤ s by omega, if_true, if_false, ↓reduceIte, Bool.false_eq_true, reduceCtorEq]
    · simp (disch := omega) only [lp_X9_letOut_113, l4, ly, ob2, s2, pn, nI_1, i2, show ¬ 4 ≤ s by omega, if_true, if_false, ↓reduceIte, Bool.false_eq_true, reduceCtorEq]
theorem bf_out {f e : pd_M} (z1 z3 : Int32) (hT : Td f) (hW : We f) (hE : Td e) (hv : vw e = vw f) :
    ∀ (r n1 n2 k n : Nat) (c d : pd_M), k + r = 625 → r < n1 → r < n2 → Rl f e n c d → k ≤ n →
    ∃ n' c' d', lp_X1_measureWaysTo_35 n1 (nI k) c = some c' ∧ lp_X9_letOut_103 n2 z1 z3 (nI n) (nI k) d = some d' ∧ Rl f e n' c' d' := by
  intro r
  induction r with
  | zero =>
    intro n1 n2 k n c d hk hn1 hn2 R hkn
    obtain ⟨n1, rfl⟩ : ∃ k, n1 = k + 1 := ⟨n1 - 1, by omega⟩
    obtain ⟨n2, rfl⟩ : ∃ k, n2 = k + 1 := ⟨n2 - 1, by omega⟩
    have hn625 := R.2.2.1.2
    have : k = 625 := by omega
    subst this
    refine ⟨n, c, d, ?_, ?_, R⟩
    · simp (disch := omega) only [lp_X1_measureWaysTo_35, l625, ly, Nat.le_refl, if_true, if_false, ↓reduceIte, Bool.false_eq_true, reduceCtorEq]
    · simp (disch := omega) only [lp_X9_letOut_103, ly, show n ≤ 625 by omega, if_true, if_false, ↓reduceIte, Bool.false_eq_true, reduceCtorEq]
  | succ r ih =>
    intro n1 n2 k n c d hk hn1 hn2 R hkn
    obtain ⟨n1, rfl⟩ : ∃ k, n1 = k + 1 := ⟨n1 - 1, by omega⟩
    obtain ⟨n2, rfl⟩ : ∃ k, n2 = k + 1 := ⟨n2 - 1, by omega⟩
    have hn625 := R.2.2.1.2
    have e3 := R.2.2.1.1
    by_cases hq : n ≤ k
    · refine ⟨n, c, d, ?_, ?_, R⟩
      · simp (disch := omega) only [lp_X1_measureWaysTo_35, l625, ly, e3, hq, show ¬ 625 ≤ k by omega, if_true, if_false, ↓reduceIte, Bool.false_eq_true, reduceCtorEq]
      · simp (disch := omega) only [lp_X9_letOut_103, ly, hq, if_true, if_false, ↓reduceIte, Bool.false_eq_true, reduceCtorEq]
    · obtain ⟨-, -, -, q, R5, -⟩ := id R
      obtain ⟨k1, k2, k3, -, t, k4, k5, -⟩ := R5 k (by omega)
      obtain ⟨n', c', d', s1, s2, s3, s4⟩ := bf_mid z1 z3 hT hW hE hv k4 k3 4 5000 5000 0 n c d (by omega) (by omega) (by omega) R (by omega) k1 k5
      obtain ⟨n'', c'', d'', i1, i2, i3⟩ := ih n1 n2 (k + 1) n' c' d' (by omega) (by omega) (by omega) s3 (by omega)
      rw [show nI 0 = (0 : Int32) from rfl] at s1 s2
      refine ⟨n'', c'', d'', ?_, ?_, i3⟩
      · simp (disch := omega) only [lp_X1_measureWaysTo_35, l625, ly, e3, hq, zp, nI_clamp, k1, fn_X1_spread, s1, ob1, pn, nI_1, i1, show ¬ 625 ≤ k by omega, if_true, if_false, ↓reduceIte, Bool.false_eq_true, reduceCtorEq]
      · simp (disch := omega) only [lp_X9_letOut_103, ly, hq, s2, ob2, pn, nI_1, i2, if_true, if_false, ↓reduceIte, Bool.false_eq_true, reduceCtorEq]
