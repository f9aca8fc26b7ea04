/-! PURE: allows -/
theorem en_or : ∀ a, a < 7 → ∀ b, b < 7 → ∀ c, c < 7 → ∀ d, d < 7 → ((2 ^ a ||| 2 ^ (7 + b)) ||| 2 ^ (14 + c)) ||| 2 ^ (21 + d) = pk4 (2 ^ a) (2 ^ b) (2 ^ c) (2 ^ d) := by decide +kernel
theorem l_answerOf {f : pd_M} {a : Nat} (ha : a < 2401) (n : Nat) : lp_X8_answerOf_16 (n + 5) (nI 0) (nI a) (nI 0) f = some (nI (en a)) := by
  have r7 : ∀ k : Nat, nI k - nI (k / 7 * 7) = nI (k % 7) := fun k => by
    rw [pk_sub (by omega)]
    congr 1
    omega
  have d7 : ∀ k : Nat, k < 2 ^ 31 → nI k / nI 7 = nI (k / 7) := fun k hk => pk_div (d := 7) hk (by decide) (by decide)
  have h1 : a / 7 ≤ a := Nat.div_le_self _ _
  have h2 : a / 7 / 7 ≤ a / 7 := Nat.div_le_self _ _
  have h3 : a / 7 / 7 / 7 ≤ a / 7 / 7 := Nat.div_le_self _ _
  have q0 := dg_lt a 0
  have q1 := dg_lt a 1
  have q2 := dg_lt a 2
  have q3 := dg_lt a 3
  unfold en
  rw [if_neg (by omega), ← en_or _ q0 _ q1 _ q2 _ q3]
  unfold dg at *
  rw [show a / 7 ^ 0 % 7 = a % 7 by rw [Nat.pow_zero, Nat.div_one], show a / 7 ^ 1 % 7 = a / 7 % 7 by rw [Nat.pow_one], show a / 7 ^ 2 % 7 = a / 7 / 7 % 7 by rw [Nat.div_div_eq_div_mul], show a / 7 ^ 3 % 7 = a / 7 / 7 / 7 % 7 by rw [Nat.div_div_eq_div_mul, Nat.div_div_eq_div_mul]] at *
  simp only [lp_X8_answerOf_16, pn]
  simp (disch := omega) only [r7, d7, l4, ly, nI_1, l7, pk_mul, nI_add, q_1shl, fa_or, Nat.zero_or, Nat.reduceMul, Nat.reduceAdd, Nat.reduceLeDiff, Nat.mul_zero, Nat.zero_add, if_true, if_false, ↓reduceIte, Bool.false_eq_true, reduceCtorEq]
theorem c_answerOf {f : pd_M} {a : Nat} (ha : a < 2402) : fn_X8_answerOf (nI a) f = some (nI (en a)) := by
  unfold fn_X8_answerOf
  by_cases h : a = 2401
  · subst h
    rfl
  · have e : lp_X8_answerOf_16 5000 0 (nI a) 0 f = some (nI (en a)) := l_answerOf (by omega) 4995
    have e2 : ¬ nI a = 2401 := fun z => h ((nI_eq (b := 2401) (by omega) (by decide)).mp z)
    rw [if_neg e2, e]
    rfl
def sAl (M : Nat → Nat → Nat) (s : Nat) (X : Nat → Int32) : Nat → Nat → Nat → Option Nat
  | 0, _, c => some c
  | r + 1, k, c => if 0 ≤ (X k).toInt ∧ (X k).toInt < (2402 : Nat) then sAl M s X r (k + 1) (c + if sWr M s (X k).toNatClampNeg = 9 then 1 else 0) else none
theorem lc_allows {f : pd_M} {s h i m : Nat} (hs : s < 20) (hy : Sy f s) (hh : h < 8) (him : i + m ≤ 40) : ∀ (r n k c : Nat), k + r = i + m → i ≤ k → c ≤ k → r < n → lp_X8_allows_81 n (nI s) (nI i) (nI m) (19 + 2 * h) (nI c) (nI k) f = match sAl (vw f) s (f (20 + 2 * h)) r k c with | some c => some (.inr (nI c)) | none => some (.inl (-1000001, f)) := by
  have k1 := arr_sh_18 hh
  have hF := Sy_Fo hy
  obtain ⟨w0, w1⟩ := hy.2.2.2.2.2.2.2.2.2
  intro r
  induction r with
  | zero =>
    intro n k c hk h2 h3 hn
    obtain ⟨n, rfl⟩ : ∃ k, n = k + 1 := ⟨n - 1, by omega⟩
    simp (disch := omega) only [lp_X8_allows_81, k1, nI_add, ly, show i + m ≤ k by omega, sAl, if_true, if_false, ↓reduceIte, Bool.false_eq_true, reduceCtorEq]
  | succ r ih =>
    intro n k c hk h2 h3 hn
    obtain ⟨n, rfl⟩ : ∃ k, n = k + 1 := ⟨n - 1, by omega⟩
    have ih := ih n
    simp (disch := omega) only [lp_X8_allows_81, k1, nI_add, ly, show ¬ i + m ≤ k by omega, sAl, zp, nI_clamp, show 19 + 2 * h + 1 = 20 + 2 * h by omega, if_true, if_false, ↓reduceIte, Bool.false_eq_true, reduceCtorEq]
    rcases q_ix (f (20 + 2 * h) k) (n := 2402) (by decide) with q | ⟨x, hx, e⟩
    · have e1 : fn_X8_isBelow (f (20 + 2 * h) k) 2402 = 0 := qB_out (n := 2402) (by decide) q
      rw [if_pos e1, if_neg q]
    · have e1 : fn_X8_isBelow (nI x) 2402 = 1 := qB_in (n := 2402) hx (by decide)
      have hW := q_within (a := en x) (b := al (vw f) s) (by have := en_lt x; omega)
      have hX := en_al hF x
      have hc : (0 : Int) ≤ (nI x).toInt ∧ (nI x).toInt < (2402 : Nat) := by rw [nI_toInt (by omega)]; omega
      simp only [e, e1, o10, if_false, c_answerOf hx, ob1, w1, hW, pn, hc, and_self, if_true, nI_clamp (show x < 2 ^ 31 by omega), nI_1]
      by_cases h9 : sWr (vw f) s x = 9
      · simp only [hX.mpr h9, h9, if_true, o10, if_false]
        exact ih (k + 1) (c + 1) (by omega) (by omega) (by omega) (by omega)
      · simp only [mt hX.mp h9, h9, if_false, if_true]
        exact ih (k + 1) c (by omega) (by omega) (by omega) (by omega)
theorem wI9 {x : Nat} (h : x < 10) : (wI x = -1000000) = (x = 9) := by
  unfold wI
  by_cases e : x = 9
  · simp [e]
  · simp only [e, if_false]
    rw [zj (by omega)]
theorem lm_allows {f : pd_M} {s h i m : Nat} (hs : s < 20) (hy : Sy f s) (hh : h < 8) (him : i + m ≤ 40) (X : Nat → Int32) (hX : ∀ k, k < 40 → f 113 (40 * h + k) = X k) : ∀ (r n k c : Nat), k + r = i + m → i ≤ k → c ≤ k → r < n → lp_X9_allows_89 n (nI s) (nI h) (nI i) (nI m) (nI c) (nI (40 * h + k)) f = match sAl (vw f) s X r k c with | some c => some (.inr (nI c)) | none => some (.inl (-1000001, f)) := by
  intro r
  induction r with
  | zero =>
    intro n k c hk h2 h3 hn
    obtain ⟨n, rfl⟩ : ∃ k, n = k + 1 := ⟨n - 1, by omega⟩
    simp (disch := omega) only [lp_X9_allows_89, l40, pk_mul, nI_add, ly, show 40 * h + i + m ≤ 40 * h + k by omega, sAl, if_true, if_false, ↓reduceIte, Bool.false_eq_true, reduceCtorEq]
  | succ r ih =>
    intro n k c hk h2 h3 hn
    obtain ⟨n, rfl⟩ : ∃ k, n = k + 1 := ⟨n - 1, by omega⟩
    have ih := ih n
    simp (disch := omega) only [lp_X9_allows_89, l40, pk_mul, nI_add, ly, show ¬ 40 * h + i + m ≤ 40 * h + k by omega, sAl, zp, nI_clamp, hX k (by omega), if_true, if_false, ↓reduceIte, Bool.false_eq_true, reduceCtorEq]
    rcases q_ix (X k) (n := 2402) (by decide) with q | ⟨x, hx, e⟩
    · have e1 : fn_X9_in (X k).toInt64 0 2401 = 0 := qI_out (lo := 0) (hi := 2401) (by decide) (by decide) (by omega)
      rw [if_pos e1, if_neg q]
    · have e1 : fn_X9_in (nI x).toInt64 0 2401 = 1 := qI_in (lo := 0) (hi := 2401) (by omega) (by omega) (by decide)
      have hc : (0 : Int) ≤ (nI x).toInt ∧ (nI x).toInt < (2402 : Nat) := by rw [nI_toInt (by omega)]; omega
      simp only [e, e1, o10, if_false, m_wrongIn hs hy hx, wI9 (sWr_lt (vw f) s x), ob1, pn, hc, and_self, if_true, nI_clamp (show x < 2 ^ 31 by omega), nI_1, show 40 * h + k + 1 = 40 * h + (k + 1) by omega]
      by_cases h9 : sWr (vw f) s x = 9
      · simp only [h9, if_true, nI_1]
        exact ih (k + 1) (c + 1) (by omega) (by omega) (by omega) (by omega)
      · simp only [h9, if_false, show nI c + 0 = nI c from nI_add c 0]
        exact ih (k + 1) c (by omega) (by omega) (by omega) (by omega)
theorem q_cmpn {a b c : Int32} (h : 0 ≤ a.toInt) (h2 : 0 ≤ b.toInt) : (lg_cmp (a.toInt64 + b.toInt64) c.toInt64 ≤ 0) = (a.toInt + b.toInt ≤ c.toInt) := by
  have ra := Int32.toInt_lt a
  have rb := Int32.toInt_lt b
  have e : (a.toInt64 + b.toInt64).toInt = a.toInt + b.toInt := by
    rw [Int64.toInt_add, q_l, q_l]
    rw [Int.bmod_eq_of_le (by omega) (by omega)]
  refine propext ?_
  rw [(q_cmp _ _).2.2, e, q_l]
theorem q_cmpp {a b c : Int32} (h : 0 ≤ a.toInt) (h2 : 0 ≤ b.toInt) : (0 < lg_cmp (a.toInt64 + b.toInt64) c.toInt64) = (c.toInt < a.toInt + b.toInt) := by
  have ra := Int32.toInt_lt a
  have rb := Int32.toInt_lt b
  have e : (a.toInt64 + b.toInt64).toInt = a.toInt + b.toInt := by
    rw [Int64.toInt_add, q_l, q_l]
    rw [Int.bmod_eq_of_le (by omega) (by omega)]
  refine propext ?_
  rw [(q_cmp _ _).2.1, e, q_l]
/-- a stretch of a row: on both sides -/
theorem c_reaches {f : pd_M} {a n : Nat} (ha : sk a = (15, 4)) (hs : f a 3 = nI n) (hn : n ≤ 40) (i m : Int32) : fn_X5_reaches a i m f = some (if 0 ≤ i.toInt ∧ 0 ≤ m.toInt ∧ i.toInt + m.toInt ≤ n then 1 else 0) := by
  have z0 : (0 : Int32).toInt = 0 := by decide
  have e3 : (nI n).toInt = n := nI_toInt (by omega)
  unfold fn_X5_reaches
  simp only [ha, hs, if_true]
  by_cases h1 : i < 0
  · rw [if_pos h1, if_neg]
    rw [q_lt, z0] at h1; omega
  · rw [if_neg h1]
    rw [q_lt, z0] at h1
    by_cases h2 : m < 0
    · rw [if_pos h2, if_neg]
      rw [q_lt, z0] at h2; omega
    · rw [if_neg h2]
      rw [q_lt, z0] at h2
      by_cases h3 : nI n < i
      · rw [if_pos h3, if_neg]
        rw [q_lt, e3] at h3; omega
      · rw [if_neg h3]
        rw [q_lt, e3] at h3
        have e4 : (nI n - i).toInt = n - i.toInt := by
          rw [Int32.toInt_sub, e3, Int.bmod_eq_of_le (by omega) (by omega)]
        by_cases h4 : nI n - i < m
        · rw [if_pos h4, if_neg]
          rw [q_lt, e4] at h4; omega
        · rw [if_neg h4, if_pos]
          rw [q_lt, e4] at h4; omega
theorem nI_of3 {p : Int32} {n : Nat} (h : 0 ≤ p.toInt) (h2 : p.toInt ≤ n) (hn : n < 2 ^ 30) : ∃ j : Nat, j ≤ n ∧ p = nI j := by
  rcases q_ix p (n := n + 1) (by omega) with q | ⟨j, hj, e⟩
  · exact absurd ⟨h, by omega⟩ q
  · exact ⟨j, by omega, e⟩
def FrX (f g : pd_M) : Prop := (g 17 8 = g 110 1) ∧ ∀ a k, ¬ (a = 17 ∧ k = 8) → ¬ (a = 110 ∧ k ≤ 1) → g a k = f a k
def OpX (x : pd_M → Option (Int32 × pd_M)) (y : pd_M → Option (Int32 × pd_M)) (f : pd_M) : Prop := ∃ r f1 f2, x f = some (r, f1) ∧ y f1 = some (r, f2) ∧ FrX f f2
theorem FrX_bad {f : pd_M} (h : SFi f) : FrX f (pi_up f 110 0 0) := by
  refine ⟨?_, fun a k h1 h2 => pu_n (by omega)⟩
  simp (disch := omega) only [pu_n]
  exact h
theorem FrX_k (f : pd_M) (k : Int32) : FrX f (pi_up (pi_up (pi_up f 17 8 k) 110 0 0) 110 1 k) := by
  refine ⟨?_, fun a k h1 h2 => ?_⟩
  · simp (disch := omega) only [pu_n, pu_s]
  · simp (disch := omega) only [pu_n]
theorem FrX_k0 (f : pd_M) (k : Int32) : FrX f (pi_up (pi_up (pi_up (pi_up f 17 8 k) 110 0 0) 110 1 0) 110 1 k) := by
  refine ⟨?_, fun a k h1 h2 => ?_⟩
  · simp (disch := omega) only [pu_n, pu_s]
  · simp (disch := omega) only [pu_n]
theorem Td_x {f g : pd_M} (hg : ∀ a k, ¬ (a = 17 ∧ k = 8) → ¬ (a = 110 ∧ k ≤ 1) → g a k = f a k) (hT : Td f) : Td g ∧ vw g = vw f := by
  have h : FrT f g := ⟨hg 110 12 (by omega) (by omega), fun a k q => hg a k (by omega) (by omega)⟩
  exact ⟨Td_fr h hT, vw_fr h⟩
theorem op_allows {f : pd_M} (hT : Td f) (hS : SSh f) (hF : SFi f) (p h i m : Int32) : OpX (fn_X8_allows p h i m) (fn_X9_allows p h i m) f := by
  have hz := FrT_zz f
  have hG := Td_fr hz hT
  have hn := hT.1.2.2
  have z0 : (0 : Int32).toInt = 0 := by decide
  rcases q_ix p (n := vw f 0 0) (by omega) with q | ⟨s, hs, rfl⟩
  · refine ⟨-1000001, f, pi_up f 110 0 0, ?_, ?_, FrX_bad hF⟩
    · simp [fn_X8_allows, has_out hT q, ob1]
    · simp [fn_X9_allows, pn, isa_out hG (by rw [vw_fr hz]; exact q), ob1]
  have i1 := has_in hT hs
  have i2 := isa_in hG (s := s) (by rw [vw_fr hz]; exact hs)
  have hy := hT.2.2.1 s hs
  rcases q_ix h (n := 8) (by decide) with q | ⟨h, hh, rfl⟩
  · have e1 : fn_X8_isBelow h 8 = 0 := qB_out (n := 8) (by decide) q
    refine ⟨-1000001, f, pi_up f 110 0 0, ?_, ?_, FrX_bad hF⟩
    · simp [fn_X8_allows, i1, ob1, e1]
    · simp [fn_X9_allows, pn, i2, qS_out q, ob1]
  have e1 : fn_X8_isBelow (nI h) 8 = 1 := qB_in (n := 8) hh (by decide)
  by_cases hm : 1 ≤ m.toInt ∧ m.toInt ≤ (20 : Nat)
  rotate_left
  · have e2 : fn_X9_in m.toInt64 1 20 = 0 := qI_out (lo := 1) (hi := 20) (by decide) (by decide) (by omega)
    refine ⟨-1000001, f, pi_up f 110 0 0, ?_, ?_, FrX_bad hF⟩
    · unfold fn_X8_allows
      simp only [i1, ob1, e1, o10, if_false]
      by_cases q : m < 1
      · rw [if_pos q]
      · rw [if_neg q, if_neg]
        intro q2
        rw [q_le, show (20 : Int32).toInt = 20 by decide] at q2
        rw [q_lt, show (1 : Int32).toInt = 1 by decide] at q
        omega
    · simp [fn_X9_allows, pn, i2, qS_in hh, ob1, e2]
  obtain ⟨m, hm2, rfl⟩ := nI_of3 (p := m) (by omega) hm.2 (by decide)
  have hm1 : 1 ≤ m := by have := hm.1; rw [nI_toInt (by omega)] at this; omega
  have e2 : fn_X9_in (nI m).toInt64 1 20 = 1 := qI_in (lo := 1) (hi := 20) (by omega) (by omega) (by decide)
  obtain ⟨hhere, ⟨sz, hsz, hsz1, hsz2⟩, hit⟩ := hS h hh
  rcases hhere with ⟨h1, h2, h3⟩ | ⟨h1, h3⟩
  rotate_left
  · have hl : ¬ 0 ≤ f 111 h := by rw [h3]; decide
    refine ⟨-1000011, pi_up f 17 8 1, _, ?_, ?_, FrX_k f 1⟩
    · unfold fn_X8_allows
      simp (disch := omega) only [i1, ob1, ob2, e1, o10, zg, l20, ly, zp, nI_clamp, h1, fn_X8_found, pn, show ¬ m = 0 by omega, hm2, if_true, if_false, ↓reduceIte, Bool.false_eq_true, reduceCtorEq]
      rfl
    · unfold fn_X9_allows
      have i3 := isa_in (Td_x (g := pi_up (pi_up f 17 8 1) 110 0 0) (fun a k q1 q2 => by simp (disch := omega) only [pu_n]) hT).1 (s := s) (by rw [(Td_x (g := pi_up (pi_up f 17 8 1) 110 0 0) (fun a k q1 q2 => by simp (disch := omega) only [pu_n]) hT).2]; exact hs)
      simp (disch := omega) only [pn, i3, qS_in hh, ob1, ob2, e2, o10, zp, nI_clamp, pu_n, hl, fn_X9_finding, if_true, if_false, ↓reduceIte, Bool.false_eq_true, reduceCtorEq]
      rfl
  · have hl : 0 ≤ f 111 h := by rw [h3]; rcases h2 with z | z | z <;> rw [z] <;> decide
    have hh0 : ¬ f (19 + 2 * h) 1 = 0 := by rw [h1]; decide
    have hr := c_reaches (f := f) (arr_sh_18 hh) hsz1 hsz i (nI m)
    rw [nI_toInt (show m < 2 ^ 31 by omega)] at hr
    by_cases hi : 0 ≤ i.toInt ∧ i.toInt + m ≤ sz
    · obtain ⟨i, hi2, rfl⟩ := nI_of3 (p := i) (n := 40) hi.1 (by omega) (by decide)
      have hi3 : i + m ≤ sz := by have := hi.2; rw [nI_toInt (by omega)] at this; omega
      rw [if_pos ⟨hi.1, by omega, hi.2⟩] at hr
      have hlc := lc_allows (f := f) (show s < 20 by omega) hy hh (i := i) (m := m) (by omega) m 5000 i 0 (by omega) (by omega) (by omega) (by omega)
      have hcls : fn_X8_allows (nI s) (nI h) (nI i) (nI m) f = match sAl (vw f) s (f (20 + 2 * h)) m i 0 with | some c => some (nI c, pi_up f 17 8 0) | none => some (-1000001, f) := by
        unfold fn_X8_allows
        rw [show nI 0 = (0 : Int32) from rfl] at hlc
        simp (disch := omega) only [i1, ob1, ob2, e1, o10, zg, l20, ly, zp, nI_clamp, hh0, hr, hlc, show ¬ m = 0 by omega, hm2, if_true, if_false, ↓reduceIte, Bool.false_eq_true, reduceCtorEq]
        cases sAl (vw f) s (f (20 + 2 * h)) m i 0 <;> rfl
      have hmod : ∀ g : pd_M, (∀ a k, ¬ (a = 17 ∧ k = 8) → ¬ (a = 110 ∧ k ≤ 1) → g a k = f a k) → fn_X9_allows (nI s) (nI h) (nI i) (nI m) g = match sAl (vw f) s (f (20 + 2 * h)) m i 0 with | some c => some (nI c, pi_up (pi_up g 110 0 0) 110 1 0) | none => some (-1000001, pi_up g 110 0 0) := by
        intro g hg
        have hg' : ∀ a k, ¬ (a = 17 ∧ k = 8) → ¬ (a = 110 ∧ k ≤ 1) → (pi_up g 110 0 0) a k = f a k := fun a k q1 q2 => by rw [pu_n (by omega), hg a k q1 q2]
        obtain ⟨t1, t2⟩ := Td_x hg' hT
        have i3 := isa_in t1 (s := s) (by rw [t2]; exact hs)
        have hlm := lm_allows (f := pi_up g 110 0 0) (show s < 20 by omega) (t1.2.2.1 s (by rw [t2]; exact hs)) hh (i := i) (m := m) (by omega) (f (20 + 2 * h)) (fun k hk => by rw [hg' 113 _ (by omega) (by omega), ← hit k hk]) m 5000 i 0 (by omega) (by omega) (by omega) (by omega)
        rw [t2, show nI 0 = (0 : Int32) from rfl] at hlm
        have hcm : (lg_cmp ((nI i).toInt64 + (nI m).toInt64) (nI sz).toInt64 ≤ 0) = True := by
          rw [q_cmpn (by rw [nI_toInt (by omega)]; omega) (by rw [nI_toInt (by omega)]; omega), nI_toInt (by omega), nI_toInt (by omega), nI_toInt (by omega)]
          exact eq_true (by omega)
        unfold fn_X9_allows
        simp (disch := omega) only [pn, i3, qS_in hh, ob1, e2, o10, zp, nI_clamp, hg' 111 h, hl, zb, hg' 112 h, hsz2, hcm, l40, pk_mul, nI_add, hlm, if_true, if_false, ↓reduceIte, Bool.false_eq_true, reduceCtorEq]
        cases sAl (vw f) s (f (20 + 2 * h)) m i 0 <;> rfl
      unfold OpX
      rw [hcls]
      cases hA : sAl (vw f) s (f (20 + 2 * h)) m i 0 with
      | none =>
        refine ⟨-1000001, f, pi_up f 110 0 0, rfl, ?_, FrX_bad hF⟩
        rw [hmod f (fun _ _ _ _ => rfl), hA]
      | some c =>
        refine ⟨nI c, _, _, rfl, ?_, FrX_k f 0⟩
        rw [hmod _ (fun a k q1 q2 => pu_n (by omega)), hA]
    · rw [if_neg (fun z => hi ⟨z.1, z.2.2⟩)] at hr
      refine ⟨-1000012, pi_up f 17 8 2, _, ?_, ?_, FrX_k f 2⟩
      · unfold fn_X8_allows
        simp (disch := omega) only [i1, ob1, ob2, e1, o10, zg, l20, ly, zp, nI_clamp, hh0, hr, fn_X8_found, pn, show ¬ m = 0 by omega, hm2, if_true, if_false, ↓reduceIte, Bool.false_eq_true, reduceCtorEq]
        rfl
      · have i3 := isa_in (Td_x (g := pi_up (pi_up f 17 8 2) 110 0 0) (fun a k q1 q2 => by simp (disch := omega) only [pu_n]) hT).1 (s := s) (by rw [(Td_x (g := pi_up (pi_up f 17 8 2) 110 0 0) (fun a k q1 q2 => by simp (disch := omega) only [pu_n]) hT).2]; exact hs)
        unfold fn_X9_allows
        simp (disch := omega) only [pn, i3, qS_in hh, ob1, ob2, e2, o10, zp, nI_clamp, pu_n, hl, hsz2, fn_X9_finding, if_true, if_false, ↓reduceIte, Bool.false_eq_true, reduceCtorEq]
        by_cases q : i < 0
        · rw [if_pos q]
          rfl
        · rw [if_neg q, if_neg]
          · rfl
          · rw [q_lt, z0] at q
            rw [q_cmpn (by omega) (by rw [nI_toInt (by omega)]; omega), nI_toInt (by omega), nI_toInt (by omega)]
            omega
