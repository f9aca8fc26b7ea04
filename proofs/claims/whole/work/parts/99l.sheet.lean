/-! PURE: set, copy, feed -/
def OpS (x : pd_M → Option (Int32 × pd_M)) (y : pd_M → Option (Int32 × pd_M)) (f : pd_M) : Prop := ∃ r f1 f2, x f = some (r, f1) ∧ y f1 = some (r, f2) ∧ SSh f2 ∧ SFi f2 ∧ FrS f f2
theorem SSh_n {f g : pd_M} (hS : SSh f) (h : ∀ a k, a ≠ 17 → a ≠ 110 → g a k = f a k) : SSh g := fun i hi => Sh1_congr (fun k => h _ k (by omega) (by omega)) (fun k _ => h _ k (by omega) (by omega)) (h _ _ (by omega) (by omega)) (h _ _ (by omega) (by omega)) (fun k _ => h _ _ (by omega) (by omega)) (hS i hi)
theorem OpS_bad {x y : pd_M → Option (Int32 × pd_M)} {f : pd_M} (hS : SSh f) (hF : SFi f) {r : Int32} (h1 : x f = some (r, f)) (h2 : y f = some (r, pi_up f 110 0 0)) : OpS x y f := by
  refine ⟨r, f, _, h1, h2, SSh_n hS (fun a k q1 q2 => pu_n (by omega)), ?_, fun a k q1 q2 => pu_n (by omega), fun k q1 q2 => pu_n (by omega), fun k q => pu_n (by omega)⟩
  unfold SFi
  rw [pu_n (by omega), pu_n (by omega)]
  exact hF
theorem OpS_f {x y : pd_M → Option (Int32 × pd_M)} {f : pd_M} (hS : SSh f) {r v : Int32} (h1 : x f = some (r, pi_up f 17 8 v)) (h2 : y (pi_up f 17 8 v) = some (r, pi_up (pi_up (pi_up (pi_up f 17 8 v) 110 0 0) 110 1 0) 110 1 v)) : OpS x y f := by
  refine ⟨r, _, _, h1, h2, SSh_n hS (fun a k q1 q2 => ?_), ?_, fun a k q1 q2 => ?_, fun k q1 q2 => ?_, fun k q => ?_⟩
  · simp (disch := omega) only [pu_n]
  · unfold SFi
    simp (disch := omega) only [pu_n, pu_s]
  · simp (disch := omega) only [pu_n]
  · simp (disch := omega) only [pu_n]
  · simp (disch := omega) only [pu_n]
theorem op_set {f : pd_M} (hS : SSh f) (hF : SFi f) (p i v : Int32) : OpS (fn_X8_set p i v) (fn_X9_set p i v) f := by
  rcases q_ix p (n := 8) (by decide) with h | ⟨j, hj, rfl⟩
  · have e1 : fn_X8_isBelow p 8 = 0 := qB_out (n := 8) (by decide) h
    exact OpS_bad hS hF (r := -1000001) (by simp [fn_X8_set, e1]) (by simp [fn_X9_set, pn, qS_out h, ob1])
  have e1 : fn_X8_isBelow (nI j) 8 = 1 := qB_in (n := 8) hj (by decide)
  have hp := qP_in hj (by decide)
  have hcl : (nI j).toNatClampNeg = j := nI_clamp (by omega)
  obtain ⟨hh, ⟨n, hn, hn1, hn2⟩, hit⟩ := hS j hj
  rcases hh with ⟨h1, h2, h3⟩ | ⟨h1, h3⟩
  rotate_left
  · have hl : ¬ 0 ≤ f 111 j := by rw [h3]; decide
    refine OpS_f hS (r := -1000011) (v := 1) ?_ ?_
    · simp (disch := omega) [fn_X8_set, e1, hp, hcl, h1, pn, fn_X8_found, ob2]
    · simp (disch := omega) [fn_X9_set, pn, qS_in hj, ob1, hp, hcl, pu_n, hl, fn_X9_finding, ob2]
  have hl : 0 ≤ f 111 j := by rw [h3]; rcases h2 with z | z | z <;> rw [z] <;> decide
  have h10 : ¬ f (19 + 2 * j) 1 = 0 := by rw [h1]; decide
  rcases q_ix i (n := n) (by omega) with hi | ⟨k, hk, rfl⟩
  · have e2 : fn_X8_isBelow i (nI n) = 0 := qB_out (by omega) hi
    have e3 : fn_X9_in i.toInt64 0 ((nI n - 1).toInt64) = 0 := by rw [qI_n _ (by omega), if_neg hi]
    refine OpS_f hS (r := -1000012) (v := 2) ?_ ?_
    · simp (disch := omega) [fn_X8_set, e1, hp, hcl, h10, hn1, e2, pn, fn_X8_found, ob2]
    · simp (disch := omega) [fn_X9_set, pn, qS_in hj, ob1, hp, hcl, pu_n, hl, hn2, e3, fn_X9_finding, ob2]
  have e2 : fn_X8_isBelow (nI k) (nI n) = 1 := qB_in hk (by omega)
  have e3 : fn_X9_in (nI k).toInt64 0 ((nI n - 1).toInt64) = 1 := by rw [qI_n _ (by omega), if_pos (by rw [nI_toInt (by omega)]; omega)]
  have hsk : sk (19 + 2 * j) = (15, 4) := arr_sh_18 hj
  obtain ⟨x, x1, x2⟩ : ∃ x, fn_X5_cut (19 + 2 * j) v f = some x ∧ (if f 111 j = 0 then some v.toInt8.toInt32 else if f 111 j = 1 then some v.toInt16.toInt32 else some v) = some x := by
    rw [h3]
    unfold fn_X5_cut
    rw [if_pos hsk]
    rcases h2 with z | z | z
    · exact ⟨v.toInt8.toInt32, by rw [z, if_pos rfl], by rw [z, if_pos rfl]⟩
    · exact ⟨v.toInt16.toInt32, by rw [z, if_neg (by decide), if_pos rfl], by rw [z, if_neg (by decide), if_pos rfl]⟩
    · exact ⟨v, by rw [z, if_neg (by decide), if_neg (by decide)], by rw [z, if_neg (by decide), if_neg (by decide)]⟩
  refine ⟨x, pi_up (pi_up f (19 + 2 * j + 1) k x) 17 8 0, pi_up (pi_up (pi_up (pi_up (pi_up f (19 + 2 * j + 1) k x) 17 8 0) 110 0 0) 110 1 0) 113 (40 * j + k) x, ?_, ?_, fun i hi => ?_, ?_, fun a q h1 h2 => ?_, fun q h1 h2 => ?_, fun q h1 => ?_⟩
  · unfold fn_X8_set
    simp (disch := omega) only [e1, o10, hp, hcl, h10, hn1, e2, x1, o1s, zp, nI_clamp, pn, fn_X8_well, o2s, pu_s, if_true, if_false, ↓reduceIte, Bool.false_eq_true, reduceCtorEq]
  · unfold fn_X9_set
    simp (disch := omega) only [pn, qS_in hj, o1s, o10, hp, hcl, pu_n, hl, hn2, e3, x2, l40, pk_mul, nI_add, zp, nI_clamp, pu_s, if_true, if_false, ↓reduceIte, Bool.false_eq_true, reduceCtorEq]
  · by_cases hij : i = j
    · subst hij
      unfold Sh1
      refine ⟨Or.inl ⟨?_, ?_, ?_⟩, ⟨n, hn, ?_, ?_⟩, fun q hq => ?_⟩
      · simp (disch := omega) only [pu_n]; exact h1
      · simp (disch := omega) only [pu_n]; exact h2
      · simp (disch := omega) only [pu_n]; exact h3
      · simp (disch := omega) only [pu_n]; exact hn1
      · simp (disch := omega) only [pu_n]; exact hn2
      · rw [show 20 + 2 * i = 19 + 2 * i + 1 by omega]
        by_cases hqk : q = k
        · subst hqk
          simp (disch := omega) only [pu_n, pu_s]
        · simp (disch := omega) only [pu_n]
          rw [show 19 + 2 * i + 1 = 20 + 2 * i by omega]
          exact hit q hq
    · refine Sh1_congr (fun q => ?_) (fun q _ => ?_) ?_ ?_ (fun q _ => ?_) (hS i hi)
      all_goals simp (disch := omega) only [pu_n]
  · unfold SFi
    simp (disch := omega) only [pu_n, pu_s]
  · simp (disch := omega) only [pu_n]
  · simp (disch := omega) only [pu_n]
  · simp (disch := omega) only [pu_n]
/-! copy -/
theorem lk_up {x y i j n : Nat} (hx : x < 8) (hy : y < 8) (hi : i + n ≤ 40) (hj : j + n ≤ 40) (hup : ∀ q k, k < q → q < n → 40 * x + i + q ≠ 40 * y + j + k) (F : Nat → Int32) : ∀ (r n' k : Nat) (f : pd_M), k + r = n → r < n' → (∀ q, k ≤ q → q < n → f 113 (40 * x + i + q) = F (40 * x + i + q)) →
    ∃ f', lp_X9_copy_143 n' (nI x) (nI i) (nI y) (nI j) (nI n) 1 (nI k) f = some f' ∧ (∀ b q, ¬ (b = 113 ∧ 40 * y + j + k ≤ q ∧ q < 40 * y + j + n) → f' b q = f b q) ∧ ∀ q, k ≤ q → q < n → f' 113 (40 * y + j + q) = F (40 * x + i + q) := by
  intro r
  induction r with
  | zero =>
    intro n' k f h1 h2 _
    obtain ⟨n', rfl⟩ : ∃ k, n' = k + 1 := ⟨n' - 1, by omega⟩
    refine ⟨f, ?_, fun _ _ _ => rfl, fun k q1 q2 => absurd q2 (by omega)⟩
    unfold lp_X9_copy_143
    simp (disch := omega) only [ly, show n ≤ k by omega, if_true, if_false, ↓reduceIte, Bool.false_eq_true, reduceCtorEq]
  | succ r ih =>
    intro n' k f h1 h2 hF
    obtain ⟨n', rfl⟩ : ∃ k, n' = k + 1 := ⟨n' - 1, by omega⟩
    obtain ⟨f', e1, e2, e3⟩ := ih n' (k + 1) (pi_up f 113 (40 * y + j + k) (f 113 (40 * x + i + k))) (by omega) (by omega) (fun q q1 q2 => by
      have := hup q k (by omega) q2
      rw [pu_n (by omega)]
      exact hF q (by omega) q2)
    refine ⟨f', ?_, fun b q hq => ?_, fun q q1 q2 => ?_⟩
    · unfold lp_X9_copy_143
      simp (disch := omega) only [ly, show ¬ n ≤ k by omega, o10, o1s, l40, pk_mul, nI_add, zp, nI_clamp, pn, nI_1, if_true, if_false, ↓reduceIte, Bool.false_eq_true, reduceCtorEq]
      exact e1
    · rw [e2 b q (by omega), pu_n (by omega)]
    · by_cases z : q = k
      · subst z
        rw [e2 113 _ (by omega), pu_s]
        exact hF q (by omega) q2
      · exact e3 q (by omega) q2
theorem lk_dn {x y i j n : Nat} (hx : x < 8) (hy : y < 8) (hi : i + n ≤ 40) (hj : j + n ≤ 40) (hdn : ∀ q k, q < k → k < n → 40 * x + i + q ≠ 40 * y + j + k) (F : Nat → Int32) : ∀ (r n' k : Nat) (f : pd_M), k + r = n → r < n' → (∀ q, q < r → f 113 (40 * x + i + q) = F (40 * x + i + q)) →
    ∃ f', lp_X9_copy_143 n' (nI x) (nI i) (nI y) (nI j) (nI n) 0 (nI k) f = some f' ∧ (∀ b q, ¬ (b = 113 ∧ 40 * y + j ≤ q ∧ q < 40 * y + j + r) → f' b q = f b q) ∧ ∀ q, q < r → f' 113 (40 * y + j + q) = F (40 * x + i + q) := by
  intro r
  induction r with
  | zero =>
    intro n' k f h1 h2 _
    obtain ⟨n', rfl⟩ : ∃ k, n' = k + 1 := ⟨n' - 1, by omega⟩
    refine ⟨f, ?_, fun _ _ _ => rfl, fun k q1 => absurd q1 (by omega)⟩
    unfold lp_X9_copy_143
    simp (disch := omega) only [ly, show n ≤ k by omega, if_true, if_false, ↓reduceIte, Bool.false_eq_true, reduceCtorEq]
  | succ r ih =>
    intro n' k f h1 h2 hF
    obtain ⟨n', rfl⟩ : ∃ k, n' = k + 1 := ⟨n' - 1, by omega⟩
    obtain ⟨f', e1, e2, e3⟩ := ih n' (k + 1) (pi_up f 113 (40 * y + j + r) (f 113 (40 * x + i + r))) (by omega) (by omega) (fun q q1 => by
      have := hdn q r (by omega) (by omega)
      rw [pu_n (by omega)]
      exact hF q (by omega))
    refine ⟨f', ?_, fun b q hq => ?_, fun q q1 => ?_⟩
    · unfold lp_X9_copy_143
      have er : nI n - 1 - nI k = nI r := by
        rw [zi (by omega), pk_sub (by omega), show n - 1 - k = r by omega]
      rw [er]
      simp (disch := omega) only [ly, show ¬ n ≤ k by omega, o1s, l40, pk_mul, nI_add, zp, nI_clamp, pn, nI_1, if_true, if_false, ↓reduceIte, Bool.false_eq_true, reduceCtorEq]
      exact e1
    · rw [e2 b q (by omega), pu_n (by omega)]
    · by_cases z : q = r
      · subst z
        rw [e2 113 _ (by omega), pu_s]
        exact hF q (by omega)
      · exact e3 q (by omega)
theorem op_copy {f : pd_M} (hS : SSh f) (hF : SFi f) (a i b j n : Int32) : OpS (fn_X8_copy a i b j n) (fn_X9_copy a i b j n) f := by
  have z0 : (0 : Int32).toInt = 0 := by decide
  rcases q_ix a (n := 8) (by decide) with h | ⟨x, hx, rfl⟩
  · have e1 : fn_X8_isBelow a 8 = 0 := qB_out (n := 8) (by decide) h
    exact OpS_bad hS hF (r := -1000001) (by simp [fn_X8_copy, e1]) (by simp [fn_X9_copy, pn, qS_out h, ob1])
  have e1 : fn_X8_isBelow (nI x) 8 = 1 := qB_in (n := 8) hx (by decide)
  rcases q_ix b (n := 8) (by decide) with h | ⟨y, hy, rfl⟩
  · have e2 : fn_X8_isBelow b 8 = 0 := qB_out (n := 8) (by decide) h
    exact OpS_bad hS hF (r := -1000001) (by simp [fn_X8_copy, e1, e2]) (by simp [fn_X9_copy, pn, qS_in hx, qS_out h, ob1])
  have e2 : fn_X8_isBelow (nI y) 8 = 1 := qB_in (n := 8) hy (by decide)
  obtain ⟨hhx, ⟨nx, hnx, hnx1, hnx2⟩, hitx⟩ := hS x hx
  obtain ⟨hhy, ⟨ny, hny, hny1, hny2⟩, hity⟩ := hS y hy
  rcases hhx with ⟨h1, h2, h3⟩ | ⟨h1, h3⟩
  rotate_left
  · have hl : f 111 x < 0 := by rw [h3]; decide
    refine OpS_f hS (r := -1000011) (v := 1) ?_ ?_
    · unfold fn_X8_copy
      simp (disch := omega) only [e1, e2, o10, zp, nI_clamp, h1, fn_X8_found, pn, o2s, if_true, if_false, ↓reduceIte, Bool.false_eq_true, reduceCtorEq]
      rfl
    · unfold fn_X9_copy
      simp (disch := omega) only [pn, qS_in hx, qS_in hy, o1s, o10, zp, nI_clamp, pu_n, hl, fn_X9_finding, o2s, if_true, if_false, ↓reduceIte, Bool.false_eq_true, reduceCtorEq]
      rfl
  have hlx : ¬ f 111 x < 0 := by rw [h3]; rcases h2 with z | z | z <;> rw [z] <;> decide
  have h10 : ¬ f (19 + 2 * x) 1 = 0 := by rw [h1]; decide
  rcases hhy with ⟨k1, k2, k3⟩ | ⟨k1, k3⟩
  rotate_left
  · have hl : ¬ 0 ≤ f 111 y := by rw [k3]; decide
    refine OpS_f hS (r := -1000011) (v := 1) ?_ ?_
    · unfold fn_X8_copy
      simp (disch := omega) only [e1, e2, o10, zp, nI_clamp, h10, k1, fn_X8_found, pn, o2s, if_true, if_false, ↓reduceIte, Bool.false_eq_true, reduceCtorEq]
      rfl
    · unfold fn_X9_copy
      simp (disch := omega) only [pn, qS_in hx, qS_in hy, o1s, o10, zp, nI_clamp, pu_n, hlx, hl, fn_X9_finding, o2s, if_true, if_false, ↓reduceIte, Bool.false_eq_true, reduceCtorEq]
      rfl
  have hly : 0 ≤ f 111 y := by rw [k3]; rcases k2 with z | z | z <;> rw [z] <;> decide
  have k10 : ¬ f (19 + 2 * y) 1 = 0 := by rw [k1]; decide
  by_cases hln : f (19 + 2 * x) 2 = f (19 + 2 * y) 2
  rotate_left
  · have hlm : ¬ f 111 x = f 111 y := by rw [h3, k3]; exact hln
    refine OpS_f hS (r := -1000015) (v := 5) ?_ ?_
    · unfold fn_X8_copy
      simp (disch := omega) only [e1, e2, o10, zp, nI_clamp, h10, k10, hln, fn_X8_found, pn, o2s, if_true, if_false, ↓reduceIte, Bool.false_eq_true, reduceCtorEq]
      rfl
    · unfold fn_X9_copy
      simp (disch := omega) only [pn, qS_in hx, qS_in hy, o1s, o10, zp, nI_clamp, pu_n, hlx, hly, hlm, fn_X9_finding, o2s, if_true, if_false, ↓reduceIte, Bool.false_eq_true, reduceCtorEq]
      rfl
  have hlm : (f 111 x = f 111 y) = True := eq_true (by rw [h3, k3]; exact hln)
  have hrx := c_reaches (f := f) (arr_sh_18 hx) hnx1 hnx i n
  have hry := c_reaches (f := f) (arr_sh_18 hy) hny1 hny j n
  by_cases hin : (0 ≤ i.toInt ∧ 0 ≤ n.toInt ∧ i.toInt + n.toInt ≤ nx) ∧ (0 ≤ j.toInt ∧ 0 ≤ n.toInt ∧ j.toInt + n.toInt ≤ ny)
  rotate_left
  · refine OpS_f hS (r := -1000012) (v := 2) ?_ ?_
    · unfold fn_X8_copy
      simp (disch := omega) only [e1, e2, o10, zp, nI_clamp, h10, k10, hln, hrx, hry, o1s, fn_X8_found, pn, o2s, if_true, if_false, ↓reduceIte, Bool.false_eq_true, reduceCtorEq]
      by_cases q : 0 ≤ i.toInt ∧ 0 ≤ n.toInt ∧ i.toInt + n.toInt ≤ nx
      · have q2 : ¬ (0 ≤ j.toInt ∧ 0 ≤ n.toInt ∧ j.toInt + n.toInt ≤ ny) := fun z => hin ⟨q, z⟩
        rw [if_pos q, if_neg q2, if_neg (by decide), if_pos rfl]
        rfl
      · rw [if_neg q, if_pos rfl]
        rfl
    · unfold fn_X9_copy
      simp (disch := omega) only [pn, qS_in hx, qS_in hy, o1s, o10, zp, nI_clamp, pu_n, hlx, hly, hlm, hnx2, hny2, fn_X9_finding, o2s, if_true, if_false, ↓reduceIte, Bool.false_eq_true, reduceCtorEq]
      by_cases q1 : i < 0
      · rw [if_pos q1]; rfl
      by_cases q2 : j < 0
      · rw [if_neg q1, if_pos q2]; rfl
      by_cases q3 : n < 0
      · rw [if_neg q1, if_neg q2, if_pos q3]; rfl
      rw [if_neg q1, if_neg q2, if_neg q3]
      rw [q_lt, z0] at q1 q2 q3
      by_cases q4 : 0 < lg_cmp (i.toInt64 + n.toInt64) (nI nx).toInt64
      · rw [if_pos q4]; rfl
      rw [if_neg q4]
      rw [q_cmpp (by omega) (by omega), nI_toInt (by omega)] at q4
      rw [if_neg]
      · rfl
      · rw [q_cmpn (by omega) (by omega), nI_toInt (by omega)]
        omega
  obtain ⟨⟨hi0, hn0, hin⟩, hj0, -, hjn⟩ := hin
  obtain ⟨i, hi2, rfl⟩ := nI_of3 (p := i) (n := 40) hi0 (by omega) (by decide)
  obtain ⟨j, hj2, rfl⟩ := nI_of3 (p := j) (n := 40) hj0 (by omega) (by decide)
  obtain ⟨n, hn2, rfl⟩ := nI_of3 (p := n) (n := 40) hn0 (by omega) (by decide)
  rw [if_pos ⟨hi0, hn0, hin⟩] at hrx
  rw [if_pos ⟨hj0, hn0, hjn⟩] at hry
  have q4 : (0 < lg_cmp ((nI i).toInt64 + (nI n).toInt64) (nI nx).toInt64) = False := by
    rw [q_cmpp hi0 hn0, nI_toInt (show nx < 2 ^ 31 by omega)]
    exact eq_false (by omega)
  have q5 : (lg_cmp ((nI j).toInt64 + (nI n).toInt64) (nI ny).toInt64 ≤ 0) = True := by
    rw [q_cmpn hj0 hn0, nI_toInt (show ny < 2 ^ 31 by omega)]
    exact eq_true hjn
  rw [nI_toInt (by omega), nI_toInt (by omega)] at hin hjn
  have hcp : pd_cp (nI i) (nI j) (nI n) 40 40 = true := by
    unfold pd_cp
    simp (disch := omega) only [nI_clamp, zb, not_false_eq_true, true_and]
    exact decide_eq_true ⟨by omega, by omega⟩
  have hg0 : ∀ q, pi_up (pi_up (pi_up (pi_row f (19 + 2 * y + 1) (va_cpy (f (19 + 2 * x + 1)) (f (19 + 2 * y + 1)) i j n)) 17 8 0) 110 0 0) 110 1 0 113 q = f 113 q := fun q => by
    rw [pu_n (by omega), pu_n (by omega), pu_n (by omega), pr_n (by omega)]
  obtain ⟨f2, m1, m2, m3⟩ : ∃ f2, (ob1 (if nI i < nI j then some (0 : Int32) else some 1) fun (v39 : Int32) => lp_X9_copy_143 5000 (nI x) (nI i) (nI y) (nI j) (nI n) v39 0 (pi_up (pi_up (pi_up (pi_row f (19 + 2 * y + 1) (va_cpy (f (19 + 2 * x + 1)) (f (19 + 2 * y + 1)) i j n)) 17 8 0) 110 0 0) 110 1 0)) = some f2 ∧
      (∀ b q, ¬ (b = 113 ∧ 40 * y + j ≤ q ∧ q < 40 * y + j + n) → f2 b q = pi_up (pi_up (pi_up (pi_row f (19 + 2 * y + 1) (va_cpy (f (19 + 2 * x + 1)) (f (19 + 2 * y + 1)) i j n)) 17 8 0) 110 0 0) 110 1 0 b q) ∧ ∀ q, q < n → f2 113 (40 * y + j + q) = f 113 (40 * x + i + q) := by
    by_cases hij : i < j
    · rw [if_pos (nI_lt hij (by omega)), o1s]
      obtain ⟨f2, a1, a2, a3⟩ := lk_dn hx hy (show i + n ≤ 40 by omega) (show j + n ≤ 40 by omega) (fun q k h1 h2 => by omega) (f 113) n 5000 0 (pi_up (pi_up (pi_up (pi_row f (19 + 2 * y + 1) (va_cpy (f (19 + 2 * x + 1)) (f (19 + 2 * y + 1)) i j n)) 17 8 0) 110 0 0) 110 1 0) (by omega) (by omega) (fun q _ => hg0 _)
      exact ⟨f2, a1, a2, a3⟩
    · rw [if_neg (nI_nlt (by omega) (by omega)), o1s]
      obtain ⟨f2, a1, a2, a3⟩ := lk_up hx hy (show i + n ≤ 40 by omega) (show j + n ≤ 40 by omega) (fun q k h1 h2 => by omega) (f 113) n 5000 0 (pi_up (pi_up (pi_up (pi_row f (19 + 2 * y + 1) (va_cpy (f (19 + 2 * x + 1)) (f (19 + 2 * y + 1)) i j n)) 17 8 0) 110 0 0) 110 1 0) (by omega) (by omega) (fun q _ _ => hg0 _)
      exact ⟨f2, a1, a2, fun q hq => a3 q (by omega) hq⟩
  have fn : ∀ a k, a ≠ 17 → a ≠ 110 → a ≠ 19 + 2 * y + 1 → ¬ (a = 113 ∧ 40 * y + j ≤ k ∧ k < 40 * y + j + n) → f2 a k = f a k := fun a k q1 q2 q3 q4 => by
    rw [m2 a k q4, pu_n (by omega), pu_n (by omega), pu_n (by omega), pr_n (by omega)]
  refine ⟨nI n, pi_up (pi_row f (19 + 2 * y + 1) (va_cpy (f (19 + 2 * x + 1)) (f (19 + 2 * y + 1)) i j n)) 17 8 0, f2, ?_, ?_, fun u hu => ?_, ?_, fun a q h1 h2 => ?_, fun q h1 h2 => ?_, fun q h1 => ?_⟩
  · unfold fn_X8_copy
    simp (disch := omega) only [e1, e2, o10, zp, nI_clamp, h10, k10, hln, hrx, hry, o1s, hcp, fn_X8_well, pn, o2s, if_true, if_false, ↓reduceIte, Bool.false_eq_true, reduceCtorEq]
  · unfold fn_X9_copy
    simp (disch := omega) only [pn, qS_in hx, qS_in hy, o1s, o10, zp, nI_clamp, pu_n, pr_n, hlx, hly, hlm, hnx2, hny2, zb, q4, q5, if_true, if_false, ↓reduceIte, Bool.false_eq_true, reduceCtorEq]
    cases hi9 : (if nI i < nI j then some (0 : Int32) else some 1) with
    | none => rw [hi9] at m1; cases m1
    | some v =>
      rw [hi9, o1s] at m1
      rw [o1s, m1, o1s]
  · by_cases huy : u = y
    · subst huy
      unfold Sh1
      refine ⟨Or.inl ⟨?_, ?_, ?_⟩, ⟨ny, hny, ?_, ?_⟩, fun q hq => ?_⟩
      · rw [fn _ _ (by omega) (by omega) (by omega) (by omega)]; exact k1
      · rw [fn _ _ (by omega) (by omega) (by omega) (by omega)]; exact k2
      · rw [fn 111 _ (by omega) (by omega) (by omega) (by omega), fn _ 2 (by omega) (by omega) (by omega) (by omega)]; exact k3
      · rw [fn _ _ (by omega) (by omega) (by omega) (by omega)]; exact hny1
      · rw [fn 112 _ (by omega) (by omega) (by omega) (by omega)]; exact hny2
      · have er : f2 (20 + 2 * u) q = va_cpy (f (19 + 2 * x + 1)) (f (19 + 2 * u + 1)) i j n q := by
          rw [m2 _ q (by omega), pu_n (by omega), pu_n (by omega), pu_n (by omega), show 20 + 2 * u = 19 + 2 * u + 1 by omega, pr_s]
        rw [er]
        unfold va_cpy
        by_cases hq2 : j ≤ q ∧ q < j + n
        · rw [if_pos hq2, show 40 * u + q = 40 * u + j + (q - j) by omega, m3 (q - j) (by omega), show 19 + 2 * x + 1 = 20 + 2 * x by omega, hitx _ (by omega), Nat.add_assoc]
        · rw [if_neg hq2, fn 113 _ (by omega) (by omega) (by omega) (by omega), show 19 + 2 * u + 1 = 20 + 2 * u by omega]
          exact hity q hq
    · refine Sh1_congr (fun q => ?_) (fun q _ => ?_) ?_ ?_ (fun q _ => ?_) (hS u hu)
      all_goals exact fn _ _ (by omega) (by omega) (by omega) (by omega)
  · unfold SFi
    rw [m2 17 8 (by omega), m2 110 1 (by omega), pu_n (by omega), pu_n (by omega), pu_s, pu_s]
  · exact fn a q (by omega) (by omega) (by omega) (by omega)
  · rw [m2 110 q (by omega), pu_n (by omega), pu_n (by omega), pu_n (by omega), pr_n (by omega)]
  · rw [m2 17 q (by omega), pu_n (by omega), pu_n (by omega), pu_n (by omega), pr_n (by omega)]
/-! feed -/
def byt (w : Int64) (z : Nat) : Nat := (w >>> ((8 * nI z).toInt64 &&& 63)).toBitVec.toNat % 256
theorem byt_lt (w : Int64) (z : Nat) : byt w z < 256 := Nat.mod_lt _ (by decide)
theorem i32_ext {x y : Int32} (h : ∀ i, i < 32 → x.toBitVec.getLsbD i = y.toBitVec.getLsbD i) : x = y := Int32.toBitVec_inj.mp (BitVec.eq_of_getLsbD_eq (fun i hi => h i hi))
theorem i8_ext {x y : Int8} (h : ∀ i, i < 8 → x.toBitVec.getLsbD i = y.toBitVec.getLsbD i) : x = y := Int8.toBitVec_inj.mp (BitVec.eq_of_getLsbD_eq (fun i hi => h i hi))
theorem bx_8 (x : Int32) {i : Nat} (h : i < 8) : x.toInt8.toBitVec.getLsbD i = x.toBitVec.getLsbD i := by
  show (x.toBitVec.signExtend 8).getLsbD i = _
  rw [BitVec.getLsbD_signExtend]
  simp [h, show i < 32 by omega]
theorem bx_32 (x : Int64) {i : Nat} (h : i < 32) : x.toInt32.toBitVec.getLsbD i = x.toBitVec.getLsbD i := by
  show (x.toBitVec.signExtend 32).getLsbD i = _
  rw [BitVec.getLsbD_signExtend]
  simp [h, show i < 64 by omega]
theorem bx_83 (x : Int8) {i : Nat} (h : i < 8) : x.toInt32.toBitVec.getLsbD i = x.toBitVec.getLsbD i := by
  show (x.toBitVec.signExtend 32).getLsbD i = _
  rw [BitVec.getLsbD_signExtend]
  simp [h, show i < 32 by omega]
theorem bx_n {b i : Nat} (h : i < 32) : (nI b).toBitVec.getLsbD i = b.testBit i := by
  have := bt_nI b i
  unfold bt at this
  rw [this]
  simp [h]
theorem bx_m (X : Int64) {i : Nat} : (X.toBitVec.toNat % 256).testBit i = (decide (i < 8) && X.toBitVec.getLsbD i) := by
  rw [show 256 = 2 ^ 8 from rfl, Nat.testBit_mod_two_pow]
  rfl
theorem fd_c (X : Int64) : X.toInt32.toInt8.toInt32.toInt8.toInt32 = sg (X.toBitVec.toNat % 256) := by
  unfold sg
  congr 1
  refine i8_ext fun i hi => ?_
  rw [bx_8 _ hi, bx_83 _ hi, bx_8 _ hi, bx_32 _ (by omega), bx_8 _ hi, bx_n (by omega), bx_m]
  simp [hi]
theorem fd_m (X : Int64) : (X &&& 255).toInt32 = nI (X.toBitVec.toNat % 256) := by
  refine i32_ext fun i hi => ?_
  rw [bx_32 _ hi, bx_n hi, bx_m, Int64.toBitVec_and, BitVec.getLsbD_and]
  have e : (255 : Int64).toBitVec.getLsbD i = decide (i < 8) := by
    show (255 % 2 ^ 64 : Nat).testBit i = _
    rw [show (255 % 2 ^ 64 : Nat) = 2 ^ 8 - 1 from rfl, Nat.testBit_two_pow_sub_one]
  rw [e, Bool.and_comm]
theorem nI_m1 {k : Nat} : nI k + (-1) = nI k - 1 := (Int32.sub_eq_add_neg (nI k) 1).symm
theorem lf_c (w : Int64) : ∀ (r n L : Nat) (f : pd_M), r < n → L + r ≤ 500 → f 35 3 = nI L → ∃ f', lp_X8_feed_37 n w (nI r - 1) f = some f' ∧ f' 35 3 = nI (L + r) ∧ (∀ a k, ¬ (a = 35 ∧ k = 3) → ¬ (a = 36 ∧ L ≤ k ∧ k < L + r) → f' a k = f a k) ∧ ∀ k, k < r → f' 36 (L + k) = sg (byt w (r - 1 - k)) := by
  intro r
  induction r with
  | zero =>
    intro n L f h1 h2 h3
    obtain ⟨n, rfl⟩ : ∃ k, n = k + 1 := ⟨n - 1, by omega⟩
    refine ⟨f, ?_, h3, fun _ _ _ _ => rfl, fun k hk => absurd hk (by omega)⟩
    unfold lp_X8_feed_37
    rw [if_pos (by decide)]
  | succ r ih =>
    intro n L f h1 h2 h3
    obtain ⟨n, rfl⟩ : ∃ k, n = k + 1 := ⟨n - 1, by omega⟩
    obtain ⟨f', e1, e2, e3, e4⟩ := ih n (L + 1) (pi_up (pi_up f 36 L (sg (byt w r))) 35 3 (nI (L + 1))) (by omega) (by omega) pu_s
    refine ⟨f', ?_, ?_, fun a k q1 q2 => ?_, fun k hk => ?_⟩
    · unfold lp_X8_feed_37
      have e9 : (w >>> ((8 * nI r).toInt64 &&& 63)).toInt32.toInt8.toInt32.toInt8.toInt32 = sg (byt w r) := fd_c _
      rw [zi (show 1 ≤ r + 1 by omega), Nat.add_sub_cancel, e9]
      simp (disch := omega) only [zb, h3, zp, nI_clamp, pn, pu_n, nI_1, nI_m1, if_true, if_false, ↓reduceIte, Bool.false_eq_true, reduceCtorEq]
      exact e1
    · rw [e2, show L + 1 + r = L + (r + 1) by omega]
    · rw [e3 a k q1 (by omega), pu_n (by omega), pu_n (by omega)]
    · by_cases q : k = 0
      · subst q
        rw [e3 36 _ (by omega) (by omega), pu_n (by omega), Nat.add_zero, pu_s]
        rfl
      · have := e4 (k - 1) (by omega)
        rw [show L + 1 + (k - 1) = L + k by omega, show r - 1 - (k - 1) = r + 1 - 1 - k by omega] at this
        exact this
theorem lf_m (w : Int64) : ∀ (r n L : Nat) (f : pd_M), r < n → L + r ≤ 500 → f 110 30 = nI L → ∃ f', lp_X9_feed_40 n w (nI r - 1) f = some f' ∧ f' 110 30 = nI (L + r) ∧ (∀ a k, ¬ (a = 110 ∧ k = 30) → ¬ (a = 136 ∧ L ≤ k ∧ k < L + r) → f' a k = f a k) ∧ ∀ k, k < r → f' 136 (L + k) = nI (byt w (r - 1 - k)) := by
  intro r
  induction r with
  | zero =>
    intro n L f h1 h2 h3
    obtain ⟨n, rfl⟩ : ∃ k, n = k + 1 := ⟨n - 1, by omega⟩
    refine ⟨f, ?_, h3, fun _ _ _ _ => rfl, fun k hk => absurd hk (by omega)⟩
    unfold lp_X9_feed_40
    rw [if_pos (by decide)]
  | succ r ih =>
    intro n L f h1 h2 h3
    obtain ⟨n, rfl⟩ : ∃ k, n = k + 1 := ⟨n - 1, by omega⟩
    obtain ⟨f', e1, e2, e3, e4⟩ := ih n (L + 1) (pi_up (pi_up f 136 L (nI (byt w r))) 110 30 (nI (L + 1))) (by omega) (by omega) pu_s
    refine ⟨f', ?_, ?_, fun a k q1 q2 => ?_, fun k hk => ?_⟩
    · unfold lp_X9_feed_40
      have e9 : ((w >>> ((8 * nI r).toInt64 &&& 63)) &&& 255).toInt32 = nI (byt w r) := fd_m _
      rw [zi (show 1 ≤ r + 1 by omega), Nat.add_sub_cancel, e9]
      simp (disch := omega) only [zb, h3, zp, nI_clamp, pn, pu_n, nI_1, nI_m1, if_true, if_false, ↓reduceIte, Bool.false_eq_true, reduceCtorEq]
      exact e1
    · rw [e2, show L + 1 + r = L + (r + 1) by omega]
    · rw [e3 a k q1 (by omega), pu_n (by omega), pu_n (by omega)]
    · by_cases q : k = 0
      · subst q
        rw [e3 136 _ (by omega) (by omega), pu_n (by omega), Nat.add_zero, pu_s]
        rfl
      · have := e4 (k - 1) (by omega)
        rw [show L + 1 + (k - 1) = L + k by omega, show r - 1 - (k - 1) = r + 1 - 1 - k by omega] at this
        exact this
theorem Ta_z {f : pd_M} (h : Ta f) : Ta (pi_up f 110 0 0) := by
  obtain ⟨L, h1, h2, h3, h4⟩ := h
  refine ⟨L, h1, ?_, ?_, fun k hk => ?_⟩
  · rw [pu_n (by omega)]; exact h2
  · rw [pu_n (by omega)]; exact h3
  · rw [pu_n (by omega), pu_n (by omega)]; exact h4 k hk
theorem op_feed {f : pd_M} (hTa : Ta f) (w : Int64) (n : Int32) : ∃ r f1 f2, fn_X8_feed w n f = some (r, f1) ∧ fn_X9_feed w n f1 = some (r, f2) ∧ Ta f2 ∧ ∀ a k, ¬ (a = 35 ∧ k = 3) → a ≠ 36 → ¬ (a = 110 ∧ (k = 0 ∨ k = 30)) → a ≠ 136 → f2 a k = f a k := by
  have fz : ∀ a k, ¬ (a = 35 ∧ k = 3) → a ≠ 36 → ¬ (a = 110 ∧ (k = 0 ∨ k = 30)) → a ≠ 136 → (pi_up f 110 0 0) a k = f a k := fun a k q1 q2 q3 q4 => pu_n (by omega)
  by_cases hn : 1 ≤ n.toInt ∧ n.toInt ≤ (8 : Nat)
  rotate_left
  · have e2 : fn_X9_in n.toInt64 1 8 = 0 := qI_out (lo := 1) (hi := 8) (by decide) (by decide) (by omega)
    refine ⟨-1000001, f, pi_up f 110 0 0, ?_, ?_, Ta_z hTa, fz⟩
    · unfold fn_X8_feed
      by_cases q : n < 1
      · rw [if_pos q]
      · rw [if_neg q, if_neg]
        intro q2
        rw [q_le, show (8 : Int32).toInt = 8 by decide] at q2
        rw [q_lt, show (1 : Int32).toInt = 1 by decide] at q
        omega
    · unfold fn_X9_feed
      simp only [pn, e2, if_true]
  obtain ⟨n, hn2, rfl⟩ := nI_of3 (p := n) (by omega) hn.2 (by decide)
  have hn1 : 1 ≤ n := by have := hn.1; rw [nI_toInt (by omega)] at this; omega
  have e2 : fn_X9_in (nI n).toInt64 1 8 = 1 := qI_in (lo := 1) (hi := 8) (by omega) (by omega) (by decide)
  obtain ⟨L, hL, t1, t2, t3⟩ := id hTa
  by_cases hf : L + n ≤ 500
  rotate_left
  · refine ⟨-1000003, f, pi_up f 110 0 0, ?_, ?_, Ta_z hTa, fz⟩
    · unfold fn_X8_feed
      simp (disch := omega) only [zg, l8, l500, ly, t1, nI_add, show ¬ n = 0 by omega, hn2, hf, if_true, if_false, ↓reduceIte, Bool.false_eq_true, reduceCtorEq]
    · unfold fn_X9_feed
      simp (disch := omega) only [pn, e2, o10, pu_n, t2, nI_add, l500, ly, hf, if_true, if_false, ↓reduceIte, Bool.false_eq_true, reduceCtorEq]
  obtain ⟨f1, a1, a2, a3, a4⟩ := lf_c w n 5000 L f (by omega) hf t1
  obtain ⟨f2, b1, b2, b3, b4⟩ := lf_m w n 5000 L (pi_up f1 110 0 0) (by omega) hf (by rw [pu_n (by omega), a3 110 30 (by omega) (by omega)]; exact t2)
  refine ⟨nI (L + n), f1, f2, ?_, ?_, ⟨L + n, hf, ?_, b2, fun k hk => ?_⟩, fun a k q1 q2 q3 q4 => ?_⟩
  · unfold fn_X8_feed
    simp (disch := omega) only [zg, l8, l500, ly, t1, nI_add, show ¬ n = 0 by omega, hn2, hf, pn, a1, o1s, a2, if_true, if_false, ↓reduceIte, Bool.false_eq_true, reduceCtorEq]
  · unfold fn_X9_feed
    simp (disch := omega) only [pn, e2, o10, pu_n, a3 110 30, t2, nI_add, l500, ly, hf, b1, o1s, b2, if_true, if_false, ↓reduceIte, Bool.false_eq_true, reduceCtorEq]
  · rw [b3 35 3 (by omega) (by omega), pu_n (by omega)]; exact a2
  · by_cases q : k < L
    · obtain ⟨b, c1, c2, c3⟩ := t3 k q
      refine ⟨b, c1, ?_, ?_⟩
      · rw [b3 36 k (by omega) (by omega), pu_n (by omega), a3 36 k (by omega) (by omega)]; exact c2
      · rw [b3 136 k (by omega) (by omega), pu_n (by omega), a3 136 k (by omega) (by omega)]; exact c3
    · refine ⟨byt w (n - 1 - (k - L)), byt_lt _ _, ?_, ?_⟩
      · rw [b3 36 k (by omega) (by omega), pu_n (by omega)]
        have := a4 (k - L) (by omega)
        rw [show L + (k - L) = k by omega] at this
        exact this
      · have := b4 (k - L) (by omega)
        rw [show L + (k - L) = k by omega] at this
        exact this
  · rw [b3 a k (by omega) (by omega), pu_n (by omega), a3 a k q1 (by omega)]
