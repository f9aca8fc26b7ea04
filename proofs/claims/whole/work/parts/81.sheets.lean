theorem Sh1_congr {f g : pd_M} {j : Nat} (h1 : ∀ k, g (19 + 2 * j) k = f (19 + 2 * j) k) (h2 : ∀ k, k < 40 → g (20 + 2 * j) k = f (20 + 2 * j) k) (h3 : g 111 j = f 111 j) (h4 : g 112 j = f 112 j) (h5 : ∀ k, k < 40 → g 113 (40 * j + k) = f 113 (40 * j + k)) (h : Sh1 f j) : Sh1 g j := by
  unfold Sh1 at h ⊢
  rw [h1, h1, h1, h3, h4]
  refine ⟨h.1, h.2.1, fun k hk => ?_⟩
  rw [h2 k hk, h5 k hk]
  exact h.2.2 k hk
theorem op_drop {f : pd_M} (hS : SSh f) (hF : SFi f) (p : Int32) : ∃ r f1 f2, fn_X8_drop p f = some (r, f1) ∧ fn_X9_drop p f1 = some (r, f2) ∧ SSh f2 ∧ SFi f2 ∧ FrS f f2 := by
  rcases q_ix p (n := 8) (by decide) with h | ⟨j, hj, rfl⟩
  · have e1 : fn_X8_isBelow p 8 = 0 := qB_out (n := 8) (by decide) h
    refine ⟨-1000001, f, pi_up f 110 0 0, ?_, ?_, fun i hi => ?_, ?_, ?_, ?_, ?_⟩
    · simp [fn_X8_drop, e1]
    · simp [fn_X9_drop, pn, qS_out h, ob1]
    · exact Sh1_congr (fun k => pu_n (by omega)) (fun k _ => pu_n (by omega)) (pu_n (by omega)) (pu_n (by omega)) (fun k _ => pu_n (by omega)) (hS i hi)
    · unfold SFi
      simp (disch := omega) only [pu_n, pu_s]
      exact hF
    · intro a k h1 h2
      exact pu_n (by omega)
    · intro k h1 h2
      exact pu_n (by omega)
    · intro k h1
      exact pu_n (by omega)
  · have e1 : fn_X8_isBelow (nI j) 8 = 1 := qB_in (n := 8) hj (by decide)
    have hp := qP_in hj (by decide)
    have hcl : (nI j).toNatClampNeg = j := nI_clamp (by omega)
    obtain ⟨hh, ⟨n, hn, hn1, hn2⟩, hit⟩ := hS j hj
    rcases hh with ⟨h1, h2, h3⟩ | ⟨h1, h3⟩
    · have hl : 0 ≤ f 111 j := by rw [h3]; rcases h2 with z | z | z <;> rw [z] <;> decide
      refine ⟨nI n, pi_up (pi_up f (19 + 2 * j) 1 0) 17 8 0, pi_up (pi_up (pi_up (pi_up (pi_up f (19 + 2 * j) 1 0) 17 8 0) 110 0 0) 110 1 0) 111 j (-1), ?_, ?_, fun i hi => ?_, ?_, ?_, ?_, ?_⟩
      · simp (disch := omega) [fn_X8_drop, e1, hp, hcl, h1, pn, fn_X8_well, ob2, pu_n, pu_s, hn1]
      · simp (disch := omega) [fn_X9_drop, pn, qS_in hj, ob1, hp, hcl, pu_n, pu_s, hl, hn2]
      · by_cases hij : i = j
        · subst hij
          unfold Sh1
          simp (disch := omega) only [pu_n, pu_s]
          exact ⟨Or.inr ⟨trivial, trivial⟩, ⟨n, hn, hn1, hn2⟩, hit⟩
        · refine Sh1_congr (fun k => ?_) (fun k _ => ?_) ?_ ?_ (fun k _ => ?_) (hS i hi)
          all_goals simp (disch := omega) only [pu_n]
      · unfold SFi
        simp (disch := omega) only [pu_n, pu_s]
      · intro a k h1 h2
        simp (disch := omega) only [pu_n]
      · intro k h1 h2
        simp (disch := omega) only [pu_n]
      · intro k h1
        simp (disch := omega) only [pu_n]
    · have hl : ¬ 0 ≤ f 111 j := by rw [h3]; decide
      refine ⟨-1000011, pi_up f 17 8 1, pi_up (pi_up (pi_up (pi_up f 17 8 1) 110 0 0) 110 1 0) 110 1 1, ?_, ?_, fun i hi => ?_, ?_, ?_, ?_, ?_⟩
      · simp (disch := omega) [fn_X8_drop, e1, hp, hcl, h1, pn, fn_X8_found, ob2, pu_n, pu_s]
      · simp (disch := omega) [fn_X9_drop, pn, qS_in hj, ob1, hp, hcl, pu_n, pu_s, hl, fn_X9_finding, ob2]
      · refine Sh1_congr (fun k => ?_) (fun k _ => ?_) ?_ ?_ (fun k _ => ?_) (hS i hi)
        all_goals simp (disch := omega) only [pu_n]
      · unfold SFi
        simp (disch := omega) only [pu_n, pu_s]
      · intro a k h1 h2
        simp (disch := omega) only [pu_n]
      · intro k h1 h2
        simp (disch := omega) only [pu_n]
      · intro k h1
        simp (disch := omega) only [pu_n]
/-- a row of zeros -/
def clr (f : pd_M) (a lo hi : Nat) : pd_M := fun b k => if b = a ∧ lo ≤ k ∧ k < hi then 0 else f b k
theorem clr_n {f : pd_M} {a lo hi b k : Nat} (h : ¬ (b = a ∧ lo ≤ k ∧ k < hi)) : clr f a lo hi b k = f b k := by unfold clr; rw [if_neg h]
theorem clr_s {f : pd_M} {a lo hi k : Nat} (h : lo ≤ k ∧ k < hi) : clr f a lo hi a k = 0 := by unfold clr; rw [if_pos ⟨rfl, h⟩]
theorem clr_end {f : pd_M} {a hi : Nat} : clr f a hi hi = f := by
  funext b k
  exact clr_n (by omega)
theorem clr_step {f : pd_M} {a lo hi : Nat} (h : lo < hi) : clr (pi_up f a lo 0) a (lo + 1) hi = clr f a lo hi := by
  funext b k
  by_cases h1 : b = a ∧ lo ≤ k ∧ k < hi
  · obtain ⟨rfl, h2, h3⟩ := h1
    rw [clr_s ⟨h2, h3⟩]
    by_cases h4 : k = lo
    · subst h4
      rw [clr_n (by omega), pu_s]
    · rw [clr_s (by omega)]
  · rw [clr_n h1, clr_n (by omega), pu_n (by omega)]
theorem lq_begin {a : Nat} (ha : sk a = (15, 4)) : ∀ (m n i : Nat) (f : pd_M), i + m = 40 → m < n → lp_X5_begin_17 n a (nI i) f = some (clr f (a + 1) i 40) := by
  intro m
  induction m with
  | zero =>
    intro n i f hi hn
    obtain ⟨n, rfl⟩ : ∃ k, n = k + 1 := ⟨n - 1, by omega⟩
    have e1 : (40 : Int32) ≤ nI i := by rw [show i = 40 by omega]; decide
    rw [show i = 40 by omega] at *
    simp [lp_X5_begin_17, ha, clr_end, e1]
  | succ m ih =>
    intro n i f hi hn
    obtain ⟨n, rfl⟩ : ∃ k, n = k + 1 := ⟨n - 1, by omega⟩
    have e1 : ¬ (40 : Int32) ≤ nI i := nI_ge (a := i) (b := 40) (by omega) (by decide)
    have hp : pa_in (nI i) 40 = true := qP_in (by omega) (by decide)
    have hcl : (nI i).toNatClampNeg = i := nI_clamp (by omega)
    simp only [lp_X5_begin_17, ha, if_true, e1, if_false, hp, pn, hcl, nI_1]
    rw [ih n (i + 1) _ (by omega) (by omega), clr_step (by omega)]
theorem lq_sheet {j : Nat} (hj : j < 8) (z3 : Int32) : ∀ (m n i : Nat) (f : pd_M), i + m = 40 → m < n → lp_X9_sheet_65 n (nI j) z3 (nI i) f = some (clr f 113 (40 * j + i) (40 * j + 40)) := by
  intro m
  induction m with
  | zero =>
    intro n i f hi hn
    obtain ⟨n, rfl⟩ : ∃ k, n = k + 1 := ⟨n - 1, by omega⟩
    have e1 : (40 : Int32) ≤ nI i := by rw [show i = 40 by omega]; decide
    rw [show i = 40 by omega] at *
    simp [lp_X9_sheet_65, clr_end, e1]
  | succ m ih =>
    intro n i f hi hn
    obtain ⟨n, rfl⟩ : ∃ k, n = k + 1 := ⟨n - 1, by omega⟩
    have e1 : ¬ (40 : Int32) ≤ nI i := nI_ge (a := i) (b := 40) (by omega) (by decide)
    have e2 : (40 : Int32) * nI j + nI i = nI (40 * j + i) := by rw [show (40 : Int32) = nI 40 from rfl, pk_mul, nI_add]
    have hp : pa_in (nI (40 * j + i)) 320 = true := qP_in (by omega) (by decide)
    have hcl : (nI (40 * j + i)).toNatClampNeg = 40 * j + i := nI_clamp (by omega)
    simp only [lp_X9_sheet_65, e1, if_false, e2, hp, if_true, pn, hcl, nI_1]
    rw [ih n (i + 1) _ (by omega) (by omega), show 40 * j + (i + 1) = 40 * j + i + 1 by omega, clr_step (by omega)]
theorem op_sheet {f : pd_M} (hS : SSh f) (hF : SFi f) (p l n : Int32) : ∃ r f1 f2, fn_X8_sheet p l n f = some (r, f1) ∧ fn_X9_sheet p l n f1 = some (r, f2) ∧ SSh f2 ∧ SFi f2 ∧ FrS f f2 := by
  have bad : ∀ (e1 : fn_X8_sheet p l n f = some (-1000001, f)) (e2 : fn_X9_sheet p l n f = some (-1000001, pi_up f 110 0 0)), ∃ r f1 f2, fn_X8_sheet p l n f = some (r, f1) ∧ fn_X9_sheet p l n f1 = some (r, f2) ∧ SSh f2 ∧ SFi f2 ∧ FrS f f2 := by
    intro e1 e2
    refine ⟨_, _, _, e1, e2, fun i hi => ?_, ?_, ?_, ?_, ?_⟩
    · exact Sh1_congr (fun k => pu_n (by omega)) (fun k _ => pu_n (by omega)) (pu_n (by omega)) (pu_n (by omega)) (fun k _ => pu_n (by omega)) (hS i hi)
    · unfold SFi
      simp (disch := omega) only [pu_n, pu_s]
      exact hF
    · intro a k h1 h2
      exact pu_n (by omega)
    · intro k h1 h2
      exact pu_n (by omega)
    · intro k h1
      exact pu_n (by omega)
  rcases q_ix p (n := 8) (by decide) with h | ⟨j, hj, rfl⟩
  · have e1 : fn_X8_isBelow p 8 = 0 := qB_out (n := 8) (by decide) h
    exact bad (by simp [fn_X8_sheet, e1]) (by simp [fn_X9_sheet, pn, qS_out h, ob1])
  · have e1 : fn_X8_isBelow (nI j) 8 = 1 := qB_in (n := 8) hj (by decide)
    have hp := qP_in hj (by decide)
    have hcl : (nI j).toNatClampNeg = j := nI_clamp (by omega)
    rcases q_ix l (n := 3) (by decide) with h | ⟨w, hw, rfl⟩
    · have e2 : fn_X8_isBelow l 3 = 0 := qB_out (n := 3) (by decide) h
      have e3 : fn_X9_in l.toInt64 0 2 = 0 := qI_out (lo := 0) (hi := 2) (by decide) (by decide) (by omega)
      exact bad (by simp [fn_X8_sheet, e1, e2]) (by simp [fn_X9_sheet, pn, qS_in hj, ob1, e3])
    · have e2 : fn_X8_isBelow (nI w) 3 = 1 := qB_in (n := 3) hw (by decide)
      have e3 : fn_X9_in (nI w).toInt64 0 2 = 1 := qI_in (lo := 0) (hi := 2) (by omega) (by omega) (by decide)
      by_cases h40 : n ≤ 40
      · by_cases h0 : 0 ≤ n
        · obtain ⟨k, hk, rfl⟩ : ∃ k : Nat, k ≤ 40 ∧ n = nI k := by
            obtain ⟨k, hk, e⟩ := nI_of2 (x := n) (M := 40) (n := 40) (by decide) (Int32.not_lt.mpr h0) h40
            exact ⟨k, hk, e⟩
          have hsk : sk (19 + 2 * j) = (15, 4) := arr_sh_18 hj
          have hb : ∀ g, lp_X5_begin_17 5000 (19 + 2 * j) 0 g = some (clr g (19 + 2 * j + 1) 0 40) := fun g => lq_begin hsk 40 5000 0 g (by omega) (by omega)
          have hm : ∀ g, lp_X9_sheet_65 5000 (nI j) (nI k) 0 g = some (clr g 113 (40 * j + 0) (40 * j + 40)) := fun g => lq_sheet hj (nI k) 40 5000 0 g (by omega) (by omega)
          refine ⟨nI k, pi_up (clr (pi_up (pi_up (pi_up f (19 + 2 * j) 1 1) (19 + 2 * j) 2 (nI w)) (19 + 2 * j) 3 (nI k)) (19 + 2 * j + 1) 0 40) 17 8 0, clr (pi_up (pi_up (pi_up (pi_up (pi_up (clr (pi_up (pi_up (pi_up f (19 + 2 * j) 1 1) (19 + 2 * j) 2 (nI w)) (19 + 2 * j) 3 (nI k)) (19 + 2 * j + 1) 0 40) 17 8 0) 110 0 0) 110 1 0) 111 j (nI w)) 112 j (nI k)) 113 (40 * j + 0) (40 * j + 40), ?_, ?_, fun i hi => ?_, ?_, ?_, ?_, ?_⟩
          · simp (disch := omega) [fn_X8_sheet, e1, e2, h40, h0, hp, hcl, fn_X5_begin, hsk, pn, hb, ob1, ob2, fn_X8_well]
          · simp (disch := omega) [fn_X9_sheet, pn, qS_in hj, ob1, e3, h40, h0, hp, hcl, hm]
          · by_cases hij : i = j
            · subst hij
              unfold Sh1
              refine ⟨Or.inl ⟨?_, ?_, ?_⟩, ⟨k, hk, ?_, ?_⟩, fun q hq => ?_⟩
              · simp (disch := omega) only [pu_n, pu_s, clr_n]
              · simp (disch := omega) only [pu_n, pu_s, clr_n]
                rcases (by omega : w = 0 ∨ w = 1 ∨ w = 2) with rfl | rfl | rfl
                · exact Or.inl rfl
                · exact Or.inr (Or.inl rfl)
                · exact Or.inr (Or.inr rfl)
              · simp (disch := omega) only [pu_n, pu_s, clr_n]
              · simp (disch := omega) only [pu_n, pu_s, clr_n]
              · simp (disch := omega) only [pu_n, pu_s, clr_n]
              · rw [clr_s (by omega), clr_n (by omega)]
                simp (disch := omega) only [pu_n]
                rw [show 20 + 2 * i = 19 + 2 * i + 1 by omega, clr_s (by omega)]
            · refine Sh1_congr (fun k => ?_) (fun k _ => ?_) ?_ ?_ (fun k _ => ?_) (hS i hi)
              all_goals simp (disch := omega) only [pu_n, clr_n]
          · unfold SFi
            simp (disch := omega) only [pu_n, pu_s, clr_n]
          · intro a k h1 h2
            simp (disch := omega) only [pu_n, clr_n]
          · intro k h1 h2
            simp (disch := omega) only [pu_n, clr_n]
          · intro k h1
            simp (disch := omega) only [pu_n, clr_n]
        · refine ⟨-1000014, pi_up f 17 8 4, pi_up (pi_up (pi_up (pi_up f 17 8 4) 110 0 0) 110 1 0) 110 1 4, ?_, ?_, fun i hi => ?_, ?_, ?_, ?_, ?_⟩
          · simp (disch := omega) [fn_X8_sheet, e1, e2, h40, h0, pn, fn_X8_found, ob2]
          · simp (disch := omega) [fn_X9_sheet, pn, qS_in hj, ob1, e3, h40, h0, fn_X9_finding, ob2]
          · refine Sh1_congr (fun k => ?_) (fun k _ => ?_) ?_ ?_ (fun k _ => ?_) (hS i hi)
            all_goals simp (disch := omega) only [pu_n]
          · unfold SFi
            simp (disch := omega) only [pu_n, pu_s]
          · intro a k h1 h2
            simp (disch := omega) only [pu_n]
          · intro k h1 h2
            simp (disch := omega) only [pu_n]
          · intro k h1
            simp (disch := omega) only [pu_n]
      · exact bad (by simp [fn_X8_sheet, e1, e2, h40]) (by simp [fn_X9_sheet, pn, qS_in hj, ob1, e3, h40])
