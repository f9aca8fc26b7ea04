theorem Sh1_congr {f g : pd_M} {j : Nat} (h1 : ∀ k, g (19 + 2 * j) k = f (19 + 2 * j) k) (h2 : ∀ k, k < 40 → g (20 + 2 * j) k = f (20 + 2 * j) k) (h3 : g 111 j = f 111 j) (h4 : g 112 j = f 112 j) (h5 : ∀ k, k < 40 → g 113 (40 * j + k) = f 113 (40 * j + k)) (h : Sh1 f j) : Sh1 g j := by
  unfold Sh1 at h ⊢
  rw [h1, h1, h1, h3, h4]
  refine ⟨h.1, h.2.1, fun k hk => ?_⟩
  rw [h2 k hk, h5 k hk]
  exact h.2.2 k hk
theorem op_drop {f : pd_M} (hS : SSh f) (hF : SFi f) (p : Int32) : ∃ r f1 f2, fn_X8_drop p f = some (r, f1) ∧ fn_X9_drop p f1 = some (r, f2) ∧ SSh f2 ∧ SFi f2 ∧ FrS f f2 := by
  rcases q_ix p (n := 8) (by decide) with h | ⟨j, hj, rfl⟩
  · have e1 : fn_X8_isBelow p 8 = 0 := qB_out (n := 8) (by decide) h
    refine ⟨-1000001, f, pi_up f 110 0 0, ?_, ?_, fun i hi => ?_, ?_, ?_, ?_, ?_⟩
    · simp [fn_X8_drop, e1]
    · simp [fn_X9_drop, pn, qS_out h, ob1]
    · exact Sh1_congr (fun k => pu_n (by omega)) (fun k _ => pu_n (by omega)) (pu_n (by omega)) (pu_n (by omega)) (fun k _ => pu_n (by omega)) (hS i hi)
    · unfold SFi
      simp (disch := omega) only [pu_n, pu_s]
      exact hF
    · intro a k h1 h2
      exact pu_n (by omega)
    · intro k h1 h2
      exact pu_n (by omega)
    · intro k h1
      exact pu_n (by omega)
  · have e1 : fn_X8_isBelow (nI j) 8 = 1 := qB_in (n := 8) hj (by decide)
    have hp := qP_in hj (by decide)
    have hcl : (nI j).toNatClampNeg = j := nI_clamp (by omega)
    obtain ⟨hh, ⟨n, hn, hn1, hn2⟩, hit⟩ := hS j hj
    rcases hh with ⟨h1, h2, h3⟩ | ⟨h1, h3⟩
    · have hl : 0 ≤ f 111 j := by rw [h3]; rcases h2 with z | z | z <;> rw [z] <;> decide
      refine ⟨nI n, pi_up (pi_up f (19 + 2 * j) 1 0) 17 8 0, pi_up (pi_up (pi_up (pi_up (pi_up f (19 + 2 * j) 1 0) 17 8 0) 110 0 0) 110 1 0) 111 j (-1), ?_, ?_, fun i hi => ?_, ?_, ?_, ?_, ?_⟩
      · simp (disch := omega) [fn_X8_drop, e1, hp, hcl, h1, pn, fn_X8_well, ob2, pu_n, pu_s, hn1]
      · simp (disch := omega) [fn_X9_drop, pn, qS_in hj, ob1, hp, hcl, pu_n, pu_s, hl, hn2]
      · by_cases hij : i = j
        · subst hij
          unfold Sh1
          simp (disch := omega) only [pu_n, pu_s]
          exact ⟨Or.inr ⟨trivial, trivial⟩, ⟨n, hn, hn1, hn2⟩, hit⟩
        · refine Sh1_congr (fun k => ?_) (fun k _ => ?_) ?_ ?_ (fun k _ => ?_) (hS i hi)
          all_goals simp (disch := omega) only [pu_n]
      · unfold SFi
        simp (disch := omega) only [pu_n, pu_s]
      · intro a k h1 h2
        simp (disch := omega) only [pu_n]
      · intro k h1 h2
        simp (disch := omega) only [pu_n]
      · intro k h1
        simp (disch := omega) only [pu_n]
    · sorry
