/-! PURE: the class's ints and the reference's -/
theorem q_lt (a b : Int32) : a < b ↔ a.toInt < b.toInt := Int32.lt_iff_toInt_lt
theorem q_le (a b : Int32) : a ≤ b ↔ a.toInt ≤ b.toInt := Int32.le_iff_toInt_le
theorem q_ix (p : Int32) {n : Nat} (hn : n < 2 ^ 31) : (¬ (0 ≤ p.toInt ∧ p.toInt < n)) ∨ ∃ j : Nat, j < n ∧ p = nI j := by
  by_cases h : 0 ≤ p.toInt ∧ p.toInt < n
  · refine Or.inr ⟨p.toInt.toNat, by omega, ?_⟩
    refine Int32.toInt_inj.mp ?_
    rw [nI_toInt (by omega)]
    omega
  · exact Or.inl h
theorem qB (p n : Int32) : fn_X8_isBelow p n = if 0 ≤ p.toInt ∧ p.toInt < n.toInt then 1 else 0 := by
  unfold fn_X8_isBelow
  have h0 : (0 : Int32).toInt = 0 := by decide
  by_cases h1 : p < 0
  · rw [if_pos h1, if_neg]
    rw [q_lt, h0] at h1
    omega
  · rw [if_neg h1]
    rw [q_lt, h0] at h1
    by_cases h2 : n ≤ p
    · rw [if_pos h2, if_neg]
      rw [q_le] at h2
      omega
    · rw [if_neg h2, if_pos]
      rw [q_le] at h2
      omega
theorem qB_in {j n : Nat} (h : j < n) (hn : n < 2 ^ 31) : fn_X8_isBelow (nI j) (nI n) = 1 := by
  rw [qB, nI_toInt hn, nI_toInt (by omega), if_pos (by omega)]
theorem qB_out {p : Int32} {n : Nat} (hn : n < 2 ^ 31) (h : ¬ (0 ≤ p.toInt ∧ p.toInt < n)) : fn_X8_isBelow p (nI n) = 0 := by
  rw [qB, nI_toInt hn, if_neg h]
theorem q_cmp (a b : Int64) : (lg_cmp a b < 0 ↔ a.toInt < b.toInt) ∧ (0 < lg_cmp a b ↔ b.toInt < a.toInt) ∧ (lg_cmp a b ≤ 0 ↔ a.toInt ≤ b.toInt) := by
  unfold lg_cmp
  have e1 : (a > b) ↔ b.toInt < a.toInt := Int64.lt_iff_toInt_lt
  by_cases h1 : a > b
  · rw [if_pos h1]
    have := e1.mp h1
    refine ⟨⟨fun z => absurd z (by decide), fun z => by omega⟩, ⟨fun _ => this, fun _ => by decide⟩, ⟨fun z => absurd z (by decide), fun z => by omega⟩⟩
  · rw [if_neg h1]
    have h2 : ¬ b.toInt < a.toInt := fun z => h1 (e1.mpr z)
    by_cases h3 : a = b
    · rw [if_pos h3]
      subst h3
      refine ⟨⟨fun z => absurd z (by decide), fun z => by omega⟩, ⟨fun z => absurd z (by decide), fun z => by omega⟩, ⟨fun _ => by omega, fun _ => by decide⟩⟩
    · rw [if_neg h3]
      have h4 : a.toInt ≠ b.toInt := fun z => h3 (Int64.toInt_inj.mp z)
      refine ⟨⟨fun _ => by omega, fun _ => by decide⟩, ⟨fun z => absurd z (by decide), fun z => by omega⟩, ⟨fun _ => by omega, fun _ => by decide⟩⟩
theorem qI (a b c : Int64) : fn_X9_in a b c = if b.toInt ≤ a.toInt ∧ a.toInt ≤ c.toInt then 1 else 0 := by
  unfold fn_X9_in
  by_cases h1 : lg_cmp a b < 0
  · rw [if_pos h1, if_neg]
    have := (q_cmp a b).1.mp h1
    omega
  · rw [if_neg h1]
    have h1' : ¬ a.toInt < b.toInt := fun z => h1 ((q_cmp a b).1.mpr z)
    by_cases h2 : 0 < lg_cmp a c
    · rw [if_pos h2, if_neg]
      have := (q_cmp a c).2.1.mp h2
      omega
    · rw [if_neg h2, if_pos]
      have h2' : ¬ c.toInt < a.toInt := fun z => h2 ((q_cmp a c).2.1.mpr z)
      omega
theorem q_l (x : Int32) : x.toInt64.toInt = x.toInt := Int32.toInt_toInt64 x
theorem q_lN : ∀ n : Nat, n < 2 ^ 31 → (lN n).toInt = (n : Int) := fun n h => lN_toInt h
theorem qI_in {j lo hi : Nat} (h1 : lo ≤ j) (h2 : j ≤ hi) (hh : hi < 2 ^ 31) : fn_X9_in (nI j).toInt64 (lN lo) (lN hi) = 1 := by
  rw [qI, q_l, nI_toInt (by omega), q_lN lo (by omega), q_lN hi hh, if_pos (by omega)]
theorem qI_out {p : Int32} {lo hi : Nat} (hl : lo < 2 ^ 31) (hh : hi < 2 ^ 31) (h : ¬ ((lo : Int) ≤ p.toInt ∧ p.toInt ≤ hi)) : fn_X9_in p.toInt64 (lN lo) (lN hi) = 0 := by
  rw [qI, q_l, q_lN lo hl, q_lN hi hh, if_neg h]
theorem qP_in {j n : Nat} (h : j < n) (hn : n < 2 ^ 31) : pa_in (nI j) n = true := pa_in_iff.mpr (vp_in_nI h hn)
theorem qS_in {j : Nat} (h : j < 8) : fn_X9_isSheet (nI j) = some 1 := by
  have e : fn_X9_in (nI j).toInt64 0 7 = 1 := qI_in (lo := 0) (hi := 7) (by omega) (by omega) (by decide)
  unfold fn_X9_isSheet
  rw [e, if_pos (Or.inr rfl)]
theorem qS_out {p : Int32} (h : ¬ (0 ≤ p.toInt ∧ p.toInt < (8 : Nat))) : fn_X9_isSheet p = some 0 := by
  have e : fn_X9_in p.toInt64 0 7 = 0 := qI_out (lo := 0) (hi := 7) (by decide) (by decide) (by omega)
  unfold fn_X9_isSheet
  rw [e, if_pos (Or.inl rfl)]
theorem pu_s {f : pd_M} {a i : Nat} {x : Int32} : pi_up f a i x a i = x := by unfold pi_up; rw [if_pos ⟨rfl, rfl⟩]
theorem pu_n {f : pd_M} {a i b j : Nat} {x : Int32} (h : ¬ (b = a ∧ j = i)) : pi_up f a i x b j = f b j := by unfold pi_up; rw [if_neg h]
/-- sheets: one of them, in the class and in the reference -/
def Sh1 (f : pd_M) (j : Nat) : Prop :=
  ((f (19 + 2 * j) 1 = 1 ∧ (f (19 + 2 * j) 2 = 0 ∨ f (19 + 2 * j) 2 = 1 ∨ f (19 + 2 * j) 2 = 2) ∧ f 111 j = f (19 + 2 * j) 2) ∨ (f (19 + 2 * j) 1 = 0 ∧ f 111 j = -1)) ∧
  (∃ n : Nat, n ≤ 40 ∧ f (19 + 2 * j) 3 = nI n ∧ f 112 j = nI n) ∧ ∀ k, k < 40 → f (20 + 2 * j) k = f 113 (40 * j + k)
def SSh (f : pd_M) : Prop := ∀ j, j < 8 → Sh1 f j
/-- the latest finding -/
def SFi (f : pd_M) : Prop := f 17 8 = f 110 1
/-- what the calls on sheets may change -/
def FrS (f g : pd_M) : Prop := (∀ a k, (a < 17 ∨ 35 ≤ a) → (a < 110 ∨ 114 ≤ a) → g a k = f a k) ∧ (∀ k, k ≠ 0 → k ≠ 1 → g 110 k = f 110 k) ∧ ∀ k, k ≠ 8 → g 17 k = f 17 k
