/-! ONE STEP at the heap -/
theorem px_kinds : ∀ a, a < 17 → ∀ L, ((px_sh L a).1 = 0 ∧ (a = 0 ∨ a = 1 ∨ a = 2)) ∨ ((px_sh L a).1 = 20 ∧ 3 ≤ a ∧ a < 10) ∨ ((px_sh L a).1 = 1 ∧ 10 ≤ a) := by
  intro a ha L
  rcases (by omega : a = 0 ∨ a = 1 ∨ a = 2 ∨ a = 3 ∨ a = 4 ∨ a = 5 ∨ a = 6 ∨ a = 7 ∨ a = 8 ∨ a = 9 ∨ a = 10 ∨ a = 11 ∨ a = 12 ∨ a = 13 ∨ a = 14 ∨ a = 15 ∨ a = 16) with rfl | rfl | rfl | rfl | rfl | rfl | rfl | rfl | rfl | rfl | rfl | rfl | rfl | rfl | rfl | rfl | rfl <;> simp [px_sh]
theorem ps_sh_ext {L : Nat} {h : ph_T} {a : Nat} (ha : a < 17) : ps_sh L h a = px_sh L a := by unfold ps_sh; rw [if_pos ha]
theorem pz_ad_ext {Z : pz_T} {a : Nat} (ha : a < 17) : pz_ad Z a = Z.2.2.2.1 a := by unfold pz_ad; rw [if_pos ha]
theorem pz_ad_in {Z : pz_T} {a : Nat} (ha : 17 ≤ a) : pz_ad Z a = Z.2.2.1 + (a - 17) := by unfold pz_ad; rw [if_neg (by omega)]
theorem pa_in_iff {i : Int32} {n : Nat} : pa_in i n = true ↔ vp_in i n := by unfold pa_in vp_in; exact decide_eq_true_iff
theorem pz_cell_i {Z : pz_T} {h : ph_T} {a : Nat} {q : Nat × Nat} (hq : q.1 < 4) : pz_cell Z h a q = .inl (Z.2.1 q.1, q.2, .inl (h.2.2 a)) := by unfold pz_cell; rw [if_pos hq]
theorem pz_cell_r {Z : pz_T} {h : ph_T} {a : Nat} {q : Nat × Nat} (hq : 4 ≤ q.1) (hq2 : q.1 < 7) : pz_cell Z h a q = .inl (Z.2.1 q.1, q.2, .inr (.inr (.inr (.inr (fun j => pz_rf Z (h.2.1 a j)))))) := by unfold pz_cell; rw [if_neg (by omega), if_pos hq2]
theorem pz_cell_o {Z : pz_T} {h : ph_T} {a : Nat} {q : Nat × Nat} (hq : 7 ≤ q.1) : pz_cell Z h a q = .inr (q.1 - 10, (List.range q.2).map (fun j => pz_fv Z h a (q.1 - 10) j)) := by unfold pz_cell; rw [if_neg (by omega), if_neg (by omega)]
theorem pz_words {k : Nat} {C : String} {T : u_T} {N : Nat} (hc : vwCl[k]? = some (C, T, N)) : ∀ w ∈ u_ws C T N, w ∈ pz_B := by
  have key : ∀ q ∈ vwCl, ∀ w ∈ u_ws q.1 q.2.1 q.2.2, w ∈ pz_B := by
    have h : vwCl.all (fun q => (u_ws q.1 q.2.1 q.2.2).all (fun w => decide (w ∈ lw_tbl) && goodWord w)) = true := by decide +kernel
    intro q hq w hw
    have h1 := List.all_eq_true.mp (List.all_eq_true.mp h q hq) w hw
    simp only [Bool.and_eq_true, decide_eq_true_eq] at h1
    exact pz_B_in h1.1 h1.2
  exact key _ (List.mem_of_getElem? hc)
def pz_fty (ci k : Nat) : FieldType := match pf_ty ci k with
  | 0 => .int
  | 2 => .boolean
  | _ => .array .int
theorem pz_names {k : Nat} {C : String} {T : u_T} {N : Nat} (hc : vwCl[k]? = some (C, T, N)) : (∀ a, a < N → ∀ b, b < N → a ≠ b → (T a).2.1 ≠ (T b).2.1) ∧ ∃ ty : Nat → FieldType, (∀ j, j < N → parseFieldDescriptor (T j).2.2.1 = some (ty j) ∧ ((pf_ty k j = 0 ∧ ty j = .int) ∨ (pf_ty k j = 2 ∧ ty j = .boolean) ∨ (pf_ty k j = 1 ∧ ((∃ n, ty j = .object n) ∨ ∃ t, ty j = .array t)))) := by
  have hk : k < 10 := (List.getElem?_eq_some_iff.mp hc).1
  rcases (by omega : k = 0 ∨ k = 1 ∨ k = 2 ∨ k = 3 ∨ k = 4 ∨ k = 5 ∨ k = 6 ∨ k = 7 ∨ k = 8 ∨ k = 9) with rfl | rfl | rfl | rfl | rfl | rfl | rfl | rfl | rfl | rfl <;> cases hc
  · exact ⟨nmX0, tyX0, fun j hj => ⟨tyX0_ok j hj, by rcases (by omega : j = 0 ∨ j = 1) with rfl | rfl <;> simp [pf_ty, tyX0]⟩⟩
  · exact ⟨nmX1, tyX1, fun j hj => ⟨tyX1_ok j hj, by rcases (by omega : j = 0 ∨ j = 1 ∨ j = 2 ∨ j = 3) with rfl | rfl | rfl | rfl <;> simp [pf_ty, tyX1]⟩⟩
  · exact ⟨nmX2, tyX2, fun j hj => ⟨tyX2_ok j hj, by rcases (by omega : j = 0 ∨ j = 1 ∨ j = 2 ∨ j = 3 ∨ j = 4) with rfl | rfl | rfl | rfl | rfl <;> simp [pf_ty, tyX2]⟩⟩
  · exact ⟨nmX3, tyX3, fun j hj => ⟨tyX3_ok j hj, by rcases (by omega : j = 0 ∨ j = 1 ∨ j = 2 ∨ j = 3 ∨ j = 4) with rfl | rfl | rfl | rfl | rfl <;> simp [pf_ty, tyX3]⟩⟩
  · exact ⟨nmX4, tyX4, fun j hj => ⟨tyX4_ok j hj, by rcases (by omega : j = 0 ∨ j = 1 ∨ j = 2 ∨ j = 3 ∨ j = 4 ∨ j = 5 ∨ j = 6 ∨ j = 7 ∨ j = 8) with rfl | rfl | rfl | rfl | rfl | rfl | rfl | rfl | rfl <;> simp [pf_ty, tyX4]⟩⟩
  · exact ⟨nmX5, tyX5, fun j hj => ⟨tyX5_ok j hj, by rcases (by omega : j = 0 ∨ j = 1 ∨ j = 2 ∨ j = 3) with rfl | rfl | rfl | rfl <;> simp [pf_ty, tyX5]⟩⟩
  · exact ⟨nmX6, tyX6, fun j hj => ⟨tyX6_ok j hj, by rcases (by omega : j = 0 ∨ j = 1 ∨ j = 2 ∨ j = 3) with rfl | rfl | rfl | rfl <;> simp [pf_ty, tyX6]⟩⟩
  · exact ⟨nmX7, tyX7, fun j hj => ⟨tyX7_ok j hj, by rcases (by omega : j = 0 ∨ j = 1 ∨ j = 2 ∨ j = 3) with rfl | rfl | rfl | rfl <;> simp [pf_ty, tyX7]⟩⟩
  · exact ⟨nmX8, tyX8, fun j hj => ⟨tyX8_ok j hj, by rcases (by omega : j = 0 ∨ j = 1 ∨ j = 2 ∨ j = 3 ∨ j = 4 ∨ j = 5 ∨ j = 6 ∨ j = 7 ∨ j = 8) with rfl | rfl | rfl | rfl | rfl | rfl | rfl | rfl | rfl <;> simp [pf_ty, tyX8]⟩⟩
  · refine ⟨nmX9, tyX9, fun j hj => ⟨tyX9_ok j hj, ?_⟩⟩
    have key : ∀ j, j < 44 → (pf_ty 9 j = 0 ∧ tyX9 j = .int) ∨ (pf_ty 9 j = 1 ∧ (tyX9 j = .array .int ∨ tyX9 j = .array .boolean)) := by decide +kernel
    rcases key j hj with q | ⟨q1, q2 | q2⟩
    · exact Or.inl q
    · exact Or.inr (Or.inr ⟨q1, Or.inr ⟨_, q2⟩⟩)
    · exact Or.inr (Or.inr ⟨q1, Or.inr ⟨_, q2⟩⟩)
