/-! PURE: words and their values -/
def wQl (q : Nat) : Nat := [4, 4, 6, 6, 7, 3, 6].getD q 0
def wQb (q j : Nat) : Nat := (([[119, 104, 101, 110], [103, 105, 118, 101], [114, 101, 102, 117, 115, 101], [115, 97, 121, 105, 110, 103], [101, 100, 105, 116, 105, 111, 110], [116, 114, 121], [119, 105, 116, 104, 105, 110]] : List (List Nat)).getD q []).getD j 0
def wQv (q : Nat) : Nat := [2003330414, 1734964837, 125779836236645, 126862485974631, 28539376735186798, 7631481, 131294808271214].getD q 0
theorem wv_7 (B : Nat → Nat) (s : Nat) : wv B s 1 0 = B s ∧ wv B s 2 0 = B s * 256 + B (s + 1) ∧ wv B s 3 0 = (B s * 256 + B (s + 1)) * 256 + B (s + 2) ∧ wv B s 4 0 = ((B s * 256 + B (s + 1)) * 256 + B (s + 2)) * 256 + B (s + 3) ∧ wv B s 5 0 = (((B s * 256 + B (s + 1)) * 256 + B (s + 2)) * 256 + B (s + 3)) * 256 + B (s + 4) ∧ wv B s 6 0 = ((((B s * 256 + B (s + 1)) * 256 + B (s + 2)) * 256 + B (s + 3)) * 256 + B (s + 4)) * 256 + B (s + 5) ∧ wv B s 7 0 = (((((B s * 256 + B (s + 1)) * 256 + B (s + 2)) * 256 + B (s + 3)) * 256 + B (s + 4)) * 256 + B (s + 5)) * 256 + B (s + 6) := by
  refine ⟨?_, ?_, ?_, ?_, ?_, ?_, ?_⟩ <;> first | (simp only [wv, Nat.zero_mul, Nat.zero_add]; done) | (simp only [wv, Nat.zero_mul, Nat.zero_add]; rfl)
theorem wv_one {b : Nat → Nat} {q r : Nat} (hq : q < 7) (h0 : 0 < r) (h8 : r < 8) (s : Nat) (hb : ∀ j, j < r → 97 ≤ b (s + j) ∧ b (s + j) ≤ 122) : wv b s r 0 = wQv q ↔ r = wQl q ∧ ∀ j, j < wQl q → b (s + j) = wQb q j := by
  have W := wv_7 b s
  have b0 := hb 0
  have b1 := hb 1
  have b2 := hb 2
  have b3 := hb 3
  have b4 := hb 4
  have b5 := hb 5
  have b6 := hb 6
  rw [Nat.add_zero] at b0
  have fa : ∀ (P : Nat → Prop), (∀ j, j < 3 → P j) ↔ (P 0 ∧ P 1 ∧ P 2) := fun P => ⟨fun h => ⟨h 0 (by omega), h 1 (by omega), h 2 (by omega)⟩, fun h j hj => by
    rcases (by omega : j = 0 ∨ j = 1 ∨ j = 2) with rfl | rfl | rfl
    · exact h.1
    · exact h.2.1
    · exact h.2.2⟩
  have fb : ∀ (P : Nat → Prop), (∀ j, j < 4 → P j) ↔ (P 0 ∧ P 1 ∧ P 2 ∧ P 3) := fun P => ⟨fun h => ⟨h 0 (by omega), h 1 (by omega), h 2 (by omega), h 3 (by omega)⟩, fun h j hj => by
    rcases (by omega : j = 0 ∨ j = 1 ∨ j = 2 ∨ j = 3) with rfl | rfl | rfl | rfl
    · exact h.1
    · exact h.2.1
    · exact h.2.2.1
    · exact h.2.2.2⟩
  have fc : ∀ (P : Nat → Prop), (∀ j, j < 6 → P j) ↔ (P 0 ∧ P 1 ∧ P 2 ∧ P 3 ∧ P 4 ∧ P 5) := fun P => ⟨fun h => ⟨h 0 (by omega), h 1 (by omega), h 2 (by omega), h 3 (by omega), h 4 (by omega), h 5 (by omega)⟩, fun h j hj => by
    rcases (by omega : j = 0 ∨ j = 1 ∨ j = 2 ∨ j = 3 ∨ j = 4 ∨ j = 5) with rfl | rfl | rfl | rfl | rfl | rfl
    · exact h.1
    · exact h.2.1
    · exact h.2.2.1
    · exact h.2.2.2.1
    · exact h.2.2.2.2.1
    · exact h.2.2.2.2.2⟩
  have fd : ∀ (P : Nat → Prop), (∀ j, j < 7 → P j) ↔ (P 0 ∧ P 1 ∧ P 2 ∧ P 3 ∧ P 4 ∧ P 5 ∧ P 6) := fun P => ⟨fun h => ⟨h 0 (by omega), h 1 (by omega), h 2 (by omega), h 3 (by omega), h 4 (by omega), h 5 (by omega), h 6 (by omega)⟩, fun h j hj => by
    rcases (by omega : j = 0 ∨ j = 1 ∨ j = 2 ∨ j = 3 ∨ j = 4 ∨ j = 5 ∨ j = 6) with rfl | rfl | rfl | rfl | rfl | rfl | rfl
    · exact h.1
    · exact h.2.1
    · exact h.2.2.1
    · exact h.2.2.2.1
    · exact h.2.2.2.2.1
    · exact h.2.2.2.2.2.1
    · exact h.2.2.2.2.2.2⟩
  obtain ⟨w1, w2, w3, w4, w5, w6, w7⟩ := W
  rcases (by omega : q = 0 ∨ q = 1 ∨ q = 2 ∨ q = 3 ∨ q = 4 ∨ q = 5 ∨ q = 6) with rfl | rfl | rfl | rfl | rfl | rfl | rfl
  · show _ = 2003330414 ↔ r = 4 ∧ ∀ j, j < 4 → b (s + j) = wQb 0 j
    rw [fb]
    show _ ↔ r = 4 ∧ b s = 119 ∧ b (s + 1) = 104 ∧ b (s + 2) = 101 ∧ b (s + 3) = 110
    rcases (by omega : r = 1 ∨ r = 2 ∨ r = 3 ∨ r = 4 ∨ r = 5 ∨ r = 6 ∨ r = 7) with rfl | rfl | rfl | rfl | rfl | rfl | rfl
    all_goals first | rw [w1] | rw [w2] | rw [w3] | rw [w4] | rw [w5] | rw [w6] | rw [w7]
    all_goals omega
  · show _ = 1734964837 ↔ r = 4 ∧ ∀ j, j < 4 → b (s + j) = wQb 1 j
    rw [fb]
    show _ ↔ r = 4 ∧ b s = 103 ∧ b (s + 1) = 105 ∧ b (s + 2) = 118 ∧ b (s + 3) = 101
    rcases (by omega : r = 1 ∨ r = 2 ∨ r = 3 ∨ r = 4 ∨ r = 5 ∨ r = 6 ∨ r = 7) with rfl | rfl | rfl | rfl | rfl | rfl | rfl
    all_goals first | rw [w1] | rw [w2] | rw [w3] | rw [w4] | rw [w5] | rw [w6] | rw [w7]
    all_goals omega
  · show _ = 125779836236645 ↔ r = 6 ∧ ∀ j, j < 6 → b (s + j) = wQb 2 j
    rw [fc]
    show _ ↔ r = 6 ∧ b s = 114 ∧ b (s + 1) = 101 ∧ b (s + 2) = 102 ∧ b (s + 3) = 117 ∧ b (s + 4) = 115 ∧ b (s + 5) = 101
    rcases (by omega : r = 1 ∨ r = 2 ∨ r = 3 ∨ r = 4 ∨ r = 5 ∨ r = 6 ∨ r = 7) with rfl | rfl | rfl | rfl | rfl | rfl | rfl
    all_goals first | rw [w1] | rw [w2] | rw [w3] | rw [w4] | rw [w5] | rw [w6] | rw [w7]
    all_goals omega
  · show _ = 126862485974631 ↔ r = 6 ∧ ∀ j, j < 6 → b (s + j) = wQb 3 j
    rw [fc]
    show _ ↔ r = 6 ∧ b s = 115 ∧ b (s + 1) = 97 ∧ b (s + 2) = 121 ∧ b (s + 3) = 105 ∧ b (s + 4) = 110 ∧ b (s + 5) = 103
    rcases (by omega : r = 1 ∨ r = 2 ∨ r = 3 ∨ r = 4 ∨ r = 5 ∨ r = 6 ∨ r = 7) with rfl | rfl | rfl | rfl | rfl | rfl | rfl
    all_goals first | rw [w1] | rw [w2] | rw [w3] | rw [w4] | rw [w5] | rw [w6] | rw [w7]
    all_goals omega
  · show _ = 28539376735186798 ↔ r = 7 ∧ ∀ j, j < 7 → b (s + j) = wQb 4 j
    rw [fd]
    show _ ↔ r = 7 ∧ b s = 101 ∧ b (s + 1) = 100 ∧ b (s + 2) = 105 ∧ b (s + 3) = 116 ∧ b (s + 4) = 105 ∧ b (s + 5) = 111 ∧ b (s + 6) = 110
    rcases (by omega : r = 1 ∨ r = 2 ∨ r = 3 ∨ r = 4 ∨ r = 5 ∨ r = 6 ∨ r = 7) with rfl | rfl | rfl | rfl | rfl | rfl | rfl
    all_goals first | rw [w1] | rw [w2] | rw [w3] | rw [w4] | rw [w5] | rw [w6] | rw [w7]
    all_goals omega
  · show _ = 7631481 ↔ r = 3 ∧ ∀ j, j < 3 → b (s + j) = wQb 5 j
    rw [fa]
    show _ ↔ r = 3 ∧ b s = 116 ∧ b (s + 1) = 114 ∧ b (s + 2) = 121
    rcases (by omega : r = 1 ∨ r = 2 ∨ r = 3 ∨ r = 4 ∨ r = 5 ∨ r = 6 ∨ r = 7) with rfl | rfl | rfl | rfl | rfl | rfl | rfl
    all_goals first | rw [w1] | rw [w2] | rw [w3] | rw [w4] | rw [w5] | rw [w6] | rw [w7]
    all_goals omega
  · show _ = 131294808271214 ↔ r = 6 ∧ ∀ j, j < 6 → b (s + j) = wQb 6 j
    rw [fc]
    show _ ↔ r = 6 ∧ b s = 119 ∧ b (s + 1) = 105 ∧ b (s + 2) = 116 ∧ b (s + 3) = 104 ∧ b (s + 4) = 105 ∧ b (s + 5) = 110
    rcases (by omega : r = 1 ∨ r = 2 ∨ r = 3 ∨ r = 4 ∨ r = 5 ∨ r = 6 ∨ r = 7) with rfl | rfl | rfl | rfl | rfl | rfl | rfl
    all_goals first | rw [w1] | rw [w2] | rw [w3] | rw [w4] | rw [w5] | rw [w6] | rw [w7]
    all_goals omega
