def os9 {ρ α1 α2 α3 α4 α5 α6 α7 α8 α9 δ : Type} (x : Option (ρ ⊕ (α1 × α2 × α3 × α4 × α5 × α6 × α7 × α8 × α9))) (g : ρ → Option δ) (k : α1 → α2 → α3 → α4 → α5 → α6 → α7 → α8 → α9 → Option δ) : Option δ := match x with
  | some (.inl q) => g q
  | some (.inr (a1, a2, a3, a4, a5, a6, a7, a8, a9)) => k a1 a2 a3 a4 a5 a6 a7 a8 a9
  | none => none
theorem os9_some {ρ α1 α2 α3 α4 α5 α6 α7 α8 α9 δ : Type} {x : Option (ρ ⊕ (α1 × α2 × α3 × α4 × α5 × α6 × α7 × α8 × α9))} {g : ρ → Option δ} {k : α1 → α2 → α3 → α4 → α5 → α6 → α7 → α8 → α9 → Option δ} {o : δ} (h : os9 x g k = some o) : (∃ q, x = some (.inl q) ∧ g q = some o) ∨ (∃ a1 a2 a3 a4 a5 a6 a7 a8 a9, x = some (.inr (a1, a2, a3, a4, a5, a6, a7, a8, a9)) ∧ k a1 a2 a3 a4 a5 a6 a7 a8 a9 = some o) := by
  cases x with
  | none => cases h
  | some a =>
    cases a with
    | inl q => exact Or.inl ⟨q, rfl, h⟩
    | inr a => exact Or.inr ⟨a.1, a.2.1, a.2.2.1, a.2.2.2.1, a.2.2.2.2.1, a.2.2.2.2.2.1, a.2.2.2.2.2.2.1, a.2.2.2.2.2.2.2.1, a.2.2.2.2.2.2.2.2, rfl, h⟩
theorem injr9 {ρ t1 t2 t3 t4 t5 t6 t7 t8 t9 : Type} {a1 b1 : t1} {a2 b2 : t2} {a3 b3 : t3} {a4 b4 : t4} {a5 b5 : t5} {a6 b6 : t6} {a7 b7 : t7} {a8 b8 : t8} {a9 b9 : t9} (h : (some (.inr (a1, a2, a3, a4, a5, a6, a7, a8, a9)) : Option (ρ ⊕ (t1 × t2 × t3 × t4 × t5 × t6 × t7 × t8 × t9))) = some (.inr (b1, b2, b3, b4, b5, b6, b7, b8, b9))) : a1 = b1 ∧ a2 = b2 ∧ a3 = b3 ∧ a4 = b4 ∧ a5 = b5 ∧ a6 = b6 ∧ a7 = b7 ∧ a8 = b8 ∧ a9 = b9 := inj9 (congrArg some (injr1 h))
