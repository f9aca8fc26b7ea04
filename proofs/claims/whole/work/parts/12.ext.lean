/-! WHAT WAS THERE BEFORE -/
def pz_X (Z : pz_T) (L : Nat) (h : ph_T) (U : State) (H : Heap) : Prop :=
  (va_X (Z.2.2.2.1 0) L (h.2.2 0) U H ∧ Z.2.2.2.1 0 < Z.2.2.1) ∧
  (va_T .int (Z.2.2.2.1 1) 6 (fun j => .int (h.2.2 1 j)) (pz_A Z) U H ∧ va_Z "CallLaws" "ABOVE" "[I" (.ref (Z.2.2.2.1 1)) (pz_A Z) U H) ∧
  (va_T .int (Z.2.2.2.1 2) 4 (fun j => .int (h.2.2 2 j)) (pz_A Z) U H ∧ va_Z "CallLaws$Houses" "WEIGHTS" "[I" (.ref (Z.2.2.2.1 2)) (pz_A Z) U H) ∧
  va_Z "java/lang/String" "COMPACT_STRINGS" "Z" (.int 1) (pz_A Z) U H ∧
  va_Z "jdk/internal/util/Preconditions" "SIOOBE_FORMATTER" "Ljava/util/function/BiFunction;" Z.2.2.2.2 (pz_A Z) U H ∧
  ∀ i : Nat, i < 7 → va_O "java/lang/String" (Z.2.2.2.1 (3 + i)) (pz_A Z) U H ∧ va_OF "java/lang/String" "coder" "B" (.int 0) (Z.2.2.2.1 (3 + i)) (pz_A Z) U H ∧ va_OF "java/lang/String" "value" "[B" (.ref (Z.2.2.2.1 (10 + i))) (Z.2.2.2.1 (3 + i)) (pz_A Z) U H ∧ va_T .byte (Z.2.2.2.1 (10 + i)) (px_sh L (10 + i)).2 (fun j => .int (h.2.2 (10 + i) j)) (pz_A Z) U H
def pz_N (Z : pz_T) (U : State) : Prop :=
  (∀ w ∈ pz_nest, va_Nw w U) ∧ (va_AO RX5 U ∧ va_AO RX4 U ∧ va_AO RX0 U) ∧ ∀ (i : Nat) (q : Nat × String × Nat), pz_str[i]? = some q → vk_R RX6 q.1 q.2.1 (Z.2.2.2.1 (3 + i)) U
theorem pz_X.moved {Z : pz_T} {L : Nat} {h : ph_T} {u U : State} {H : Heap} (hvm : u.vm.Alike U.vm) (x : pz_X Z L h u H) : pz_X Z L h U H := by
  obtain ⟨⟨a1, a2⟩, ⟨b1, b2⟩, ⟨c1, c2⟩, d1, e1, f1⟩ := x
  exact ⟨⟨a1.moved hvm, a2⟩, ⟨b1.moved hvm, b2.moved hvm⟩, ⟨c1.moved hvm, c2.moved hvm⟩, d1.moved hvm, e1.moved hvm, fun i hi => ⟨va_O.moved hvm (f1 i hi).1, va_OF.moved hvm (f1 i hi).2.1, va_OF.moved hvm (f1 i hi).2.2.1, va_T.moved hvm (f1 i hi).2.2.2⟩⟩
theorem pz_X.kept {Z : pz_T} {L : Nat} {h : ph_T} {U : State} {H H1 : Heap} (x : pz_X Z L h U H) (hb : Z.2.2.1 ≤ H.size) (hq : ∀ a : Nat, a < H.size → ¬ pz_A Z a → H1[a]? = H[a]?) : pz_X Z L h U H1 := by
  obtain ⟨⟨a1, a2⟩, ⟨b1, b2⟩, ⟨c1, c2⟩, d1, e1, f1⟩ := x
  exact ⟨⟨a1.kept (hq _ (Nat.lt_of_lt_of_le a2 hb) (Nat.not_le.mpr a2)), a2⟩, ⟨b1.kept hq, b2.kept hq⟩, ⟨c1.kept hq, c2.kept hq⟩, d1.kept hq, e1.kept hq, fun i hi => ⟨(f1 i hi).1.kept hq, (f1 i hi).2.1.kept hq, (f1 i hi).2.2.1.kept hq, (f1 i hi).2.2.2.kept hq⟩⟩
theorem pz_X.same {Z : pz_T} {L : Nat} {h h1 : ph_T} {U : State} {H : Heap} (x : pz_X Z L h U H) (he : ∀ a, a < 17 → h1.2.2 a = h.2.2 a) : pz_X Z L h1 U H := by
  obtain ⟨⟨a1, a2⟩, ⟨b1, b2⟩, ⟨c1, c2⟩, d1, e1, f1⟩ := x
  refine ⟨⟨?_, a2⟩, ⟨?_, b2⟩, ⟨?_, c2⟩, d1, e1, fun i hi => ⟨(f1 i hi).1, (f1 i hi).2.1, (f1 i hi).2.2.1, ?_⟩⟩
  · rw [he 0 (by omega)]; exact a1
  · rw [he 1 (by omega)]; exact b1
  · rw [he 2 (by omega)]; exact c1
  · rw [he (10 + i) (by omega)]; exact (f1 i hi).2.2.2
theorem pz_N.warm {Z : pz_T} {s U : State} (hW : s.WarmedH U.vm) (x : pz_N Z s) : pz_N Z U := by
  obtain ⟨a, ⟨b1, b2, b3⟩, c⟩ := x
  refine ⟨fun w hw => ?_, ⟨va_AO.moved hW.alike b1, va_AO.moved hW.alike b2, va_AO.moved hW.alike b3⟩, fun i q hq => vk_R.warm hW (c i q hq)⟩
  have h1 := a w hw
  have h2 := (List.mem_filter.mp hw).2
  cases w <;> first | exact va_Nw.warmM hW h1 | (simp at h2; done)
theorem pz_N.same {Z : pz_T} {u U : State} (hv : U.vm = u.vm) (x : pz_N Z u) : pz_N Z U := by
  obtain ⟨a, ⟨b1, b2, b3⟩, c⟩ := x
  have hA : u.vm.Alike U.vm := by rw [hv]; exact Vm.Alike.refl _
  refine ⟨fun w hw => ?_, ⟨va_AO.moved hA b1, va_AO.moved hA b2, va_AO.moved hA b3⟩, fun i q hq => vk_R.same hv (c i q hq)⟩
  have h2 := (List.mem_filter.mp hw).2
  have h1 := a w hw
  cases w <;> first | exact va_tabs rfl hv.symm h1 | (simp at h2; done)
/-- all that a method's start says of a heap and a state -/
def pz_R (Z : pz_T) (L : Nat) (h : ph_T) (U : State) : Prop := (pz_P Z h U.heap ∧ U.heap.size = Z.2.2.1 + h.1.length) ∧ va_K Z.1 vwCl (pz_tys Z) U ∧ pz_X Z L h U U.heap ∧ pz_N Z U
