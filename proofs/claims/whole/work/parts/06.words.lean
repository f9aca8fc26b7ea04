/-! WHAT WAS THERE BEFORE, and the words of the tables -/
def pz_B : List Cond := lw_tbl.filter goodWord
theorem pz_B_in {w : Cond} (h : w ∈ lw_tbl) (hg : goodWord w = true) : w ∈ pz_B := List.mem_filter.mpr ⟨h, hg⟩
theorem pz_B_good : ∀ w ∈ pz_B, w ∈ lw_tbl ∧ goodWord w = true := fun _ h => List.mem_filter.mp h
def pz_ws (G : pm_T) : List Cond := Cond.code G.2.1 G.2.2.1 G.2.2.2.1 G.2.2.2.2.1 :: pz_B
/-- the seven words: their places in the pool, their texts, their lengths -/
def pz_str : List (Nat × String × Nat) := [(47, "when", 4), (53, "give", 4), (55, "refuse", 6), (57, "saying", 6), (59, "edition", 7), (61, "try", 3), (63, "within", 6)]
def pz_nest : List Cond := lw_tbl.filter (fun w => match w with
  | .methodLinkNest _ _ _ _ => true
  | _ => false)
def pz_X (Z : pz_T) (L : Nat) (h : ph_T) (U : State) (H : Heap) : Prop :=
  (va_X (Z.2.2.2.1 0) L (h.2.2 0) U H ∧ Z.2.2.2.1 0 < Z.2.2.1) ∧
  (va_T .int (Z.2.2.2.1 1) 6 (fun j => .int (h.2.2 1 j)) (pz_A Z) U H ∧ va_Z "CallLaws" "ABOVE" "[I" (.ref (Z.2.2.2.1 1)) (pz_A Z) U H) ∧
  (va_T .int (Z.2.2.2.1 2) 4 (fun j => .int (h.2.2 2 j)) (pz_A Z) U H ∧ va_Z "CallLaws$Houses" "WEIGHTS" "[I" (.ref (Z.2.2.2.1 2)) (pz_A Z) U H) ∧
  va_Z "java/lang/String" "COMPACT_STRINGS" "Z" (.int 1) (pz_A Z) U H ∧
  va_Z "jdk/internal/util/Preconditions" "SIOOBE_FORMATTER" "Ljava/util/function/BiFunction;" Z.2.2.2.2 (pz_A Z) U H ∧
  ∀ i : Nat, i < 7 → va_O "java/lang/String" (Z.2.2.2.1 (3 + i)) (pz_A Z) U H ∧ va_OF "java/lang/String" "coder" "B" (.int 0) (Z.2.2.2.1 (3 + i)) (pz_A Z) U H ∧ va_OF "java/lang/String" "value" "[B" (.ref (Z.2.2.2.1 (10 + i))) (Z.2.2.2.1 (3 + i)) (pz_A Z) U H ∧ va_T .byte (Z.2.2.2.1 (10 + i)) (px_sh L (10 + i)).2 (fun j => .int (h.2.2 (10 + i) j)) (pz_A Z) U H
def pz_N (Z : pz_T) (U : State) : Prop :=
  (∀ w ∈ pz_nest, va_Nw w U) ∧ (va_AO RX5 U ∧ va_AO RX4 U ∧ va_AO RX0 U) ∧ ∀ (i : Nat) (q : Nat × String × Nat), pz_str[i]? = some q → vk_R RX6 q.1 q.2.1 (Z.2.2.2.1 (3 + i)) U
theorem pz_X.moved {Z : pz_T} {L : Nat} {h : ph_T} {u U : State} {H : Heap} (hvm : u.vm.Alike U.vm) (x : pz_X Z L h u H) : pz_X Z L h U H := by
  obtain ⟨⟨a1, a2⟩, ⟨b1, b2⟩, ⟨c1, c2⟩, d1, e1, f1⟩ := x
  exact ⟨⟨a1.moved hvm, a2⟩, ⟨b1.moved hvm, b2.moved hvm⟩, ⟨c1.moved hvm, c2.moved hvm⟩, d1.moved hvm, e1.moved hvm, fun i hi => ⟨va_O.moved hvm (f1 i hi).1, va_OF.moved hvm (f1 i hi).2.1, va_OF.moved hvm (f1 i hi).2.2.1, va_T.moved hvm (f1 i hi).2.2.2⟩⟩
theorem pz_X.kept {Z : pz_T} {L : Nat} {h : ph_T} {U : State} {H H1 : Heap} (x : pz_X Z L h U H) (hb : Z.2.2.1 ≤ H.size) (hq : ∀ a : Nat, a < H.size → ¬ pz_A Z a → H1[a]? = H[a]?) : pz_X Z L h U H1 := by
  obtain ⟨⟨a1, a2⟩, ⟨b1, b2⟩, ⟨c1, c2⟩, d1, e1, f1⟩ := x
  exact ⟨⟨a1.kept (hq _ (Nat.lt_of_lt_of_le a2 hb) (Nat.not_le.mpr a2)), a2⟩, ⟨b1.kept hq, b2.kept hq⟩, ⟨c1.kept hq, c2.kept hq⟩, d1.kept hq, e1.kept hq, fun i hi => ⟨(f1 i hi).1.kept hq, (f1 i hi).2.1.kept hq, (f1 i hi).2.2.1.kept hq, (f1 i hi).2.2.2.kept hq⟩⟩
theorem pz_X.same {Z : pz_T} {L : Nat} {h h1 : ph_T} {U : State} {H : Heap} (x : pz_X Z L h U H) (he : ∀ a, a < 17 → h1.2.2 a = h.2.2 a) : pz_X Z L h1 U H := by
  obtain ⟨⟨a1, a2⟩, ⟨b1, b2⟩, ⟨c1, c2⟩, d1, e1, f1⟩ := x
  refine ⟨⟨?_, a2⟩, ⟨?_, b2⟩, ⟨?_, c2⟩, d1, e1, fun i hi => ⟨(f1 i hi).1, (f1 i hi).2.1, (f1 i hi).2.2.1, ?_⟩⟩
  · rw [he 0 (by omega)]; exact a1
  · rw [he 1 (by omega)]; exact b1
  · rw [he 2 (by omega)]; exact c1
  · rw [he (10 + i) (by omega)]; exact (f1 i hi).2.2.2
theorem pz_N.warm {Z : pz_T} {s U : State} (hW : s.WarmedH U.vm) (x : pz_N Z s) : pz_N Z U := by
  obtain ⟨a, ⟨b1, b2, b3⟩, c⟩ := x
  refine ⟨fun w hw => ?_, ⟨va_AO.moved hW.alike b1, va_AO.moved hW.alike b2, va_AO.moved hW.alike b3⟩, fun i q hq => vk_R.warm hW (c i q hq)⟩
  have h1 := a w hw
  have h2 := (List.mem_filter.mp hw).2
  cases w <;> first | exact va_Nw.warmM hW h1 | (simp at h2; done)
theorem pz_N.same {Z : pz_T} {u U : State} (hv : U.vm = u.vm) (x : pz_N Z u) : pz_N Z U := by
  obtain ⟨a, ⟨b1, b2, b3⟩, c⟩ := x
  have hA : u.vm.Alike U.vm := by rw [hv]; exact Vm.Alike.refl _
  refine ⟨fun w hw => ?_, ⟨va_AO.moved hA b1, va_AO.moved hA b2, va_AO.moved hA b3⟩, fun i q hq => vk_R.same hv (c i q hq)⟩
  have h2 := (List.mem_filter.mp hw).2
  have h1 := a w hw
  cases w <;> first | exact va_tabs rfl hv.symm h1 | (simp at h2; done)
/-- all that a method's start says of a heap and a state -/
def pz_R (Z : pz_T) (L : Nat) (h : ph_T) (U : State) : Prop := (pz_P Z h U.heap ∧ U.heap.size = Z.2.2.1 + h.1.length) ∧ va_K Z.1 vwCl (pz_tys Z) U ∧ pz_X Z L h U U.heap ∧ pz_N Z U
/-! what must be true of each entry of a method's list -/
def pe_link (own : String) (j : Nat) (y : MethodName) (v : Int) : Prop := if v = 1 then Cond.methodLinkNest own j y "CallLaws" ∈ pz_nest else Cond.methodLink own j y ∈ pz_B
/-- the class of a kind of receiver -/
def pe_cls (kind : Nat) : String := if kind = 20 then "java/lang/String" else ((vwCl[kind - 10]?).map (fun q => q.1)).getD ""
def pe_call (G1 : pm_T) (n : Nat) : Prop := (Cond.code G1.2.1 G1.2.2.1 G1.2.2.2.1 G1.2.2.2.2.1 ∈ pz_B ∧ Cond.initialized G1.2.1.cls ∈ pz_B ∧ plainName G1.2.1.cls = true ∧ G1.1 = G1.2.1.cls ∧ G1.2.2.2.1 ≤ 20) ∧
  G1.2.1.cls ≠ "java/lang/invoke/MethodHandle" ∧ G1.2.1.cls ≠ "java/lang/invoke/VarHandle" ∧ (parseMethodDescriptor G1.2.1.desc).map (fun d => d.parameters.length) = some n
def pe_fld (own : String) (j kind k : Nat) (C : String) (T : u_T) (N : Nat) : Prop := vwCl[kind - 10]? = some (C, T, N) ∧ k < N ∧ (T k).1 = C ∧ Cond.fieldLink own j C (T k).2.1 (T k).2.2.1 ∈ pz_B
def pe_len (i : Instr) : Option Nat := match i with
  | .tableswitch _ _ _ _ => none
  | .bipush _ | .ldc _ | .iload _ | .lload _ | .aload _ | .istore _ | .lstore _ | .astore _ | .newarray _ => some 2
  | .sipush _ | .ldc_w _ | .ldc2_w _ | .iinc _ _ | .ifCond _ _ | .if_icmp _ _ | .goto _ | .getfield _ | .putfield _ | .getstatic _ | .new _ | .anewarray _ | .invokespecial _ | .invokestatic _ | .invokevirtual _ => some 3
  | _ => some 1
def pe_ok (G : pm_T) (e : pe_T) : Prop :=
  decode G.2.2.1 e.1 = .ok (e.2.1, e.2.2.1 - e.1) ∧ (∀ n, pe_len e.2.1 = some n → e.2.2.1 = e.1 + n) ∧
  match e.2.1 with
  | .ldc j => (e.2.2.2.1 = 0 → Cond.constant G.1 j (Int32.ofInt e.2.2.2.2) ∈ pz_B) ∧ (e.2.2.2.1 ≠ 0 → G.1 = RX6 ∧ ∃ i q, pz_str[i]? = some q ∧ q.1 = j ∧ e.2.2.2.2.toNat = 3 + i)
  | .ldc_w j => Cond.constant G.1 j (Int32.ofInt e.2.2.2.2) ∈ pz_B
  | .ldc2_w j => Cond.constantLong G.1 j (Int64.ofInt e.2.2.2.2) ∈ pz_B
  | .istore j => j < G.2.2.2.1
  | .istore_n j => (j : Nat) < G.2.2.2.1
  | .astore j => j < G.2.2.2.1
  | .astore_n j => (j : Nat) < G.2.2.2.1
  | .lstore j => j + 1 < G.2.2.2.1
  | .lstore_n j => (j : Nat) + 1 < G.2.2.2.1
  | .iinc j _ => j < G.2.2.2.1
  | .ifCond _ off => (e.1 : Int) + off = (e.2.2.2.1 : Int)
  | .if_icmp _ off => (e.1 : Int) + off = (e.2.2.2.1 : Int)
  | .goto off => (e.1 : Int) + off = (e.2.2.2.1 : Int)
  | .getfield j => (e.2.2.2.2.toNat = 20 → (e.2.2.2.1 = 0 → Cond.fieldLink G.1 j "java/lang/String" "value" "[B" ∈ pz_B) ∧ (e.2.2.2.1 ≠ 0 → Cond.fieldLink G.1 j "java/lang/String" "coder" "B" ∈ pz_B)) ∧
      (e.2.2.2.2.toNat ≠ 20 → ∃ C T N, pe_fld G.1 j e.2.2.2.2.toNat e.2.2.2.1 C T N)
  | .putfield j => ∃ C T N, pe_fld G.1 j e.2.2.2.2.toNat e.2.2.2.1 C T N ∧ (if pf_ty (e.2.2.2.2.toNat - 10) e.2.2.2.1 = 1 then (T e.2.2.2.1).2.2.2 = true ∧ G.2.1.name = "<init>" ∧ C = G.1 else (T e.2.2.2.1).2.2.2 = false)
  | .getstatic j => (e.2.2.2.1 = 0 → e.2.2.2.2 = 1 ∧ Cond.fieldLink G.1 j "java/lang/String" "COMPACT_STRINGS" "Z" ∈ pz_B) ∧
      (e.2.2.2.1 = 1 → (e.2.2.2.2 = 1 ∧ Cond.fieldLink G.1 j "CallLaws" "ABOVE" "[I" ∈ pz_B) ∨ (e.2.2.2.2 = 2 ∧ Cond.fieldLink G.1 j "CallLaws$Houses" "WEIGHTS" "[I" ∈ pz_B)) ∧
      (e.2.2.2.1 = 2 → Cond.fieldLink G.1 j "jdk/internal/util/Preconditions" "SIOOBE_FORMATTER" "Ljava/util/function/BiFunction;" ∈ pz_B)
  | .new j => e.2.2.2.1 < 10 → ∃ C T N, vwCl[e.2.2.2.1]? = some (C, T, N) ∧ Cond.classLink G.1 j C ∈ pz_B ∧ Cond.instantiable C N ∈ pz_B ∧ Cond.initialized C ∈ pz_B ∧ N = pf_n e.2.2.2.1
  | .newarray t => e.2.2.2.1 < 4 ∧ newarray.typeOf t = pk_ft e.2.2.2.1 ∧ Cond.arrayClass (pk_ft e.2.2.2.1) ∈ pz_B
  | .anewarray j => 4 ≤ e.2.2.2.1 ∧ e.2.2.2.1 < 7 ∧ ∃ C, pk_ft e.2.2.2.1 = .object C ∧ (C = RX5 ∨ C = RX4 ∨ C = RX0) ∧ Cond.classLink G.1 j C ∈ pz_B
  | .invokespecial j => (e.2.2.2.1 = 1000 → Cond.methodLink G.1 j objectInit ∈ pz_B) ∧ (e.2.2.2.1 < 192 → e.2.2.1 = e.1 + 3 ∧ (pm e.2.2.2.1).2.1.name = "<init>" ∧ (pm e.2.2.2.1).2.2.2.2.1 = none ∧ Cond.instanceMethod (pm e.2.2.2.1).2.1 ∈ pz_B ∧ pe_link G.1 j (pm e.2.2.2.1).2.1 e.2.2.2.2 ∧ pe_call (pm e.2.2.2.1) ((pm e.2.2.2.1).2.2.2.2.2.1 - 1))
  | .invokestatic j => (e.2.2.2.1 = 1001 → Cond.methodLink G.1 j arraycopyName ∈ pz_B) ∧ (e.2.2.2.1 < 192 → e.2.2.1 = e.1 + 3 ∧ Cond.static (pm e.2.2.2.1).2.1 ∈ pz_B ∧ pe_link G.1 j (pm e.2.2.2.1).2.1 e.2.2.2.2 ∧ pe_call (pm e.2.2.2.1) (pm e.2.2.2.1).2.2.2.2.2.1)
  | .invokevirtual j => e.2.2.2.1 < 192 → e.2.2.1 = e.1 + 3 ∧ (10 ≤ e.2.2.2.2.toNat ∧ e.2.2.2.2.toNat ≤ 20) ∧ Cond.instanceMethod (pm e.2.2.2.1).2.1 ∈ pz_B ∧ Cond.selects (pm e.2.2.2.1).2.1.cls (pm e.2.2.2.1).2.1 (pm e.2.2.2.1).2.1 ∈ pz_B ∧ Cond.methodLink G.1 j (pm e.2.2.2.1).2.1 ∈ pz_B ∧ pe_cls e.2.2.2.2.toNat = (pm e.2.2.2.1).2.1.cls ∧ pe_call (pm e.2.2.2.1) ((pm e.2.2.2.1).2.2.2.2.2.1 - 1)
  | _ => True
