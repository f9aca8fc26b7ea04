/-! WHAT WAS THERE BEFORE, and the words of the tables -/
def pz_B : List Cond := lw_tbl.filter goodWord
theorem pz_B_in {w : Cond} (h : w ∈ lw_tbl) (hg : goodWord w = true) : w ∈ pz_B := List.mem_filter.mpr ⟨h, hg⟩
theorem pz_B_good : ∀ w ∈ pz_B, w ∈ lw_tbl ∧ goodWord w = true := fun _ h => List.mem_filter.mp h
def pz_ws (G : pm_T) : List Cond := Cond.code G.2.1 G.2.2.1 G.2.2.2.1 G.2.2.2.2.1 :: pz_B
/-- the seven words: their places in the pool, their texts, their lengths -/
def pz_str : List (Nat × String × Nat) := [(51, "when", 4), (57, "give", 4), (59, "refuse", 6), (61, "saying", 6), (63, "edition", 7), (65, "try", 3), (67, "within", 6)]
def pz_nest : List Cond := lw_tbl.filter (fun w => match w with
  | .methodLinkNest _ _ _ _ => true
  | _ => false)
def pk_ft (k : Nat) : FieldType := ([.int, .byte, .short, .boolean, .object RX5, .object RX4, .object RX0] : List FieldType).getD k .int
theorem pz_sizes {k : Nat} {C : String} {T : u_T} {N : Nat} (hc : vwCl[k]? = some (C, T, N)) : N = pf_n k := by
  have hk : k < 10 := (List.getElem?_eq_some_iff.mp hc).1
  rcases (by omega : k = 0 ∨ k = 1 ∨ k = 2 ∨ k = 3 ∨ k = 4 ∨ k = 5 ∨ k = 6 ∨ k = 7 ∨ k = 8 ∨ k = 9) with rfl | rfl | rfl | rfl | rfl | rfl | rfl | rfl | rfl | rfl <;> cases hc <;> rfl
/-! what must be true of each entry of a method's list -/
def pe_link (own : String) (j : Nat) (y : MethodName) (v : Int) : Prop := if v = 1 then Cond.methodLinkNest own j y "CallLaws" ∈ pz_nest else Cond.methodLink own j y ∈ pz_B
/-- the class of a kind of receiver -/
def pe_cls (kind : Nat) : String := if kind = 20 then "java/lang/String" else ((vwCl[kind - 10]?).map (fun q => q.1)).getD ""
def pe_call (G1 : pm_T) (n : Nat) : Prop := (Cond.code G1.2.1 G1.2.2.1 G1.2.2.2.1 G1.2.2.2.2.1 ∈ pz_B ∧ Cond.initialized G1.2.1.cls ∈ pz_B ∧ plainName G1.2.1.cls = true ∧ G1.1 = G1.2.1.cls ∧ G1.2.2.2.1 ≤ 20) ∧
  G1.2.1.cls ≠ "java/lang/invoke/MethodHandle" ∧ G1.2.1.cls ≠ "java/lang/invoke/VarHandle" ∧ (parseMethodDescriptor G1.2.1.desc).map (fun d => d.parameters.length) = some n
def pe_fld (own : String) (j kind k : Nat) (C : String) (T : u_T) (N : Nat) : Prop := vwCl[kind - 10]? = some (C, T, N) ∧ k < N ∧ (T k).1 = C ∧ Cond.fieldLink own j C (T k).2.1 (T k).2.2.1 ∈ pz_B
def pe_len (i : Instr) : Option Nat := match i with
  | .tableswitch _ _ _ _ => none
  | .bipush _ | .ldc _ | .iload _ | .lload _ | .aload _ | .istore _ | .lstore _ | .astore _ | .newarray _ => some 2
  | .sipush _ | .ldc_w _ | .ldc2_w _ | .iinc _ _ | .ifCond _ _ | .if_icmp _ _ | .goto _ | .getfield _ | .putfield _ | .getstatic _ | .new _ | .anewarray _ | .invokespecial _ | .invokestatic _ | .invokevirtual _ => some 3
  | _ => some 1
def pe_ok (G : pm_T) (e : pe_T) : Prop :=
  decode G.2.2.1 e.1 = .ok (e.2.1, e.2.2.1 - e.1) ∧ (∀ n, pe_len e.2.1 = some n → e.2.2.1 = e.1 + n) ∧
  match e.2.1 with
  | .ldc j => (e.2.2.2.1 = 0 → Cond.constant G.1 j (Int32.ofInt e.2.2.2.2) ∈ pz_B) ∧ (e.2.2.2.1 ≠ 0 → G.1 = RX6 ∧ ∃ i q, pz_str[i]? = some q ∧ q.1 = j ∧ e.2.2.2.2.toNat = 3 + i)
  | .ldc_w j => Cond.constant G.1 j (Int32.ofInt e.2.2.2.2) ∈ pz_B
  | .ldc2_w j => Cond.constantLong G.1 j (Int64.ofInt e.2.2.2.2) ∈ pz_B
  | .istore j => j < G.2.2.2.1
  | .istore_n j => (j : Nat) < G.2.2.2.1
  | .astore j => j < G.2.2.2.1
  | .astore_n j => (j : Nat) < G.2.2.2.1
  | .lstore j => j + 1 < G.2.2.2.1
  | .lstore_n j => (j : Nat) + 1 < G.2.2.2.1
  | .iinc j _ => j < G.2.2.2.1
  | .ifCond _ off => (e.1 : Int) + off = (e.2.2.2.1 : Int)
  | .if_icmp _ off => (e.1 : Int) + off = (e.2.2.2.1 : Int)
  | .goto off => (e.1 : Int) + off = (e.2.2.2.1 : Int)
  | .getfield j => (e.2.2.2.2.toNat = 20 → (e.2.2.2.1 = 0 → Cond.fieldLink G.1 j "java/lang/String" "value" "[B" ∈ pz_B) ∧ (e.2.2.2.1 ≠ 0 → Cond.fieldLink G.1 j "java/lang/String" "coder" "B" ∈ pz_B)) ∧
      (e.2.2.2.2.toNat ≠ 20 → ∃ C T N, pe_fld G.1 j e.2.2.2.2.toNat e.2.2.2.1 C T N)
  | .putfield j => ∃ C T N, pe_fld G.1 j e.2.2.2.2.toNat e.2.2.2.1 C T N ∧ (if pf_ty (e.2.2.2.2.toNat - 10) e.2.2.2.1 = 1 then (T e.2.2.2.1).2.2.2 = true ∧ G.2.1.name = "<init>" ∧ C = G.1 else (T e.2.2.2.1).2.2.2 = false)
  | .getstatic j => (e.2.2.2.1 = 0 → e.2.2.2.2 = 1 ∧ Cond.fieldLink G.1 j "java/lang/String" "COMPACT_STRINGS" "Z" ∈ pz_B) ∧
      (e.2.2.2.1 = 1 → (e.2.2.2.2 = 1 ∧ Cond.fieldLink G.1 j "CallLaws" "ABOVE" "[I" ∈ pz_B) ∨ (e.2.2.2.2 = 2 ∧ Cond.fieldLink G.1 j "CallLaws$Houses" "WEIGHTS" "[I" ∈ pz_B)) ∧
      (e.2.2.2.1 = 2 → Cond.fieldLink G.1 j "jdk/internal/util/Preconditions" "SIOOBE_FORMATTER" "Ljava/util/function/BiFunction;" ∈ pz_B)
  | .new j => e.2.2.2.1 < 10 → ∃ C T N, vwCl[e.2.2.2.1]? = some (C, T, N) ∧ Cond.classLink G.1 j C ∈ pz_B ∧ Cond.instantiable C N ∈ pz_B ∧ Cond.initialized C ∈ pz_B ∧ N = pf_n e.2.2.2.1
  | .newarray t => e.2.2.2.1 < 4 ∧ newarray.typeOf t = pk_ft e.2.2.2.1 ∧ Cond.arrayClass (pk_ft e.2.2.2.1) ∈ pz_B
  | .anewarray j => 4 ≤ e.2.2.2.1 ∧ e.2.2.2.1 < 7 ∧ ∃ C, pk_ft e.2.2.2.1 = .object C ∧ (C = RX5 ∨ C = RX4 ∨ C = RX0) ∧ Cond.classLink G.1 j C ∈ pz_B
  | .invokespecial j => (e.2.2.2.1 = 1000 → Cond.methodLink G.1 j objectInit ∈ pz_B) ∧ (e.2.2.2.1 < 193 → e.2.2.1 = e.1 + 3 ∧ (pm e.2.2.2.1).2.1.name = "<init>" ∧ (pm e.2.2.2.1).2.2.2.2.1 = none ∧ Cond.instanceMethod (pm e.2.2.2.1).2.1 ∈ pz_B ∧ pe_link G.1 j (pm e.2.2.2.1).2.1 e.2.2.2.2 ∧ pe_call (pm e.2.2.2.1) ((pm e.2.2.2.1).2.2.2.2.2.1 - 1))
  | .invokestatic j => (e.2.2.2.1 = 1001 → Cond.methodLink G.1 j arraycopyName ∈ pz_B) ∧ (e.2.2.2.1 < 193 → e.2.2.1 = e.1 + 3 ∧ Cond.static (pm e.2.2.2.1).2.1 ∈ pz_B ∧ pe_link G.1 j (pm e.2.2.2.1).2.1 e.2.2.2.2 ∧ pe_call (pm e.2.2.2.1) (pm e.2.2.2.1).2.2.2.2.2.1)
  | .invokevirtual j => e.2.2.2.1 < 193 → e.2.2.1 = e.1 + 3 ∧ (10 ≤ e.2.2.2.2.toNat ∧ e.2.2.2.2.toNat ≤ 20) ∧ Cond.instanceMethod (pm e.2.2.2.1).2.1 ∈ pz_B ∧ Cond.selects (pm e.2.2.2.1).2.1.cls (pm e.2.2.2.1).2.1 (pm e.2.2.2.1).2.1 ∈ pz_B ∧ Cond.methodLink G.1 j (pm e.2.2.2.1).2.1 ∈ pz_B ∧ pe_cls e.2.2.2.2.toNat = (pm e.2.2.2.1).2.1.cls ∧ pe_call (pm e.2.2.2.1) ((pm e.2.2.2.1).2.2.2.2.2.1 - 1)
  | _ => True
