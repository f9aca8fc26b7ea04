/-! THE TABLE IS RIGHT: a check that a program decides; hs: where the words stand in the tables -/
def pq (p : Nat) (w : Cond) : Bool := decide (lw_tbl[p]? = some w) && goodWord w
theorem pq_in {p : Nat} {w : Cond} (h : pq p w = true) : w ∈ pz_B := by
  unfold pq at h
  simp only [Bool.and_eq_true, decide_eq_true_eq] at h
  exact pz_B_in (List.mem_of_getElem? h.1) h.2
def pq_link (p : Nat) (own : String) (j : Nat) (y : MethodName) (v : Int) : Bool := if v = 1 then decide (lw_tbl[p]? = some (Cond.methodLinkNest own j y "CallLaws")) else pq p (Cond.methodLink own j y)
theorem pq_link_in {p : Nat} {own : String} {j : Nat} {y : MethodName} {v : Int} (h : pq_link p own j y v = true) : pe_link own j y v := by
  unfold pq_link at h
  unfold pe_link
  split at h
  next hv =>
    rw [if_pos hv]
    exact List.mem_filter.mpr ⟨List.mem_of_getElem? (of_decide_eq_true h), rfl⟩
  next hv =>
    rw [if_neg hv]
    exact pq_in h
def pq_fld (p : Nat) (own : String) (j kind k : Nat) : Bool := match vwCl[kind - 10]? with
  | some (C, T, N) => decide (k < N) && (decide ((T k).1 = C) && pq p (Cond.fieldLink own j C (T k).2.1 (T k).2.2.1))
  | none => false
theorem pq_fld_in {p : Nat} {own : String} {j kind k : Nat} (h : pq_fld p own j kind k = true) : ∃ C T N, pe_fld own j kind k C T N := by
  unfold pq_fld at h
  split at h
  next C T N hc =>
    simp only [Bool.and_eq_true, decide_eq_true_eq] at h
    exact ⟨C, T, N, hc, h.1, h.2.1, pq_in h.2.2⟩
  next => cases h
/-- a method that may be called -/
def pe_mb (m : Nat) (hs : List Nat) : Bool := pq (hs.getD 0 0) (Cond.code (pm m).2.1 (pm m).2.2.1 (pm m).2.2.2.1 (pm m).2.2.2.2.1) && (pq (hs.getD 1 0) (Cond.initialized (pm m).2.1.cls) && (plainName (pm m).2.1.cls && (decide ((pm m).1 = (pm m).2.1.cls) && (decide ((pm m).2.2.2.1 ≤ 20) && decide ((pm m).2.1.cls ≠ "java/lang/invoke/MethodHandle" ∧ (pm m).2.1.cls ≠ "java/lang/invoke/VarHandle")))))
theorem pe_mb_ok {m : Nat} {hs : List Nat} (h : pe_mb m hs = true) {n : Nat} (hn : (parseMethodDescriptor (pm m).2.1.desc).map (fun d => d.parameters.length) = some n) : pe_call (pm m) n := by
  unfold pe_mb at h
  simp only [Bool.and_eq_true, decide_eq_true_eq] at h
  obtain ⟨h1, h2, h3, h4, h5, h6⟩ := h
  exact ⟨⟨pq_in h1, pq_in h2, h3, h4, h5⟩, h6.1, h6.2, hn⟩
def pe_n (m n : Nat) : Bool := decide ((parseMethodDescriptor (pm m).2.1.desc).map (fun d => d.parameters.length) = some n)
def pe_b (G : pm_T) (e : pe_T) (hs : List Nat) : Bool :=
  decide (decode G.2.2.1 e.1 = .ok (e.2.1, e.2.2.1 - e.1)) && ((match pe_len e.2.1 with
    | some n => decide (e.2.2.1 = e.1 + n)
    | none => true) &&
  match e.2.1 with
  | .ldc j => if e.2.2.2.1 = 0 then pq (hs.getD 0 0) (Cond.constant G.1 j (Int32.ofInt e.2.2.2.2)) else decide (G.1 = RX6 ∧ 3 ≤ e.2.2.2.2.toNat ∧ (pz_str[e.2.2.2.2.toNat - 3]?).map (fun q => q.1) = some j)
  | .ldc_w j => pq (hs.getD 0 0) (Cond.constant G.1 j (Int32.ofInt e.2.2.2.2))
  | .ldc2_w j => pq (hs.getD 0 0) (Cond.constantLong G.1 j (Int64.ofInt e.2.2.2.2))
  | .istore j => decide (j < G.2.2.2.1)
  | .istore_n j => decide ((j : Nat) < G.2.2.2.1)
  | .astore j => decide (j < G.2.2.2.1)
  | .astore_n j => decide ((j : Nat) < G.2.2.2.1)
  | .lstore j => decide (j + 1 < G.2.2.2.1)
  | .lstore_n j => decide ((j : Nat) + 1 < G.2.2.2.1)
  | .iinc j _ => decide (j < G.2.2.2.1)
  | .ifCond _ off => decide ((e.1 : Int) + off = (e.2.2.2.1 : Int))
  | .if_icmp _ off => decide ((e.1 : Int) + off = (e.2.2.2.1 : Int))
  | .goto off => decide ((e.1 : Int) + off = (e.2.2.2.1 : Int))
  | .getfield j => if e.2.2.2.2.toNat = 20 then (if e.2.2.2.1 = 0 then pq (hs.getD 0 0) (Cond.fieldLink G.1 j "java/lang/String" "value" "[B") else pq (hs.getD 0 0) (Cond.fieldLink G.1 j "java/lang/String" "coder" "B")) else pq_fld (hs.getD 0 0) G.1 j e.2.2.2.2.toNat e.2.2.2.1
  | .putfield j => pq_fld (hs.getD 0 0) G.1 j e.2.2.2.2.toNat e.2.2.2.1 && (match vwCl[e.2.2.2.2.toNat - 10]? with
    | some (C, T, _) => if pf_ty (e.2.2.2.2.toNat - 10) e.2.2.2.1 = 1 then decide ((T e.2.2.2.1).2.2.2 = true ∧ G.2.1.name = "<init>" ∧ C = G.1) else decide ((T e.2.2.2.1).2.2.2 = false)
    | none => false)
  | .getstatic j => if e.2.2.2.1 = 0 then decide (e.2.2.2.2 = 1) && pq (hs.getD 0 0) (Cond.fieldLink G.1 j "java/lang/String" "COMPACT_STRINGS" "Z")
      else if e.2.2.2.1 = 1 then (if e.2.2.2.2 = 1 then pq (hs.getD 0 0) (Cond.fieldLink G.1 j "CallLaws" "ABOVE" "[I") else decide (e.2.2.2.2 = 2) && pq (hs.getD 0 0) (Cond.fieldLink G.1 j "CallLaws$Houses" "WEIGHTS" "[I"))
      else if e.2.2.2.1 = 2 then pq (hs.getD 0 0) (Cond.fieldLink G.1 j "jdk/internal/util/Preconditions" "SIOOBE_FORMATTER" "Ljava/util/function/BiFunction;") else true
  | .new j => if e.2.2.2.1 < 10 then (match vwCl[e.2.2.2.1]? with
      | some (C, _, N) => pq (hs.getD 0 0) (Cond.classLink G.1 j C) && (pq (hs.getD 1 0) (Cond.instantiable C N) && pq (hs.getD 2 0) (Cond.initialized C))
      | none => false) else true
  | .newarray t => decide (e.2.2.2.1 < 4 ∧ newarray.typeOf t = pk_ft e.2.2.2.1) && pq (hs.getD 0 0) (Cond.arrayClass (pk_ft e.2.2.2.1))
  | .anewarray j => decide (4 ≤ e.2.2.2.1 ∧ e.2.2.2.1 < 7) && (match pk_ft e.2.2.2.1 with
      | .object C => decide (C = RX5 ∨ C = RX4 ∨ C = RX0) && pq (hs.getD 0 0) (Cond.classLink G.1 j C)
      | _ => false)
  | .invokespecial j => if e.2.2.2.1 = 1000 then pq (hs.getD 0 0) (Cond.methodLink G.1 j objectInit) else if e.2.2.2.1 < 193 then decide ((pm e.2.2.2.1).2.1.name = "<init>" ∧ (pm e.2.2.2.1).2.2.2.2.1 = none) && (pq (hs.getD 1 0) (Cond.instanceMethod (pm e.2.2.2.1).2.1) && (pq_link (hs.getD 0 0) G.1 j (pm e.2.2.2.1).2.1 e.2.2.2.2 && pe_n e.2.2.2.1 ((pm e.2.2.2.1).2.2.2.2.2.1 - 1))) else true
  | .invokestatic j => if e.2.2.2.1 = 1001 then pq (hs.getD 0 0) (Cond.methodLink G.1 j arraycopyName) else if e.2.2.2.1 < 193 then pq (hs.getD 1 0) (Cond.static (pm e.2.2.2.1).2.1) && (pq_link (hs.getD 0 0) G.1 j (pm e.2.2.2.1).2.1 e.2.2.2.2 && pe_n e.2.2.2.1 (pm e.2.2.2.1).2.2.2.2.2.1) else true
  | .invokevirtual j => if e.2.2.2.1 < 193 then decide (10 ≤ e.2.2.2.2.toNat ∧ e.2.2.2.2.toNat ≤ 20 ∧ pe_cls e.2.2.2.2.toNat = (pm e.2.2.2.1).2.1.cls) && (pq (hs.getD 1 0) (Cond.instanceMethod (pm e.2.2.2.1).2.1) && (pq (hs.getD 2 0) (Cond.selects (pm e.2.2.2.1).2.1.cls (pm e.2.2.2.1).2.1 (pm e.2.2.2.1).2.1) && (pq (hs.getD 0 0) (Cond.methodLink G.1 j (pm e.2.2.2.1).2.1) && pe_n e.2.2.2.1 ((pm e.2.2.2.1).2.2.2.2.2.1 - 1)))) else true
  | _ => true)
set_option maxHeartbeats 4000000 in
theorem pe_b_ok (hM : ∀ m, m < 193 → ∀ n, (parseMethodDescriptor (pm m).2.1.desc).map (fun d => d.parameters.length) = some n → pe_call (pm m) n) {G : pm_T} {en : pe_T} {hs : List Nat} (h : pe_b G en hs = true) : pe_ok G en := by
  obtain ⟨pc, i, nx, k, v⟩ := en
  unfold pe_b at h
  rw [Bool.and_eq_true, Bool.and_eq_true] at h
  obtain ⟨h1, h2, h3⟩ := h
  have h1 := of_decide_eq_true h1
  have hn : ∀ n, pe_len i = some n → nx = pc + n := by
    intro n hn
    have h2' : (match pe_len i with
      | some n => decide (nx = pc + n)
      | none => true) = true := h2
    rw [hn] at h2'
    exact of_decide_eq_true h2'
  refine ⟨h1, hn, ?_⟩
  cases i with
  | ldc j =>
    refine ⟨fun hk => ?_, fun hk => ?_⟩
    · simp only [show k = 0 from hk, if_true] at h3
      exact pq_in h3
    · simp only [show ¬ k = 0 from hk, if_false, decide_eq_true_eq] at h3
      obtain ⟨g1, g2, g3⟩ := h3
      obtain ⟨q, hq, hq2⟩ := Option.map_eq_some_iff.mp g3
      exact ⟨g1, v.toNat - 3, q, hq, hq2, by show v.toNat = 3 + (v.toNat - 3); omega⟩
  | ldc_w j => exact pq_in h3
  | ldc2_w j => exact pq_in h3
  | istore j => exact of_decide_eq_true h3
  | istore_n j => exact of_decide_eq_true h3
  | astore j => exact of_decide_eq_true h3
  | astore_n j => exact of_decide_eq_true h3
  | lstore j => exact of_decide_eq_true h3
  | lstore_n j => exact of_decide_eq_true h3
  | iinc j z => exact of_decide_eq_true h3
  | ifCond cd off => exact of_decide_eq_true h3
  | if_icmp cd off => exact of_decide_eq_true h3
  | goto off => exact of_decide_eq_true h3
  | getfield j =>
    refine ⟨fun hv => ⟨fun hk => ?_, fun hk => ?_⟩, fun hv => ?_⟩
    · simp only [show v.toNat = 20 from hv, show k = 0 from hk, if_true] at h3
      exact pq_in h3
    · simp only [show v.toNat = 20 from hv, show ¬ k = 0 from hk, if_true, if_false] at h3
      exact pq_in h3
    · simp only [show ¬ v.toNat = 20 from hv, if_false] at h3
      exact pq_fld_in h3
  | putfield j =>
    simp only [Bool.and_eq_true] at h3
    obtain ⟨g1, g2⟩ := h3
    obtain ⟨C, T, N, hf⟩ := pq_fld_in g1
    refine ⟨C, T, N, hf, ?_⟩
    rw [hf.1] at g2
    simp only at g2
    show if pf_ty (v.toNat - 10) k = 1 then _ else _
    split at g2
    next hp => rw [if_pos hp]; exact of_decide_eq_true g2
    next hp => rw [if_neg hp]; exact of_decide_eq_true g2
  | getstatic j =>
    refine ⟨fun hk => ?_, fun hk => ?_, fun hk => ?_⟩
    · simp only [show k = 0 from hk, if_true, Bool.and_eq_true, decide_eq_true_eq] at h3
      exact ⟨h3.1, pq_in h3.2⟩
    · simp only [show k = 1 from hk, if_true, Nat.one_ne_zero, if_false] at h3
      split at h3
      next hv => exact Or.inl ⟨hv, pq_in h3⟩
      next hv =>
        simp only [Bool.and_eq_true, decide_eq_true_eq] at h3
        exact Or.inr ⟨h3.1, pq_in h3.2⟩
    · simp only [show k = 2 from hk, if_true, show ¬ (2 : Nat) = 0 by omega, show ¬ (2 : Nat) = 1 by omega, if_false] at h3
      exact pq_in h3
  | new j =>
    intro hk
    have hk : k < 10 := hk
    simp only [hk, if_true] at h3
    split at h3
    next C T N hc =>
      simp only [Bool.and_eq_true] at h3
      exact ⟨C, T, N, hc, pq_in h3.1, pq_in h3.2.1, pq_in h3.2.2, pz_sizes hc⟩
    next => cases h3
  | newarray t =>
    simp only [Bool.and_eq_true, decide_eq_true_eq] at h3
    exact ⟨h3.1.1, h3.1.2, pq_in h3.2⟩
  | anewarray j =>
    simp only [Bool.and_eq_true, decide_eq_true_eq] at h3
    obtain ⟨g1, g2⟩ := h3
    split at g2
    next C hC =>
      simp only [Bool.and_eq_true, decide_eq_true_eq] at g2
      exact ⟨g1.1, g1.2, C, hC, g2.1, pq_in g2.2⟩
    next => cases g2
  | invokespecial j =>
    refine ⟨fun hk => ?_, fun hk => ?_⟩
    · simp only [show k = 1000 from hk, if_true] at h3
      exact pq_in h3
    · have hk : k < 193 := hk
      simp only [show ¬ k = 1000 by omega, if_false, hk, if_true, Bool.and_eq_true, decide_eq_true_eq] at h3
      exact ⟨hn 3 rfl, h3.1.1, h3.1.2, pq_in h3.2.1, pq_link_in h3.2.2.1, hM k hk _ (of_decide_eq_true h3.2.2.2)⟩
  | invokestatic j =>
    refine ⟨fun hk => ?_, fun hk => ?_⟩
    · simp only [show k = 1001 from hk, if_true] at h3
      exact pq_in h3
    · have hk : k < 193 := hk
      simp only [show ¬ k = 1001 by omega, if_false, hk, if_true, Bool.and_eq_true, decide_eq_true_eq] at h3
      exact ⟨hn 3 rfl, pq_in h3.1, pq_link_in h3.2.1, hM k hk _ (of_decide_eq_true h3.2.2)⟩
  | invokevirtual j =>
    intro hk
    have hk : k < 193 := hk
    simp only [hk, if_true, Bool.and_eq_true, decide_eq_true_eq] at h3
    exact ⟨hn 3 rfl, ⟨h3.1.1, h3.1.2.1⟩, pq_in h3.2.1, pq_in h3.2.2.1, pq_in h3.2.2.2.1, h3.1.2.2, hM k hk _ (of_decide_eq_true h3.2.2.2.2)⟩
  | _ => trivial
def pe_all (G : pm_T) (es : List pe_T) (hs : List (List Nat)) : Bool := decide (es.length = hs.length) && (es.zip hs).all (fun q => pe_b G q.1 q.2)
theorem pe_all_ok (hM : ∀ m, m < 193 → ∀ n, (parseMethodDescriptor (pm m).2.1.desc).map (fun d => d.parameters.length) = some n → pe_call (pm m) n) {G : pm_T} {es : List pe_T} {hs : List (List Nat)} (h : pe_all G es hs = true) : ∀ en ∈ es, pe_ok G en := by
  have h0 : es.length = hs.length ∧ ∀ q ∈ es.zip hs, pe_b G q.1 q.2 = true := by
    simpa only [pe_all, Bool.and_eq_true, decide_eq_true_eq, List.all_eq_true] using h
  clear h
  intro en hen
  obtain ⟨i, hi⟩ := List.getElem?_of_mem hen
  have hl : i < es.length := (List.getElem?_eq_some_iff.mp hi).1
  have hl2 : i < hs.length := Nat.lt_of_lt_of_eq hl h0.1
  have hz : (en, hs[i]) ∈ es.zip hs := by
    refine List.mem_of_getElem? (i := i) ?_
    rw [List.getElem?_zip_eq_some]
    exact ⟨hi, List.getElem?_eq_getElem hl2⟩
  have h3 : pe_b G en hs[i] = true := h0.2 (en, hs[i]) hz
  exact pe_b_ok hM h3
theorem pe_cut {P : pe_T → Prop} {es : List pe_T} (n : Nat) (h1 : ∀ en ∈ es.take n, P en) (h2 : ∀ en ∈ es.drop n, P en) : ∀ en ∈ es, P en := by
  intro en hen
  rw [← List.take_append_drop n es] at hen
  rcases List.mem_append.mp hen with h | h
  · exact h1 en h
  · exact h2 en h
/-- the method table is right -/
def pz_tab : Prop := ∀ m, m < 194 → ∀ en ∈ (pm m).2.2.2.2.2.2, pe_ok (pm m) en
