/-! THE START: what the Statement says of it, as a picture -/
def wl_AB (j : Nat) : Int32 := ([-1000000, 0, 0, 1, 1, 0] : List Int32).getD j 0
def wl_WE (j : Nat) : Int32 := ([1, 5, 25, 125] : List Int32).getD j 0
def wl_BY : List (List Int32) := [[119, 104, 101, 110], [103, 105, 118, 101], [114, 101, 102, 117, 115, 101], [115, 97, 121, 105, 110, 103], [101, 100, 105, 116, 105, 111, 110], [116, 114, 121], [119, 105, 116, 104, 105, 110]]
def wl_len : List Nat := [4, 4, 6, 6, 7, 3, 6]
def wl_ix : List Nat := [51, 57, 59, 61, 63, 65, 67]
def X0 (xs : Nat → Int32) (a j : Nat) : Int32 := if a = 0 then xs j else if a = 1 then wl_AB j else if a = 2 then wl_WE j else if 10 ≤ a then (wl_BY.getD (a - 10) []).getD j 0 else 0
def f_init (xs : Nat → Int32) : pd_M := fun a j => if a < 17 then X0 xs a j else INI a j
theorem wl_inst : vwCl.all (fun q => decide (Cond.instantiable q.1 q.2.2 ∈ lw_tbl)) = true := by decide +kernel
theorem wl_prim : ([.int, .byte, .short, .boolean] : List FieldType).all (fun t => decide (Cond.arrayClass t ∈ lw_tbl)) = true := by decide +kernel
theorem wl_over : ([RX5, RX4, RX0] : List String).all (fun t => decide (Cond.arrayOver (.object t) ∈ lw_tbl)) = true := by decide +kernel
theorem wl_stat : ([Cond.laysStatic "CallLaws" "ABOVE" "[I", Cond.laysStatic "CallLaws$Houses" "WEIGHTS" "[I", Cond.laysStatic "java/lang/String" "COMPACT_STRINGS" "Z", Cond.laysStatic "jdk/internal/util/Preconditions" "SIOOBE_FORMATTER" "Ljava/util/function/BiFunction;", Cond.initialized "CallLaws", Cond.initialized "CallLaws$Houses", Cond.initialized "java/lang/String", Cond.initialized "jdk/internal/util/Preconditions"] : List Cond).all (fun w => decide (w ∈ lw_tbl)) = true := by decide +kernel
theorem wl_strs : (List.range 7).all (fun i => decide (Cond.stringRef RX6 (wl_ix.getD i 0) ((pz_str.getD i (0, "", 0)).2.1) ∈ lw_tbl)) = true := by decide +kernel
def wl_tm (i : Nat) : Term := .string RX6 (wl_ix.getD i 0)
/-- the rows of narrow_1 on the seven words -/
def wl_rows : List Jvm.Cond := (List.range 7).flatMap (fun i => [Cond.exactly (wl_tm i) "java/lang/String", Cond.eq (.field (wl_tm i) "java/lang/String" "coder" "B") (.int 0), Cond.arrayOf (.field (wl_tm i) "java/lang/String" "value" "[B") .byte, Cond.eq (.length (.field (wl_tm i) "java/lang/String" "value" "[B")) (.int (Int32.ofNat (wl_len.getD i 0)))] ++ (List.range (wl_len.getD i 0)).map (fun j => Cond.eq (.elem (.field (wl_tm i) "java/lang/String" "value" "[B") (.int (Int32.ofNat j))) (.int ((wl_BY.getD i []).getD j 0))))
def wl_flat : List Jvm.Cond := flatC (Jvm.Cond.and given_1 narrow_1)
theorem wl_rows_in : wl_rows.all (fun w => decide (w ∈ wl_flat)) = true := by decide +kernel
theorem wl_ne : (List.range 7).all (fun i => (List.range 7).all (fun j => i == j || (decide (Cond.not (Cond.eq (wl_tm i) (wl_tm j)) ∈ wl_flat) || decide (Cond.not (Cond.eq (wl_tm j) (wl_tm i)) ∈ wl_flat)))) = true := by decide +kernel
def wl_arr (t : Term) (n : Nat) (g : Nat → Int32) : List Jvm.Cond := [Cond.arrayOf t .int, Cond.eq (.length t) (.int (Int32.ofNat n))] ++ (List.range n).map (fun j => Cond.eq (.elem t (.int (Int32.ofNat j))) (.int (g j)))
theorem wl_arrs : (wl_arr (.static "CallLaws" "ABOVE" "[I") 6 wl_AB ++ wl_arr (.static "CallLaws$Houses" "WEIGHTS" "[I") 4 wl_WE ++ [Cond.eq (.static "java/lang/String" "COMPACT_STRINGS" "Z") (.int 1), Cond.isRef (.static "jdk/internal/util/Preconditions" "SIOOBE_FORMATTER" "Ljava/util/function/BiFunction;")]).all (fun w => decide (w ∈ wl_flat)) = true := by decide +kernel
theorem wl_table {args : Array Value} {s : State} {A : Nat → Prop} {t : Term} {n : Nat} {g : Nat → Int32} (hn : n < 2 ^ 31) (hs : ∀ w ∈ wl_arr t n g, w.before args s = true) (hA : ∀ a : Nat, a < s.heap.size → ¬ A a) : ∃ a : Nat, t.eval args s none [] s = some (.ref a) ∧ va_T .int a n (fun j => .int (g j)) A s s.heap :=
  va_Tof hn (hs _ (by simp [wl_arr])) (va_eqt (hs _ (by simp [wl_arr]))) (fun j hj => va_eqt (hs _ (List.mem_append_right _ (List.mem_map.mpr ⟨j, List.mem_range.mpr hj, rfl⟩)))) hA
theorem wl_arrK {args : Array Value} {s : State} (hts : ∀ w ∈ lw_tbl, w.before args s = true) : ∃ aC : Nat → ClassId, ∀ k, k < 7 → ArrOfT s (aC k) (pk_ft k) ∧ va_RA s (aC k) (pk_ft k) := by
  have h0 : ∀ k : Nat, ∃ cA : ClassId, k < 7 → ArrOfT s cA (pk_ft k) ∧ va_RA s cA (pk_ft k) := by
    intro k
    have prim : ∀ t : FieldType, Cond.arrayClass t ∈ lw_tbl → ∃ c : ClassId, ArrOfT s c t ∧ s.vm.findClass ("[" ++ t.toString) = some c := by
      intro t ht
      obtain ⟨c, kA, comp, h1, h2, h3⟩ := Cond.arrayClass_spec (hts _ ht)
      exact ⟨c, fun n z => ⟨fun k h => (by cases h), kA, h2, comp, h3⟩, h1⟩
    have obj : ∀ C : String, Cond.arrayOver (.object C) ∈ lw_tbl → ∃ c : ClassId, ArrOfT s c (.object C) ∧ va_RA s c (.object C) := by
      intro C hC
      obtain ⟨comp, c, kA, h1, -, h2, h3, h4⟩ := Cond.arrayOver_spec (hts _ hC)
      exact ⟨c, fun n z => ⟨fun k h => (by cases h), kA, h2, comp, h3⟩, kA, comp, h2, h3, h1, h4⟩
    have P := List.all_eq_true.mp wl_prim
    have O := List.all_eq_true.mp wl_over
    by_cases hk : k < 7
    · rcases (by omega : k = 0 ∨ k = 1 ∨ k = 2 ∨ k = 3 ∨ k = 4 ∨ k = 5 ∨ k = 6) with rfl | rfl | rfl | rfl | rfl | rfl | rfl
      · obtain ⟨c, h1, h2⟩ := prim .int (of_decide_eq_true (P _ (by simp)))
        exact ⟨c, fun _ => ⟨h1, h2⟩⟩
      · obtain ⟨c, h1, h2⟩ := prim .byte (of_decide_eq_true (P _ (by simp)))
        exact ⟨c, fun _ => ⟨h1, h2⟩⟩
      · obtain ⟨c, h1, h2⟩ := prim .short (of_decide_eq_true (P _ (by simp)))
        exact ⟨c, fun _ => ⟨h1, h2⟩⟩
      · obtain ⟨c, h1, h2⟩ := prim .boolean (of_decide_eq_true (P _ (by simp)))
        exact ⟨c, fun _ => ⟨h1, h2⟩⟩
      · obtain ⟨c, h1⟩ := obj RX5 (of_decide_eq_true (O _ (by simp)))
        exact ⟨c, fun _ => h1⟩
      · obtain ⟨c, h1⟩ := obj RX4 (of_decide_eq_true (O _ (by simp)))
        exact ⟨c, fun _ => h1⟩
      · obtain ⟨c, h1⟩ := obj RX0 (of_decide_eq_true (O _ (by simp)))
        exact ⟨c, fun _ => h1⟩
    · exact ⟨0, fun z => absurd z hk⟩
  obtain ⟨aC, h⟩ := Classical.axiomOfChoice h0
  exact ⟨aC, h⟩
theorem wl_clsK {args : Array Value} {s : State} (hts : ∀ w ∈ lw_tbl, w.before args s = true) : ∃ D : va_G, ∀ (k : Nat) (q : vw_C), vwCl[k]? = some q → u_Kn s q.1 q.2.1 q.2.2 (D.1 k) (D.2 k) := by
  have h0 : ∀ k : Nat, ∃ z : ClassId × (Nat → Nat), ∀ q : vw_C, vwCl[k]? = some q → u_Kn s q.1 q.2.1 q.2.2 z.1 z.2 := by
    intro k
    cases hq : vwCl[k]? with
    | none => exact ⟨(0, fun _ => 0), fun q h => by cases h⟩
    | some q =>
      obtain ⟨C, T, N⟩ := q
      have hin : ∀ w ∈ u_ws C T N, w ∈ lw_tbl := fun w hw => (pz_B_good w (pz_words hq w hw)).1
      have hi := of_decide_eq_true (List.all_eq_true.mp wl_inst _ (List.mem_of_getElem? hq))
      obtain ⟨cC, iS, hK⟩ := u_known (n := N) hts hin (hts _ hi)
      exact ⟨(cC, iS), fun q h => by cases h; exact hK⟩
  obtain ⟨d, h⟩ := Classical.axiomOfChoice h0
  exact ⟨(fun k => (d k).1, fun k => (d k).2), h⟩
theorem wl_Z {p : Program} {s : State} {m : MethodId} {meth : Method} {c : Code} {b L : Nat} {xs : Nat → Int32} (C0 : lw_At p s m meth c b L xs) :
    ∃ Z : pz_T, (Z.2.2.1 = s.heap.size ∧ Z.2.2.2.1 0 = b) ∧ (Z.2.2.2.2 = .null ∨ ∃ t, Z.2.2.2.2 = .ref t) ∧ va_K Z.1 vwCl (pz_tys Z) s ∧ pz_X Z L (ov (X0 xs) hc_0) s s.heap ∧ pz_N Z s := by
  obtain ⟨-, -, -, -, -, hts, hX, hbl, -, hgv⟩ := C0
  have hs := flat_of_before _ hgv
  have hA : ∀ a : Nat, a < s.heap.size → ¬ (fun q : Nat => s.heap.size ≤ q) a := fun a h => Nat.not_le.mpr h
  obtain ⟨D, hD⟩ := wl_clsK hts
  obtain ⟨aC, hC⟩ := wl_arrK hts
  have AR := List.all_eq_true.mp wl_arrs
  have ST := List.all_eq_true.mp wl_stat
  obtain ⟨tA, eA, hTA⟩ := wl_table (s := s) (t := .static "CallLaws" "ABOVE" "[I") (n := 6) (g := wl_AB) (by decide) (fun w hw => hs w (of_decide_eq_true (AR w (List.mem_append_left _ (List.mem_append_left _ hw))))) hA
  obtain ⟨tW, eW, hTW⟩ := wl_table (s := s) (t := .static "CallLaws$Houses" "WEIGHTS" "[I") (n := 4) (g := wl_WE) (by decide) (fun w hw => hs w (of_decide_eq_true (AR w (List.mem_append_left _ (List.mem_append_right _ hw))))) hA
  have hSA := va_Zref (s := s) (hts _ (of_decide_eq_true (ST (Cond.laysStatic "CallLaws" "ABOVE" "[I") (by simp)))) (hts _ (of_decide_eq_true (ST (Cond.initialized "CallLaws") (by simp)))) eA hA
  have hSW := va_Zref (s := s) (hts _ (of_decide_eq_true (ST (Cond.laysStatic "CallLaws$Houses" "WEIGHTS" "[I") (by simp)))) (hts _ (of_decide_eq_true (ST (Cond.initialized "CallLaws$Houses") (by simp)))) eW hA
  have hSC := va_Zof (s := s) (hts _ (of_decide_eq_true (ST (Cond.laysStatic "java/lang/String" "COMPACT_STRINGS" "Z") (by simp)))) (hts _ (of_decide_eq_true (ST (Cond.initialized "java/lang/String") (by simp)))) (va_eqi (hs _ (of_decide_eq_true (AR (Cond.eq (.static "java/lang/String" "COMPACT_STRINGS" "Z") (.int 1)) (List.mem_append_right _ (by simp)))))) hA
  have hSF := va_Zqof (s := s) (hts _ (of_decide_eq_true (ST (Cond.laysStatic "jdk/internal/util/Preconditions" "SIOOBE_FORMATTER" "Ljava/util/function/BiFunction;") (by simp)))) (hts _ (of_decide_eq_true (ST (Cond.initialized "jdk/internal/util/Preconditions") (by simp)))) (hs _ (of_decide_eq_true (AR (Cond.isRef (.static "jdk/internal/util/Preconditions" "SIOOBE_FORMATTER" "Ljava/util/function/BiFunction;")) (List.mem_append_right _ (by simp))))) hA
  obtain ⟨fmt, hfmt, hSF⟩ : ∃ fmt : Value, (fmt = .null ∨ ∃ t, fmt = .ref t) ∧ va_Z "jdk/internal/util/Preconditions" "SIOOBE_FORMATTER" "Ljava/util/function/BiFunction;" fmt (fun q : Nat => s.heap.size ≤ q) s s.heap := by
    rcases hSF with h | ⟨t, h⟩
    · exact ⟨_, Or.inl rfl, h⟩
    · exact ⟨_, Or.inr ⟨t, rfl⟩, h⟩
  have RW := List.all_eq_true.mp wl_rows_in
  have rowIn : ∀ (i : Nat), i < 7 → ∀ w, w ∈ ([Cond.exactly (wl_tm i) "java/lang/String", Cond.eq (.field (wl_tm i) "java/lang/String" "coder" "B") (.int 0), Cond.arrayOf (.field (wl_tm i) "java/lang/String" "value" "[B") .byte, Cond.eq (.length (.field (wl_tm i) "java/lang/String" "value" "[B")) (.int (Int32.ofNat (wl_len.getD i 0)))] ++ (List.range (wl_len.getD i 0)).map (fun j => Cond.eq (.elem (.field (wl_tm i) "java/lang/String" "value" "[B") (.int (Int32.ofNat j))) (.int ((wl_BY.getD i []).getD j 0))) : List Jvm.Cond) → w.before #[Value.ref b] s = true :=
    fun i hi w hw => hs w (of_decide_eq_true (RW w (List.mem_flatMap.mpr ⟨i, List.mem_range.mpr hi, hw⟩)))
  have hlen : ∀ i, i < 7 → wl_len.getD i 0 < 2 ^ 31 := by decide
  obtain ⟨adK, adV, hV, hE⟩ := vk_Sof (s := s) (args := #[Value.ref b]) (N := 7) (tm := wl_tm) (len := wl_len) (byt := wl_BY) (A := fun q : Nat => s.heap.size ≤ q) hlen
    (fun i hi => rowIn i hi _ (List.mem_append_left _ (by simp))) (fun i hi => rowIn i hi _ (List.mem_append_left _ (by simp))) (fun i hi => rowIn i hi _ (List.mem_append_left _ (by simp))) (fun i hi => rowIn i hi _ (List.mem_append_left _ (by simp)))
    (fun i hi j hj => rowIn i hi _ (List.mem_append_right _ (List.mem_map.mpr ⟨j, List.mem_range.mpr hj, rfl⟩)))
    (fun i j hi hj hij => by
      have h1 := List.all_eq_true.mp (List.all_eq_true.mp wl_ne i (List.mem_range.mpr hi)) j (List.mem_range.mpr hj)
      simp only [Bool.or_eq_true, beq_iff_eq, decide_eq_true_eq] at h1
      rcases h1 with h1 | h1 | h1
      · exact absurd h1 hij
      · exact Or.inl (hs _ h1)
      · exact Or.inr (hs _ h1)) hA
  refine ⟨(D, aC, s.heap.size, fun a => if a = 0 then b else if a = 1 then tA else if a = 2 then tW else if a < 10 then adK (a - 3) else adV (a - 10), fmt), ⟨rfl, rfl⟩, hfmt, ⟨hD, fun k q hq => ?_⟩, ?_, ?_⟩
  · have hk : k < 7 := by
      have := (List.getElem?_eq_some_iff.mp hq).1
      simpa [pz_tys] using this
    rw [pz_tys_at _ hk] at hq
    cases hq
    exact hC k hk
  · refine ⟨⟨hX, hbl⟩, ⟨hTA, hSA⟩, ⟨hTW, hSW⟩, hSC, hSF, fun i hi => ?_⟩
    have h1 := hV.1 i hi
    have e1 : ∀ k : Nat, (if 3 + i = 0 then b else if 3 + i = 1 then tA else if 3 + i = 2 then tW else if 3 + i < 10 then adK (3 + i - 3) else adV (3 + i - 10)) = adK i := fun _ => by
      rw [if_neg (by omega), if_neg (by omega), if_neg (by omega), if_pos (by omega), show 3 + i - 3 = i by omega]
    have e2 : (if 10 + i = 0 then b else if 10 + i = 1 then tA else if 10 + i = 2 then tW else if 10 + i < 10 then adK (10 + i - 3) else adV (10 + i - 10)) = adV i := by
      rw [if_neg (by omega), if_neg (by omega), if_neg (by omega), if_neg (by omega), show 10 + i - 10 = i by omega]
    have e3 : (px_sh L (10 + i)).2 = wl_len.getD i 0 := by
      rcases (by omega : i = 0 ∨ i = 1 ∨ i = 2 ∨ i = 3 ∨ i = 4 ∨ i = 5 ∨ i = 6) with rfl | rfl | rfl | rfl | rfl | rfl | rfl <;> rfl
    have e4 : (fun j => Value.int ((ov (X0 xs) hc_0).2.2 (10 + i) j)) = fun j => Value.int ((wl_BY.getD i []).getD j 0) := by
      funext j
      show Value.int (if 10 + i < 17 then X0 xs (10 + i) j else 0) = _
      rw [if_pos (by omega)]
      unfold X0
      rw [if_neg (by omega), if_neg (by omega), if_neg (by omega), if_pos (by omega), show 10 + i - 10 = i by omega]
    simp only []
    rw [e1 0, e2, e3, e4]
    exact h1
  · refine ⟨fun w hw => ?_, ⟨?_, ?_, ?_⟩, fun i q hq => ?_⟩
    · obtain ⟨h1, h2⟩ := List.mem_filter.mp hw
      have h3 := hts w h1
      cases w <;> first | exact va_Nw.of rfl h3 | (simp at h2; done)
    · exact va_AO.of (hts _ (of_decide_eq_true (List.all_eq_true.mp wl_over RX5 (by simp))))
    · exact va_AO.of (hts _ (of_decide_eq_true (List.all_eq_true.mp wl_over RX4 (by simp))))
    · exact va_AO.of (hts _ (of_decide_eq_true (List.all_eq_true.mp wl_over RX0 (by simp))))
    · have hi : i < 7 := (List.getElem?_eq_some_iff.mp hq).1
      have h1 := of_decide_eq_true (List.all_eq_true.mp wl_strs i (List.mem_range.mpr hi))
      have h2 := hE i hi
      have e1 : (if 3 + i = 0 then b else if 3 + i = 1 then tA else if 3 + i = 2 then tW else if 3 + i < 10 then adK (3 + i - 3) else adV (3 + i - 10)) = adK i := by
        rw [if_neg (by omega), if_neg (by omega), if_neg (by omega), if_pos (by omega), show 3 + i - 3 = i by omega]
      have e2 : pz_str.getD i (0, "", 0) = q := by rw [List.getD_eq_getElem?_getD, hq]; rfl
      have e3 : wl_ix.getD i 0 = q.1 := by
        rcases (by omega : i = 0 ∨ i = 1 ∨ i = 2 ∨ i = 3 ∨ i = 4 ∨ i = 5 ∨ i = 6) with rfl | rfl | rfl | rfl | rfl | rfl | rfl <;> (cases hq; rfl)
      rw [e2, e3] at h1
      unfold wl_tm at h2
      rw [e3] at h2
      simp only []
      rw [e1]
      exact vk_R.of (hts _ h1) h2
