/-! ONE STEP: where the pure machine goes, the machine goes. -/
def pz_C (Z : pz_T) (L : Nat) (p : Program) (R : Room) (s : State) (m : MethodId) (args : Array Value) (meth : Method) (c : Code) (G : pm_T) (h0 : ph_T) (n0 : Nat) : Prop :=
  (p.tables.exec = Jvm.exec ∧ c.code = G.2.2.1 ∧ c.maxLocals = G.2.2.2.1 ∧ s.vm.findClass G.1 = some m.cls ∧ ∀ w ∈ pz_B, w.before args s = true) ∧
  (va_K Z.1 vwCl (pz_tys Z) s ∧ pz_X Z L h0 s s.heap ∧ pz_N Z s ∧ s.heap.size = Z.2.2.1 + n0) ∧
  (Z.2.2.2.2 = .null ∨ ∃ t, Z.2.2.2.2 = .ref t) ∧ (G.2.1.name = "<init>" → meth.name = "<init>") ∧ 1 ≤ R.frames ∧ 60 ≤ R.locals
def pz_J (Z : pz_T) (p : Program) (l : Launch) (e : Env) (R : Room) (s : State) (m : MethodId) (args : Array Value) (below : List Frame) (meth : Method) (c : Code) (Q : State → Prop) (G : pm_T) (h0 : ph_T) (n0 t0 : Nat) (x : ps_T) : Prop :=
  ∀ (H : Heap) (locs : List Loc) (ls : Array Slot) (cells slots : Nat), pz_P Z x.2.2.2 H → va_S (pz_A Z) s.heap H locs → lv_has ls G.2.2.2.1 (x.2.1.map (fun q => (q.1, pz_v Z q.2))) → (∀ a, a < 17 → x.2.2.2.2.2 a = h0.2.2 a) → cells + n0 = x.2.2.2.1.length → slots + t0 = pz_tot x.2.2.2.1 →
    W p l e R s m args below meth c H locs cells slots Q (F0 m x.1 ls (x.2.2.1.map (pz_v Z)))
theorem pz_sized {p : Program} {l : Launch} {e : Env} {R : Room} {s : State} {m : MethodId} {args : Array Value} {below : List Frame} {meth : Method} {c : Code} {H : Heap} {locs : List Loc} {cells slots : Nat} {Q : State → Prop} {g : JFrame} (k : H.size ≤ s.heap.size + cells → W p l e R s m args below meth c H locs cells slots Q g) : W p l e R s m args below meth c H locs cells slots Q g := fun T hT X => k (by rw [← hT]; exact X.heapSize) T hT X
theorem pl_get_at {Z : pz_T} {lv : List (Nat × Value)} {ls : Array Slot} {nL j : Nat} {w : Value} (hl : lv_has ls nL (lv.map (fun q => (q.1, pz_v Z q.2)))) (hg : pl_get lv j = some w) : ls[j]? = some (.val (pz_v Z w)) := by
  unfold pl_get at hg
  cases hq : lv.find? (fun q => q.1 == j) with
  | none => rw [hq] at hg; cases hg
  | some q =>
    rw [hq] at hg
    cases hg
    have h1 : q ∈ lv := List.mem_of_find?_eq_some hq
    have h2 : q.1 = j := by have := List.find?_some hq; simpa using this
    have h3 := hl.2.2 (q.1, pz_v Z q.2) (List.mem_map.mpr ⟨q, h1, rfl⟩)
    rw [← h2]
    exact h3
theorem pl_map_set {Z : pz_T} (hf : Z.2.2.2.2 = .null ∨ ∃ t, Z.2.2.2.2 = .ref t) (lv : List (Nat × Value)) (i : Nat) (w : Value) :
    (i, pz_v Z w) :: (lv.map (fun q => (q.1, pz_v Z q.2))).filter (fun q => !(q.1 == i) && !(q.1 + 1 == i && q.2.category == 2)) = (pl_set lv i w).map (fun q => (q.1, pz_v Z q.2)) := by
  simp only [pl_set, List.map_cons, List.filter_map, Function.comp_def, pz_v_cat hf]
theorem pl_map_set2 {Z : pz_T} (hf : Z.2.2.2.2 = .null ∨ ∃ t, Z.2.2.2.2 = .ref t) (lv : List (Nat × Value)) (i : Nat) (w : Value) :
    (i, pz_v Z w) :: (lv.map (fun q => (q.1, pz_v Z q.2))).filter (fun q => !(q.1 == i) && (!(q.1 == i + 1) && !(q.1 + 1 == i && q.2.category == 2))) = (pl_set2 lv i w).map (fun q => (q.1, pz_v Z q.2)) := by
  simp only [pl_set2, List.map_cons, List.filter_map, Function.comp_def, pz_v_cat hf]
theorem pk_sum_map {Z : pz_T} (hf : Z.2.2.2.2 = .null ∨ ∃ t, Z.2.2.2.2 = .ref t) (st : List Value) : ((st.map (pz_v Z)).map fun v => v.category).sum = pk_sum st := by
  unfold pk_sum
  rw [List.map_map]
  congr 1
  exact List.map_congr_left (fun v _ => pz_v_cat hf v)
section PZ
variable {Z : pz_T} {L : Nat} {p : Program} {l : Launch} {e : Env} {R : Room} {s : State} {m : MethodId} {args : Array Value} {below : List Frame} {meth : Method} {c : Code} {Q : State → Prop} {G : pm_T} {h0 : ph_T} {n0 t0 : Nat}
variable {pc nx k : Nat} {v : Int} {lv : List (Nat × Value)} {st : List Value} {h : ph_T} {x1 : ps_T}
theorem sd_loadI (C0 : pz_C Z L p R s m args meth c G h0 n0) {j : Nat} {i : Instr} {n : Nat} (hi : (i = .iload j ∧ n = 2) ∨ ∃ q : Fin 4, i = .iload_n q ∧ (q : Nat) = j ∧ n = 1) (hd : decode G.2.2.1 pc = .ok (i, n)) {w : Value} (hw : pw_i (pl_get lv j) = some w) (q : pz_J Z p l e R s m args below meth c Q G h0 n0 t0 (pc + n, lv, w :: st, h)) : pz_J Z p l e R s m args below meth c Q G h0 n0 t0 (pc, lv, st, h) := by
  obtain ⟨⟨hx, hb, -, -, -⟩, -⟩ := C0
  intro H locs ls cells slots hP hS hl he hc hs
  obtain ⟨x, hg⟩ : ∃ x, pl_get lv j = some (.int x) ∧ w = .int x := by
    unfold pw_i at hw
    split at hw
    · cases hw; exact ⟨_, by assumption, rfl⟩
    · cases hw
  obtain ⟨hg, rfl⟩ := hg
  have ha := pl_get_at hl hg
  rcases hi with ⟨rfl, rfl⟩ | ⟨z, rfl, hz, rfl⟩
  · exact lv_iload hx hb hd ha (q H locs ls cells slots hP hS hl he hc hs)
  · exact lv_iload_n hx hb hd hz ha (q H locs ls cells slots hP hS hl he hc hs)
theorem sd_loadL (C0 : pz_C Z L p R s m args meth c G h0 n0) {j : Nat} {i : Instr} {n : Nat} (hi : (i = .lload j ∧ n = 2) ∨ ∃ q : Fin 4, i = .lload_n q ∧ (q : Nat) = j ∧ n = 1) (hd : decode G.2.2.1 pc = .ok (i, n)) {w : Value} (hw : pw_l (pl_get lv j) = some w) (q : pz_J Z p l e R s m args below meth c Q G h0 n0 t0 (pc + n, lv, w :: st, h)) : pz_J Z p l e R s m args below meth c Q G h0 n0 t0 (pc, lv, st, h) := by
  obtain ⟨⟨hx, hb, -, -, -⟩, -⟩ := C0
  intro H locs ls cells slots hP hS hl he hc hs
  obtain ⟨x, hg⟩ : ∃ x, pl_get lv j = some (.long x) ∧ w = .long x := by
    unfold pw_l at hw
    split at hw
    · cases hw; exact ⟨_, by assumption, rfl⟩
    · cases hw
  obtain ⟨hg, rfl⟩ := hg
  have ha := pl_get_at hl hg
  rcases hi with ⟨rfl, rfl⟩ | ⟨z, rfl, hz, rfl⟩
  · exact lv_lload hx hb hd ha (q H locs ls cells slots hP hS hl he hc hs)
  · exact lv_lload_n hx hb hd hz ha (q H locs ls cells slots hP hS hl he hc hs)
theorem sd_loadA (C0 : pz_C Z L p R s m args meth c G h0 n0) {j : Nat} {i : Instr} {n : Nat} (hi : (i = .aload j ∧ n = 2) ∨ ∃ q : Fin 4, i = .aload_n q ∧ (q : Nat) = j ∧ n = 1) (hd : decode G.2.2.1 pc = .ok (i, n)) {w : Value} (hw : pw_a (pl_get lv j) = some w) (q : pz_J Z p l e R s m args below meth c Q G h0 n0 t0 (pc + n, lv, w :: st, h)) : pz_J Z p l e R s m args below meth c Q G h0 n0 t0 (pc, lv, st, h) := by
  obtain ⟨⟨hx, hb, -, -, -⟩, -⟩ := C0
  intro H locs ls cells slots hP hS hl he hc hs
  obtain ⟨x, hg⟩ : ∃ x, pl_get lv j = some (.ref x) ∧ w = .ref x := by
    unfold pw_a at hw
    split at hw
    · cases hw; exact ⟨_, by assumption, rfl⟩
    · cases hw
  obtain ⟨hg, rfl⟩ := hg
  have ha := pl_get_at hl hg
  rcases hi with ⟨rfl, rfl⟩ | ⟨z, rfl, hz, rfl⟩
  · exact lv_aload hx hb hd ha (q H locs ls cells slots hP hS hl he hc hs)
  · exact lv_aload_n hx hb hd hz ha (q H locs ls cells slots hP hS hl he hc hs)
theorem sd_storeI (C0 : pz_C Z L p R s m args meth c G h0 n0) {j : Nat} {i : Instr} {n : Nat} (hi : (i = .istore j ∧ n = 2) ∨ ∃ q : Fin 4, i = .istore_n q ∧ (q : Nat) = j ∧ n = 1) (hd : decode G.2.2.1 pc = .ok (i, n)) (hj : j < G.2.2.2.1) {x : Int32} (q : pz_J Z p l e R s m args below meth c Q G h0 n0 t0 (pc + n, pl_set lv j (.int x), st, h)) : pz_J Z p l e R s m args below meth c Q G h0 n0 t0 (pc, lv, .int x :: st, h) := by
  obtain ⟨⟨hx, hb, -, -, -⟩, -, hf, -⟩ := C0
  intro H locs ls cells slots hP hS hl he hc hs
  rcases hi with ⟨rfl, rfl⟩ | ⟨z, rfl, hz, rfl⟩
  · exact lv_istore hx hb hd hl hj (pl_map_set hf lv j (.int x)) (fun ls' hl' => q H locs ls' cells slots hP hS hl' he hc hs)
  · exact lv_istore_n hx hb hd hz hl hj (pl_map_set hf lv j (.int x)) (fun ls' hl' => q H locs ls' cells slots hP hS hl' he hc hs)
theorem sd_storeL (C0 : pz_C Z L p R s m args meth c G h0 n0) {j : Nat} {i : Instr} {n : Nat} (hi : (i = .lstore j ∧ n = 2) ∨ ∃ q : Fin 4, i = .lstore_n q ∧ (q : Nat) = j ∧ n = 1) (hd : decode G.2.2.1 pc = .ok (i, n)) (hj : j + 1 < G.2.2.2.1) {x : Int64} (q : pz_J Z p l e R s m args below meth c Q G h0 n0 t0 (pc + n, pl_set2 lv j (.long x), st, h)) : pz_J Z p l e R s m args below meth c Q G h0 n0 t0 (pc, lv, .long x :: st, h) := by
  obtain ⟨⟨hx, hb, -, -, -⟩, -, hf, -⟩ := C0
  intro H locs ls cells slots hP hS hl he hc hs
  rcases hi with ⟨rfl, rfl⟩ | ⟨z, rfl, hz, rfl⟩
  · exact lv_lstore hx hb hd hl hj (pl_map_set2 hf lv j (.long x)) (fun ls' hl' => q H locs ls' cells slots hP hS hl' he hc hs)
  · exact lv_lstore_n hx hb hd hz hl hj (pl_map_set2 hf lv j (.long x)) (fun ls' hl' => q H locs ls' cells slots hP hS hl' he hc hs)
theorem sd_storeA (C0 : pz_C Z L p R s m args meth c G h0 n0) {j : Nat} {i : Instr} {n : Nat} (hi : (i = .astore j ∧ n = 2) ∨ ∃ q : Fin 4, i = .astore_n q ∧ (q : Nat) = j ∧ n = 1) (hd : decode G.2.2.1 pc = .ok (i, n)) (hj : j < G.2.2.2.1) {x : Nat} (q : pz_J Z p l e R s m args below meth c Q G h0 n0 t0 (pc + n, pl_set lv j (.ref x), st, h)) : pz_J Z p l e R s m args below meth c Q G h0 n0 t0 (pc, lv, .ref x :: st, h) := by
  obtain ⟨⟨hx, hb, -, -, -⟩, -, hf, -⟩ := C0
  intro H locs ls cells slots hP hS hl he hc hs
  rcases hi with ⟨rfl, rfl⟩ | ⟨z, rfl, hz, rfl⟩
  · exact lv_astore hx hb hd hl hj (pl_map_set hf lv j (.ref x)) (fun ls' hl' => q H locs ls' cells slots hP hS hl' he hc hs)
  · exact lv_astore_n hx hb hd hz hl hj (pl_map_set hf lv j (.ref x)) (fun ls' hl' => q H locs ls' cells slots hP hS hl' he hc hs)
theorem sd_iinc (C0 : pz_C Z L p R s m args meth c G h0 n0) {j : Nat} {z : Int} (hd : decode G.2.2.1 pc = .ok (.iinc j z, 3)) (hj : j < G.2.2.2.1) {x : Int32} (hg : pl_get lv j = some (.int x)) (q : pz_J Z p l e R s m args below meth c Q G h0 n0 t0 (pc + 3, pl_set lv j (.int (x + Int32.ofInt z)), st, h)) : pz_J Z p l e R s m args below meth c Q G h0 n0 t0 (pc, lv, st, h) := by
  obtain ⟨⟨hx, hb, -, -, -⟩, -, hf, -⟩ := C0
  intro H locs ls cells slots hP hS hl he hc hs
  have ha := pl_get_at hl hg
  have hk : ∃ k' : Nat, (lv.map (fun q => (q.1, pz_v Z q.2)))[k']? = some (j, .int x) := by
    unfold pl_get at hg
    cases hq : lv.find? (fun q => q.1 == j) with
    | none => rw [hq] at hg; cases hg
    | some q =>
      rw [hq] at hg
      have h1 : q ∈ lv := List.mem_of_find?_eq_some hq
      have h2 : q.1 = j := by have := List.find?_some hq; simpa using this
      have h3 : q.2 = .int x := Option.some.inj hg
      have h4 : (j, Value.int x) ∈ lv.map (fun q => (q.1, pz_v Z q.2)) := List.mem_map.mpr ⟨q, h1, by rw [h2, h3]; rfl⟩
      exact List.getElem?_of_mem h4
  obtain ⟨k', hk⟩ := hk
  exact lv_iinc hx hb hd hl hk rfl hj (pl_map_set hf lv j (.int (x + Int32.ofInt z))) (fun ls' hl' => q H locs ls' cells slots hP hS hl' he hc hs)
theorem sd_if0 (C0 : pz_C Z L p R s m args meth c G h0 n0) {cd : ClassFile.Cond} {off : Int} (hd : decode G.2.2.1 pc = .ok (.ifCond cd off, 3)) (ht : (pc : Int) + off = (k : Int)) {x : Int32} (q : pz_J Z p l e R s m args below meth c Q G h0 n0 t0 (if pc_b cd x 0 = true then k else pc + 3, lv, st, h)) : pz_J Z p l e R s m args below meth c Q G h0 n0 t0 (pc, lv, .int x :: st, h) := by
  obtain ⟨⟨hx, hb, -, -, -⟩, -⟩ := C0
  intro H locs ls cells slots hP hS hl he hc hs
  have q := q H locs ls cells slots hP hS hl he hc hs
  cases cd with
  | eq => exact lv_if_eq hx hb hd ht (fun z => by simpa [pc_b, z] using q) (fun z => by simpa [pc_b, z] using q)
  | ne => exact lv_if_ne hx hb hd ht (fun z => by simpa [pc_b, z] using q) (fun z => by simpa [pc_b, z] using q)
  | lt => exact lv_if_lt hx hb hd ht (fun z => by simpa [pc_b, z] using q) (fun z => by simpa [pc_b, z] using q)
  | ge => exact lv_if_ge hx hb hd ht (fun z => by simpa [pc_b, z] using q) (fun z => by simpa [pc_b, z] using q)
  | gt => exact lv_if_gt hx hb hd ht (fun z => by simpa [pc_b, z] using q) (fun z => by simpa [pc_b, z] using q)
  | le => exact lv_if_le hx hb hd ht (fun z => by simpa [pc_b, z] using q) (fun z => by simpa [pc_b, z] using q)
theorem sd_if2 (C0 : pz_C Z L p R s m args meth c G h0 n0) {cd : ClassFile.Cond} {off : Int} (hd : decode G.2.2.1 pc = .ok (.if_icmp cd off, 3)) (ht : (pc : Int) + off = (k : Int)) {x y : Int32} (q : pz_J Z p l e R s m args below meth c Q G h0 n0 t0 (if pc_b cd x y = true then k else pc + 3, lv, st, h)) : pz_J Z p l e R s m args below meth c Q G h0 n0 t0 (pc, lv, .int y :: .int x :: st, h) := by
  obtain ⟨⟨hx, hb, -, -, -⟩, -⟩ := C0
  intro H locs ls cells slots hP hS hl he hc hs
  have q := q H locs ls cells slots hP hS hl he hc hs
  cases cd with
  | eq => exact lv_icmp_eq hx hb hd ht (fun z => by simpa [pc_b, z] using q) (fun z => by simpa [pc_b, z] using q)
  | ne => exact lv_icmp_ne hx hb hd ht (fun z => by simpa [pc_b, z] using q) (fun z => by simpa [pc_b, z] using q)
  | lt => exact lv_icmp_lt hx hb hd ht (fun z => by simpa [pc_b, z] using q) (fun z => by simpa [pc_b, z] using q)
  | ge => exact lv_icmp_ge hx hb hd ht (fun z => by simpa [pc_b, z] using q) (fun z => by simpa [pc_b, z] using q)
  | gt => exact lv_icmp_gt hx hb hd ht (fun z => by simpa [pc_b, z] using q) (fun z => by simpa [pc_b, z] using q)
  | le => exact lv_icmp_le hx hb hd ht (fun z => by simpa [pc_b, z] using q) (fun z => by simpa [pc_b, z] using q)
theorem pt_to_eq {a : Nat} {off : Int} {t : Nat} (h : pt_to a off = some t) : (a : Int) + off = (t : Int) := by
  unfold pt_to at h
  split at h
  · cases h
    omega
  · cases h
theorem sd_switch (C0 : pz_C Z L p R s m args meth c G h0 n0) {dd lo hi : Int} {offs : Array Int} {len t : Nat} (hd : decode G.2.2.1 pc = .ok (.tableswitch dd lo hi offs, len)) {x : Int32} (ht : pt_sw pc dd lo hi offs x = some t) (q : pz_J Z p l e R s m args below meth c Q G h0 n0 t0 (t, lv, st, h)) : pz_J Z p l e R s m args below meth c Q G h0 n0 t0 (pc, lv, .int x :: st, h) := by
  obtain ⟨⟨hx, hb, -, -, -⟩, -⟩ := C0
  intro H locs ls cells slots hP hS hl he hc hs
  have q := q H locs ls cells slots hP hS hl he hc hs
  unfold pt_sw at ht
  split at ht
  next z => exact lv_tableOut hx hb hd z (pt_to_eq ht) q
  next z =>
    cases ho : offs[(x.toInt - lo).toNat]? with
    | none => rw [ho] at ht; cases ht
    | some off =>
      rw [ho] at ht
      exact lv_tableIn hx hb hd (fun w => z (Or.inl w)) (fun w => z (Or.inr w)) ho (pt_to_eq ht) q
end PZ
