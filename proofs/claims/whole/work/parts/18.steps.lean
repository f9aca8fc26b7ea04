/-! ONE STEP, whichever -/
def pz_sys : Prop := (Cond.native arraycopyName ∈ pz_B ∧ Cond.static arraycopyName ∈ pz_B ∧ Cond.initialized "java/lang/System" ∈ pz_B ∧ nativeFrameWords "java/lang/System" "arraycopy" 5 + 11 ≤ 60) ∧ Cond.instanceMethod objectInit ∈ pz_B ∧ Cond.code objectInit ⟨#[0xb1]⟩ 1 none ∈ pz_B
theorem pz_sys_ok : pz_sys := by
  have h : ([Cond.native arraycopyName, Cond.static arraycopyName, Cond.initialized "java/lang/System", Cond.instanceMethod objectInit, Cond.code objectInit ⟨#[0xb1]⟩ 1 none] : List Cond).all (fun w => decide (w ∈ lw_tbl) && goodWord w) = true := by decide +kernel
  have k : ∀ w ∈ ([Cond.native arraycopyName, Cond.static arraycopyName, Cond.initialized "java/lang/System", Cond.instanceMethod objectInit, Cond.code objectInit ⟨#[0xb1]⟩ 1 none] : List Cond), w ∈ pz_B := by
    intro w hw
    have h1 := List.all_eq_true.mp h w hw
    simp only [Bool.and_eq_true, decide_eq_true_eq] at h1
    exact pz_B_in h1.1 h1.2
  exact ⟨⟨k _ (by simp), k _ (by simp), k _ (by simp), by decide +kernel⟩, k _ (by simp), k _ (by simp)⟩
section PS
variable {Z : pz_T} {L : Nat} {p : Program} {l : Launch} {e : Env} {R : Room} {s : State} {m : MethodId} {args : Array Value} {below : List Frame} {meth : Method} {c : Code} {Q : State → Prop} {G : pm_T} {h0 : ph_T} {n0 t0 : Nat}
variable {pc nx k : Nat} {v : Int} {lv : List (Nat × Value)} {st : List Value} {h : ph_T} {x1 : ps_T}
theorem po_i_eq {f : Int32 → Value} {st' : List Value} (hs : po_i st f = some st') : ∃ x r, st = .int x :: r ∧ st' = f x :: r := by
  unfold po_i at hs
  split at hs
  · cases hs; exact ⟨_, _, rfl, rfl⟩
  · cases hs
theorem po_l_eq {f : Int64 → Value} {st' : List Value} (hs : po_l st f = some st') : ∃ x r, st = .long x :: r ∧ st' = f x :: r := by
  unfold po_l at hs
  split at hs
  · cases hs; exact ⟨_, _, rfl, rfl⟩
  · cases hs
theorem po_ii_eq {f : Int32 → Int32 → Value} {st' : List Value} (hs : po_ii st f = some st') : ∃ x y r, st = .int y :: .int x :: r ∧ st' = f x y :: r := by
  unfold po_ii at hs
  split at hs
  · cases hs; exact ⟨_, _, _, rfl, rfl⟩
  · cases hs
theorem po_ll_eq {f : Int64 → Int64 → Value} {st' : List Value} (hs : po_ll st f = some st') : ∃ x y r, st = .long y :: .long x :: r ∧ st' = f x y :: r := by
  unfold po_ll at hs
  split at hs
  · cases hs; exact ⟨_, _, _, rfl, rfl⟩
  · cases hs
theorem po_li_eq {f : Int64 → Int32 → Value} {st' : List Value} (hs : po_li st f = some st') : ∃ x y r, st = .int y :: .long x :: r ∧ st' = f x y :: r := by
  unfold po_li at hs
  split at hs
  · cases hs; exact ⟨_, _, _, rfl, rfl⟩
  · cases hs
set_option maxHeartbeats 4000000 in
theorem pz_step (C0 : pz_C Z L p R s m args meth c G h0 n0) {en : pe_T} (hok : pe_ok G en) {x x1 : ps_T} (hpc : x.1 = en.1) (hs : ps_step L en x = some x1) (hr : x1.2.2.2.1.length ≤ n0 + R.cells ∧ pz_tot x1.2.2.2.1 ≤ t0 + R.slots)
    (q : pz_J Z p l e R s m args below meth c Q G h0 n0 t0 x1) : pz_J Z p l e R s m args below meth c Q G h0 n0 t0 x := by
  obtain ⟨pc, lv, st, h⟩ := x
  obtain ⟨pc', i, nx, k, v⟩ := en
  have hpc : pc = pc' := hpc
  subst hpc
  obtain ⟨hd0, hn, ho⟩ := hok
  have hd0 : decode G.2.2.1 pc = .ok (i, nx - pc) := hd0
  have hn : ∀ n, pe_len i = some n → nx = pc + n := hn
  have key : ∀ n, pe_len i = some n → decode G.2.2.1 pc = .ok (i, n) ∧ nx = pc + n := fun n z => by
    have := hn n z
    subst this
    rw [show pc + n - pc = n by omega] at hd0
    exact ⟨hd0, rfl⟩
  have hx := C0.1.1
  have hb := C0.1.2.1
  cases i with
  | iconst z =>
    obtain ⟨hd, rfl⟩ := key 1 rfl
    cases hs
    exact fun H locs ls cells slots a1 a2 a3 a4 a5 a6 => lv_iconst hx hb hd rfl (q H locs ls cells slots a1 a2 a3 a4 a5 a6)
  | bipush z =>
    obtain ⟨hd, rfl⟩ := key 2 rfl
    cases hs
    exact fun H locs ls cells slots a1 a2 a3 a4 a5 a6 => lv_bipush hx hb hd rfl (q H locs ls cells slots a1 a2 a3 a4 a5 a6)
  | sipush z =>
    obtain ⟨hd, rfl⟩ := key 3 rfl
    cases hs
    exact fun H locs ls cells slots a1 a2 a3 a4 a5 a6 => lv_sipush hx hb hd rfl (q H locs ls cells slots a1 a2 a3 a4 a5 a6)
  | lconst z =>
    obtain ⟨hd, rfl⟩ := key 1 rfl
    cases hs
    exact fun H locs ls cells slots a1 a2 a3 a4 a5 a6 => lv_lconst hx hb hd rfl (q H locs ls cells slots a1 a2 a3 a4 a5 a6)
  | ldc j =>
    obtain ⟨hd, rfl⟩ := key 2 rfl
    exact sd_ldc C0 hd ho hs q
  | ldc_w j =>
    obtain ⟨hd, rfl⟩ := key 3 rfl
    cases hs
    exact fun H locs ls cells slots a1 a2 a3 a4 a5 a6 => lv_ldcw hx hb C0.1.2.2.2.1 (C0.1.2.2.2.2 _ ho) hd (q H locs ls cells slots a1 a2 a3 a4 a5 a6)
  | ldc2_w j =>
    obtain ⟨hd, rfl⟩ := key 3 rfl
    cases hs
    exact fun H locs ls cells slots a1 a2 a3 a4 a5 a6 => lv_ldc2 hx hb C0.1.2.2.2.1 (C0.1.2.2.2.2 _ ho) hd (q H locs ls cells slots a1 a2 a3 a4 a5 a6)
  | iload j =>
    obtain ⟨hd, rfl⟩ := key 2 rfl
    obtain ⟨w, hw, rfl⟩ := Option.map_eq_some_iff.mp hs
    exact sd_loadI C0 (Or.inl ⟨rfl, rfl⟩) hd hw q
  | iload_n j =>
    obtain ⟨hd, rfl⟩ := key 1 rfl
    obtain ⟨w, hw, rfl⟩ := Option.map_eq_some_iff.mp hs
    exact sd_loadI C0 (Or.inr ⟨j, rfl, rfl, rfl⟩) hd hw q
  | lload j =>
    obtain ⟨hd, rfl⟩ := key 2 rfl
    obtain ⟨w, hw, rfl⟩ := Option.map_eq_some_iff.mp hs
    exact sd_loadL C0 (Or.inl ⟨rfl, rfl⟩) hd hw q
  | lload_n j =>
    obtain ⟨hd, rfl⟩ := key 1 rfl
    obtain ⟨w, hw, rfl⟩ := Option.map_eq_some_iff.mp hs
    exact sd_loadL C0 (Or.inr ⟨j, rfl, rfl, rfl⟩) hd hw q
  | aload j =>
    obtain ⟨hd, rfl⟩ := key 2 rfl
    obtain ⟨w, hw, rfl⟩ := Option.map_eq_some_iff.mp hs
    exact sd_loadA C0 (Or.inl ⟨rfl, rfl⟩) hd hw q
  | aload_n j =>
    obtain ⟨hd, rfl⟩ := key 1 rfl
    obtain ⟨w, hw, rfl⟩ := Option.map_eq_some_iff.mp hs
    exact sd_loadA C0 (Or.inr ⟨j, rfl, rfl, rfl⟩) hd hw q
  | istore j =>
    obtain ⟨hd, rfl⟩ := key 2 rfl
    simp only [ps_step] at hs
    split at hs
    · cases hs; exact sd_storeI C0 (Or.inl ⟨rfl, rfl⟩) hd ho q
    · cases hs
  | istore_n j =>
    obtain ⟨hd, rfl⟩ := key 1 rfl
    simp only [ps_step] at hs
    split at hs
    · cases hs; exact sd_storeI C0 (Or.inr ⟨j, rfl, rfl, rfl⟩) hd ho q
    · cases hs
  | lstore j =>
    obtain ⟨hd, rfl⟩ := key 2 rfl
    simp only [ps_step] at hs
    split at hs
    · cases hs; exact sd_storeL C0 (Or.inl ⟨rfl, rfl⟩) hd ho q
    · cases hs
  | lstore_n j =>
    obtain ⟨hd, rfl⟩ := key 1 rfl
    simp only [ps_step] at hs
    split at hs
    · cases hs; exact sd_storeL C0 (Or.inr ⟨j, rfl, rfl, rfl⟩) hd ho q
    · cases hs
  | astore j =>
    obtain ⟨hd, rfl⟩ := key 2 rfl
    simp only [ps_step] at hs
    split at hs
    · cases hs; exact sd_storeA C0 (Or.inl ⟨rfl, rfl⟩) hd ho q
    · cases hs
  | astore_n j =>
    obtain ⟨hd, rfl⟩ := key 1 rfl
    simp only [ps_step] at hs
    split at hs
    · cases hs; exact sd_storeA C0 (Or.inr ⟨j, rfl, rfl, rfl⟩) hd ho q
    · cases hs
  | iinc j z =>
    obtain ⟨hd, rfl⟩ := key 3 rfl
    simp only [ps_step] at hs
    split at hs
    · cases hs; exact sd_iinc C0 hd ho (by assumption) q
    · cases hs
  | iadd =>
    obtain ⟨hd, rfl⟩ := key 1 rfl
    obtain ⟨st', hw, rfl⟩ := Option.map_eq_some_iff.mp hs
    obtain ⟨x, y, r, rfl, rfl⟩ := po_ii_eq hw
    exact fun H locs ls cells slots a1 a2 a3 a4 a5 a6 => lv_iadd hx hb hd (q H locs ls cells slots a1 a2 a3 a4 a5 a6)
  | isub =>
    obtain ⟨hd, rfl⟩ := key 1 rfl
    obtain ⟨st', hw, rfl⟩ := Option.map_eq_some_iff.mp hs
    obtain ⟨x, y, r, rfl, rfl⟩ := po_ii_eq hw
    exact fun H locs ls cells slots a1 a2 a3 a4 a5 a6 => lv_isub hx hb hd (q H locs ls cells slots a1 a2 a3 a4 a5 a6)
  | imul =>
    obtain ⟨hd, rfl⟩ := key 1 rfl
    obtain ⟨st', hw, rfl⟩ := Option.map_eq_some_iff.mp hs
    obtain ⟨x, y, r, rfl, rfl⟩ := po_ii_eq hw
    exact fun H locs ls cells slots a1 a2 a3 a4 a5 a6 => lv_imul hx hb hd (q H locs ls cells slots a1 a2 a3 a4 a5 a6)
  | iand =>
    obtain ⟨hd, rfl⟩ := key 1 rfl
    obtain ⟨st', hw, rfl⟩ := Option.map_eq_some_iff.mp hs
    obtain ⟨x, y, r, rfl, rfl⟩ := po_ii_eq hw
    exact fun H locs ls cells slots a1 a2 a3 a4 a5 a6 => lv_iand hx hb hd (q H locs ls cells slots a1 a2 a3 a4 a5 a6)
  | ior =>
    obtain ⟨hd, rfl⟩ := key 1 rfl
    obtain ⟨st', hw, rfl⟩ := Option.map_eq_some_iff.mp hs
    obtain ⟨x, y, r, rfl, rfl⟩ := po_ii_eq hw
    exact fun H locs ls cells slots a1 a2 a3 a4 a5 a6 => lv_ior hx hb hd (q H locs ls cells slots a1 a2 a3 a4 a5 a6)
  | ixor =>
    obtain ⟨hd, rfl⟩ := key 1 rfl
    obtain ⟨st', hw, rfl⟩ := Option.map_eq_some_iff.mp hs
    obtain ⟨x, y, r, rfl, rfl⟩ := po_ii_eq hw
    exact fun H locs ls cells slots a1 a2 a3 a4 a5 a6 => lv_ixor hx hb hd (q H locs ls cells slots a1 a2 a3 a4 a5 a6)
  | ishl =>
    obtain ⟨hd, rfl⟩ := key 1 rfl
    obtain ⟨st', hw, rfl⟩ := Option.map_eq_some_iff.mp hs
    obtain ⟨x, y, r, rfl, rfl⟩ := po_ii_eq hw
    exact fun H locs ls cells slots a1 a2 a3 a4 a5 a6 => lv_ishl hx hb hd (q H locs ls cells slots a1 a2 a3 a4 a5 a6)
  | ishr =>
    obtain ⟨hd, rfl⟩ := key 1 rfl
    obtain ⟨st', hw, rfl⟩ := Option.map_eq_some_iff.mp hs
    obtain ⟨x, y, r, rfl, rfl⟩ := po_ii_eq hw
    exact fun H locs ls cells slots a1 a2 a3 a4 a5 a6 => lv_ishr hx hb hd (q H locs ls cells slots a1 a2 a3 a4 a5 a6)
  | iushr =>
    obtain ⟨hd, rfl⟩ := key 1 rfl
    obtain ⟨st', hw, rfl⟩ := Option.map_eq_some_iff.mp hs
    obtain ⟨x, y, r, rfl, rfl⟩ := po_ii_eq hw
    exact fun H locs ls cells slots a1 a2 a3 a4 a5 a6 => lv_iushr hx hb hd rfl (q H locs ls cells slots a1 a2 a3 a4 a5 a6)
  | ineg =>
    obtain ⟨hd, rfl⟩ := key 1 rfl
    obtain ⟨st', hw, rfl⟩ := Option.map_eq_some_iff.mp hs
    obtain ⟨x, r, rfl, rfl⟩ := po_i_eq hw
    exact fun H locs ls cells slots a1 a2 a3 a4 a5 a6 => lv_ineg hx hb hd (q H locs ls cells slots a1 a2 a3 a4 a5 a6)
  | i2l =>
    obtain ⟨hd, rfl⟩ := key 1 rfl
    obtain ⟨st', hw, rfl⟩ := Option.map_eq_some_iff.mp hs
    obtain ⟨x, r, rfl, rfl⟩ := po_i_eq hw
    exact fun H locs ls cells slots a1 a2 a3 a4 a5 a6 => lv_i2l hx hb hd rfl (q H locs ls cells slots a1 a2 a3 a4 a5 a6)
  | i2b =>
    obtain ⟨hd, rfl⟩ := key 1 rfl
    obtain ⟨st', hw, rfl⟩ := Option.map_eq_some_iff.mp hs
    obtain ⟨x, r, rfl, rfl⟩ := po_i_eq hw
    exact fun H locs ls cells slots a1 a2 a3 a4 a5 a6 => lv_i2b hx hb hd rfl (q H locs ls cells slots a1 a2 a3 a4 a5 a6)
  | i2s =>
    obtain ⟨hd, rfl⟩ := key 1 rfl
    obtain ⟨st', hw, rfl⟩ := Option.map_eq_some_iff.mp hs
    obtain ⟨x, r, rfl, rfl⟩ := po_i_eq hw
    exact fun H locs ls cells slots a1 a2 a3 a4 a5 a6 => lv_i2s hx hb hd rfl (q H locs ls cells slots a1 a2 a3 a4 a5 a6)
  | i2c =>
    obtain ⟨hd, rfl⟩ := key 1 rfl
    obtain ⟨st', hw, rfl⟩ := Option.map_eq_some_iff.mp hs
    obtain ⟨x, r, rfl, rfl⟩ := po_i_eq hw
    exact fun H locs ls cells slots a1 a2 a3 a4 a5 a6 => lv_i2c hx hb hd rfl (q H locs ls cells slots a1 a2 a3 a4 a5 a6)
  | l2i =>
    obtain ⟨hd, rfl⟩ := key 1 rfl
    obtain ⟨st', hw, rfl⟩ := Option.map_eq_some_iff.mp hs
    obtain ⟨x, r, rfl, rfl⟩ := po_l_eq hw
    exact fun H locs ls cells slots a1 a2 a3 a4 a5 a6 => lv_l2i hx hb hd rfl (q H locs ls cells slots a1 a2 a3 a4 a5 a6)
  | ladd =>
    obtain ⟨hd, rfl⟩ := key 1 rfl
    obtain ⟨st', hw, rfl⟩ := Option.map_eq_some_iff.mp hs
    obtain ⟨x, y, r, rfl, rfl⟩ := po_ll_eq hw
    exact fun H locs ls cells slots a1 a2 a3 a4 a5 a6 => lv_ladd hx hb hd (q H locs ls cells slots a1 a2 a3 a4 a5 a6)
  | land =>
    obtain ⟨hd, rfl⟩ := key 1 rfl
    obtain ⟨st', hw, rfl⟩ := Option.map_eq_some_iff.mp hs
    obtain ⟨x, y, r, rfl, rfl⟩ := po_ll_eq hw
    exact fun H locs ls cells slots a1 a2 a3 a4 a5 a6 => lv_land hx hb hd (q H locs ls cells slots a1 a2 a3 a4 a5 a6)
  | lor =>
    obtain ⟨hd, rfl⟩ := key 1 rfl
    obtain ⟨st', hw, rfl⟩ := Option.map_eq_some_iff.mp hs
    obtain ⟨x, y, r, rfl, rfl⟩ := po_ll_eq hw
    exact fun H locs ls cells slots a1 a2 a3 a4 a5 a6 => lv_lor hx hb hd (q H locs ls cells slots a1 a2 a3 a4 a5 a6)
  | lcmp =>
    obtain ⟨hd, rfl⟩ := key 1 rfl
    obtain ⟨st', hw, rfl⟩ := Option.map_eq_some_iff.mp hs
    obtain ⟨x, y, r, rfl, rfl⟩ := po_ll_eq hw
    exact fun H locs ls cells slots a1 a2 a3 a4 a5 a6 => W.lcmp hx hb hd (q H locs ls cells slots a1 a2 a3 a4 a5 a6)
  | lshl =>
    obtain ⟨hd, rfl⟩ := key 1 rfl
    obtain ⟨st', hw, rfl⟩ := Option.map_eq_some_iff.mp hs
    obtain ⟨x, y, r, rfl, rfl⟩ := po_li_eq hw
    exact fun H locs ls cells slots a1 a2 a3 a4 a5 a6 => lv_lshl hx hb hd rfl (q H locs ls cells slots a1 a2 a3 a4 a5 a6)
  | lshr =>
    obtain ⟨hd, rfl⟩ := key 1 rfl
    obtain ⟨st', hw, rfl⟩ := Option.map_eq_some_iff.mp hs
    obtain ⟨x, y, r, rfl, rfl⟩ := po_li_eq hw
    exact fun H locs ls cells slots a1 a2 a3 a4 a5 a6 => lv_lshr hx hb hd rfl (q H locs ls cells slots a1 a2 a3 a4 a5 a6)
  | idiv =>
    obtain ⟨hd, rfl⟩ := key 1 rfl
    simp only [ps_step] at hs
    split at hs
    · split at hs
      · cases hs
      next hz => cases hs; exact fun H locs ls cells slots a1 a2 a3 a4 a5 a6 => lv_idiv hx hb hd hz (q H locs ls cells slots a1 a2 a3 a4 a5 a6)
    · cases hs
  | irem =>
    obtain ⟨hd, rfl⟩ := key 1 rfl
    simp only [ps_step] at hs
    split at hs
    · split at hs
      · cases hs
      next hz => cases hs; exact fun H locs ls cells slots a1 a2 a3 a4 a5 a6 => lv_irem hx hb hd hz (q H locs ls cells slots a1 a2 a3 a4 a5 a6)
    · cases hs
  | dup =>
    obtain ⟨hd, rfl⟩ := key 1 rfl
    simp only [ps_step] at hs
    split at hs
    · split at hs
      next hz => cases hs; exact fun H locs ls cells slots a1 a2 a3 a4 a5 a6 => lv_dup hx hb hd ((pz_v_cat C0.2.2.1 _).trans hz) (q H locs ls cells slots a1 a2 a3 a4 a5 a6)
      · cases hs
    · cases hs
  | dup2 =>
    obtain ⟨hd, rfl⟩ := key 1 rfl
    simp only [ps_step] at hs
    split at hs
    · split at hs
      next hz => cases hs; exact fun H locs ls cells slots a1 a2 a3 a4 a5 a6 => lv_dup2_11 hx hb hd ((pz_v_cat C0.2.2.1 _).trans hz.1) ((pz_v_cat C0.2.2.1 _).trans hz.2) (q H locs ls cells slots a1 a2 a3 a4 a5 a6)
      · cases hs
    · cases hs
  | pop =>
    obtain ⟨hd, rfl⟩ := key 1 rfl
    simp only [ps_step] at hs
    split at hs
    · split at hs
      next hz => cases hs; exact fun H locs ls cells slots a1 a2 a3 a4 a5 a6 => lv_pop hx hb hd ((pz_v_cat C0.2.2.1 _).trans hz) (q H locs ls cells slots a1 a2 a3 a4 a5 a6)
      · cases hs
    · cases hs
  | ifCond cd off =>
    obtain ⟨hd, rfl⟩ := key 3 rfl
    simp only [ps_step] at hs
    split at hs
    · cases hs; exact sd_if0 C0 hd ho q
    · cases hs
  | if_icmp cd off =>
    obtain ⟨hd, rfl⟩ := key 3 rfl
    simp only [ps_step] at hs
    split at hs
    · cases hs; exact sd_if2 C0 hd ho q
    · cases hs
  | goto off =>
    obtain ⟨hd, rfl⟩ := key 3 rfl
    cases hs
    exact fun H locs ls cells slots a1 a2 a3 a4 a5 a6 => lv_goto hx hb hd ho (q H locs ls cells slots a1 a2 a3 a4 a5 a6)
  | tableswitch dd lo hi offs =>
    simp only [ps_step] at hs
    split at hs
    · obtain ⟨t, ht, rfl⟩ := Option.map_eq_some_iff.mp hs
      exact sd_switch C0 hd0 ht q
    · cases hs
  | getfield j =>
    obtain ⟨hd, rfl⟩ := key 3 rfl
    simp only [ps_step] at hs
    split at hs
    · obtain ⟨w, hw, rfl⟩ := Option.map_eq_some_iff.mp hs
      exact sd_get C0 hd ho hw q
    · cases hs
  | putfield j =>
    obtain ⟨hd, rfl⟩ := key 3 rfl
    simp only [ps_step] at hs
    split at hs
    · obtain ⟨w, hw, rfl⟩ := Option.map_eq_some_iff.mp hs
      exact sd_put C0 hd ho hw q
    · cases hs
  | getstatic j =>
    obtain ⟨hd, rfl⟩ := key 3 rfl
    exact sd_static C0 hd ho hs q
  | iaload =>
    obtain ⟨hd, rfl⟩ := key 1 rfl
    simp only [ps_step] at hs
    split at hs
    · obtain ⟨w, hw, rfl⟩ := Option.map_eq_some_iff.mp hs
      exact sd_iald C0 hd hw q
    · cases hs
  | baload =>
    obtain ⟨hd, rfl⟩ := key 1 rfl
    simp only [ps_step] at hs
    split at hs
    · obtain ⟨w, hw, rfl⟩ := Option.map_eq_some_iff.mp hs
      exact sd_bald C0 hd hw q
    · cases hs
  | saload =>
    obtain ⟨hd, rfl⟩ := key 1 rfl
    simp only [ps_step] at hs
    split at hs
    · obtain ⟨w, hw, rfl⟩ := Option.map_eq_some_iff.mp hs
      exact sd_sald C0 hd hw q
    · cases hs
  | aaload =>
    obtain ⟨hd, rfl⟩ := key 1 rfl
    simp only [ps_step] at hs
    split at hs
    · obtain ⟨w, hw, rfl⟩ := Option.map_eq_some_iff.mp hs
      exact sd_aald C0 hd hw q
    · cases hs
  | iastore =>
    obtain ⟨hd, rfl⟩ := key 1 rfl
    simp only [ps_step] at hs
    split at hs
    · obtain ⟨w, hw, rfl⟩ := Option.map_eq_some_iff.mp hs
      exact sd_iast C0 hd hw q
    · cases hs
  | bastore =>
    obtain ⟨hd, rfl⟩ := key 1 rfl
    simp only [ps_step] at hs
    split at hs
    · obtain ⟨w, hw, rfl⟩ := Option.map_eq_some_iff.mp hs
      exact sd_bast C0 hd hw q
    · cases hs
  | sastore =>
    obtain ⟨hd, rfl⟩ := key 1 rfl
    simp only [ps_step] at hs
    split at hs
    · obtain ⟨w, hw, rfl⟩ := Option.map_eq_some_iff.mp hs
      exact sd_sast C0 hd hw q
    · cases hs
  | aastore =>
    obtain ⟨hd, rfl⟩ := key 1 rfl
    simp only [ps_step] at hs
    split at hs
    · obtain ⟨w, hw, rfl⟩ := Option.map_eq_some_iff.mp hs
      exact sd_aast C0 hd hw q
    · cases hs
  | arraylength =>
    obtain ⟨hd, rfl⟩ := key 1 rfl
    simp only [ps_step] at hs
    split at hs
    · obtain ⟨w, hw, rfl⟩ := Option.map_eq_some_iff.mp hs
      exact sd_alen C0 hd hw q
    · cases hs
  | new j =>
    obtain ⟨hd, rfl⟩ := key 3 rfl
    simp only [ps_step] at hs
    split at hs
    next hk => cases hs; exact sd_new C0 hd hk (ho hk) hr q
    · cases hs
  | newarray t =>
    obtain ⟨hd, rfl⟩ := key 2 rfl
    simp only [ps_step] at hs
    split at hs
    · obtain ⟨w, hw, rfl⟩ := Option.map_eq_some_iff.mp hs
      exact sd_newa C0 hd ho hw hr q
    · cases hs
  | anewarray j =>
    obtain ⟨hd, rfl⟩ := key 3 rfl
    simp only [ps_step] at hs
    split at hs
    · obtain ⟨w, hw, rfl⟩ := Option.map_eq_some_iff.mp hs
      exact sd_anew C0 hd ho hw hr q
    · cases hs
  | invokespecial j =>
    obtain ⟨hd, rfl⟩ := key 3 rfl
    simp only [ps_step] at hs
    split at hs
    · split at hs
      next hk => cases hs; exact sd_obj C0 pz_sys_ok.2 hd (ho.1 hk.1) hk.2 q
      · cases hs
    · cases hs
  | invokestatic j =>
    obtain ⟨hd, rfl⟩ := key 3 rfl
    simp only [ps_step] at hs
    split at hs
    · split at hs
      next hk =>
        obtain ⟨w, hw, rfl⟩ := Option.map_eq_some_iff.mp hs
        exact sd_cpy C0 pz_sys_ok.1 hd (ho.1 hk) hw q
      · cases hs
    · cases hs
  | _ => cases hs
end PS
