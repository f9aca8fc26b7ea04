/-! WHAT A METHOD DOES, as a relation: pr_C d m As h r h': method number m, called on As with the heap h, answers r and leaves h', with calls at most d deep. -/
def pr_call (C : Nat → List Value → ph_T → Option Value → ph_T → Prop) (L : Nat) (e : pe_T) (s s' : ps_T) : Prop :=
  ∃ (As rest : List Value) (r : Option Value) (h' : ph_T), s.2.2.1 = As.reverse ++ rest ∧ As.length = (pm e.2.2.2.1).2.2.2.2.2.1 ∧ pk_sum rest ≤ 8 ∧ e.2.2.2.1 < 193 ∧
    ((∃ j, e.2.1 = .invokestatic j) ∨ (∃ (j b : Nat) (Bs : List Value), e.2.1 = .invokespecial j ∧ As = .ref b :: Bs) ∨ (∃ (j b : Nat) (Bs : List Value), e.2.1 = .invokevirtual j ∧ As = .ref b :: Bs ∧ (ps_sh L s.2.2.2 b).1 = e.2.2.2.2.toNat ∧ (b < 17 ∨ e.2.2.2.2.toNat < 20))) ∧
    C e.2.2.2.1 As s.2.2.2 r h' ∧ s' = (e.2.2.1, s.2.1, r.toList ++ rest, h')
def pr_S (C : Nat → List Value → ph_T → Option Value → ph_T → Prop) (L : Nat) (G : pm_T) (s s' : ps_T) : Prop :=
  (∃ ks, s' = (s.1, lv_pick s.2.1 ks, s.2.2.1, s.2.2.2)) ∨ ∃ e, pf G s.1 = some e ∧ (ps_step L e s = some s' ∨ pr_call C L e s s')
def pr_N (C : Nat → List Value → ph_T → Option Value → ph_T → Prop) (L : Nat) (G : pm_T) : Nat → ps_T → ps_T → Prop
  | 0 => fun s s' => s = s'
  | n + 1 => fun s s' => ∃ s1, pr_S C L G s s1 ∧ pr_N C L G n s1 s'
def pr_R (G : pm_T) (s : ps_T) (r : Option Value) : Prop :=
  ∃ e, pf G s.1 = some e ∧
    ((e.2.1 = .ireturn ∧ ∃ x ty, s.2.2.1 = [.int x] ∧ G.2.2.2.2.1 = some ty ∧ narrow ty (.int x) = .int x ∧ r = some (.int x)) ∨
     (e.2.1 = .lreturn ∧ ∃ x, s.2.2.1 = [.long x] ∧ G.2.2.2.2.1 = some .long ∧ r = some (.long x)) ∨
     (e.2.1 = .areturn ∧ ∃ (a : Nat) (n : String), s.2.2.1 = [.ref a] ∧ G.2.2.2.2.1 = some (.object n) ∧ r = some (.ref a)) ∨
     (e.2.1 = .return_ ∧ s.2.2.1 = [] ∧ G.2.2.2.2.1 = none ∧ r = none))
def pr_E (As : List Value) (h : ph_T) : ps_T := (0, lv_args 0 As, [], h)
def pr_C (L : Nat) : Nat → Nat → List Value → ph_T → Option Value → ph_T → Prop
  | 0 => fun _ _ _ _ _ => False
  | d + 1 => fun m As h r h' => pk_sum As ≤ (pm m).2.2.2.1 ∧ ∃ n s', pr_N (pr_C L d) L (pm m) n (pr_E As h) s' ∧ pr_R (pm m) s' r ∧ s'.2.2.2 = h'
/-- from the state s the method G comes to its end with r and h' -/
def pr_G (L d : Nat) (G : pm_T) (s : ps_T) (r : Option Value) (h' : ph_T) : Prop := ∃ n s', pr_N (pr_C L d) L G n s s' ∧ pr_R G s' r ∧ s'.2.2.2 = h'
theorem pr_N_mono {C C' : Nat → List Value → ph_T → Option Value → ph_T → Prop} (hC : ∀ m As h r h', C m As h r h' → C' m As h r h') {L : Nat} {G : pm_T} : ∀ (n : Nat) (s s' : ps_T), pr_N C L G n s s' → pr_N C' L G n s s' := by
  intro n
  induction n with
  | zero => intro s s' h; exact h
  | succ n ih =>
    intro s s' h
    obtain ⟨s1, hd | ⟨e, he, hs⟩, h2⟩ := h
    · exact ⟨s1, Or.inl hd, ih _ _ h2⟩
    refine ⟨s1, Or.inr ⟨e, he, ?_⟩, ih _ _ h2⟩
    rcases hs with hs | ⟨As, rest, r, h', a1, a2, a3, a4, a5, a6, a7⟩
    · exact Or.inl hs
    · exact Or.inr ⟨As, rest, r, h', a1, a2, a3, a4, a5, hC _ _ _ _ _ a6, a7⟩
theorem pr_C_up {L : Nat} : ∀ (d : Nat) (m : Nat) (As : List Value) (h : ph_T) (r : Option Value) (h' : ph_T), pr_C L d m As h r h' → pr_C L (d + 1) m As h r h' := by
  intro d
  induction d with
  | zero => intro m As h r h' q; exact q.elim
  | succ d ih =>
    intro m As h r h' q
    obtain ⟨hk, n, s', h1, h2⟩ := q
    exact ⟨hk, n, s', pr_N_mono ih _ _ _ h1, h2⟩
theorem pr_C_le {L d d' : Nat} (hd : d ≤ d') {m : Nat} {As : List Value} {h : ph_T} {r : Option Value} {h' : ph_T} (q : pr_C L d m As h r h') : pr_C L d' m As h r h' := by
  induction hd with
  | refl => exact q
  | step _ ih => exact pr_C_up _ _ _ _ _ _ ih
theorem pr_C.of {L d m : Nat} {G : pm_T} (hG : pm m = G) {As : List Value} {h : ph_T} {r : Option Value} {h' : ph_T} (hk : Nat.ble (pk_sum As) G.2.2.2.1 = true) (q : pr_G L d G (0, lv_args 0 As, [], h) r h') : pr_C L (d + 1) m As h r h' := by
  subst hG
  exact ⟨Nat.le_of_ble_eq_true hk, q⟩
section PG
variable {L d : Nat} {G : pm_T} {r : Option Value} {h' h : ph_T} {pc nx k : Nat} {v : Int} {lv lv' : List (Nat × Value)} {st : List Value} {x y : Int32}
theorem gs_step {e : pe_T} {s s1 : ps_T} (hf : pf G s.1 = some e) (hs : ps_step L e s = some s1) (q : pr_G L d G s1 r h') : pr_G L d G s r h' := by
  obtain ⟨n, s', h1, h2⟩ := q
  exact ⟨n + 1, s', ⟨s1, Or.inr ⟨e, hf, Or.inl hs⟩, h1⟩, h2⟩
theorem gs_drop (ks : List Nat) (hk : lv_pick lv ks = lv') (q : pr_G L d G (pc, lv', st, h) r h') : pr_G L d G (pc, lv, st, h) r h' := by
  subst hk
  obtain ⟨n, s', h1, h2⟩ := q
  exact ⟨n + 1, s', ⟨_, Or.inl ⟨ks, rfl⟩, h1⟩, h2⟩
theorem gs_iconst {z : Int} (hf : pf G pc = some (pc, .iconst z, nx, k, v)) (hx : Int32.ofInt z = x) (q : pr_G L d G (nx, lv, .int x :: st, h) r h') : pr_G L d G (pc, lv, st, h) r h' := by subst hx; exact gs_step hf rfl q
theorem gs_bipush {z : Int} (hf : pf G pc = some (pc, .bipush z, nx, k, v)) (hx : (Int8.ofInt z).toInt32 = x) (q : pr_G L d G (nx, lv, .int x :: st, h) r h') : pr_G L d G (pc, lv, st, h) r h' := by subst hx; exact gs_step hf rfl q
theorem gs_sipush {z : Int} (hf : pf G pc = some (pc, .sipush z, nx, k, v)) (hx : (Int16.ofInt z).toInt32 = x) (q : pr_G L d G (nx, lv, .int x :: st, h) r h') : pr_G L d G (pc, lv, st, h) r h' := by subst hx; exact gs_step hf rfl q
theorem gs_ldc {j : Nat} (hf : pf G pc = some (pc, .ldc j, nx, 0, v)) (hx : Int32.ofInt v = x) (q : pr_G L d G (nx, lv, .int x :: st, h) r h') : pr_G L d G (pc, lv, st, h) r h' := by subst hx; exact gs_step hf rfl q
theorem gs_ldcs {j a : Nat} (hf : pf G pc = some (pc, .ldc j, nx, 1, v)) (hx : v.toNat = a) (q : pr_G L d G (nx, lv, .ref a :: st, h) r h') : pr_G L d G (pc, lv, st, h) r h' := by subst hx; exact gs_step hf rfl q
theorem gs_ldc_w {j : Nat} (hf : pf G pc = some (pc, .ldc_w j, nx, k, v)) (hx : Int32.ofInt v = x) (q : pr_G L d G (nx, lv, .int x :: st, h) r h') : pr_G L d G (pc, lv, st, h) r h' := by subst hx; exact gs_step hf rfl q
theorem gs_lconst {z : Fin 2} {w : Int64} (hf : pf G pc = some (pc, .lconst z, nx, k, v)) (hx : Int64.ofNat (z : Nat) = w) (q : pr_G L d G (nx, lv, .long w :: st, h) r h') : pr_G L d G (pc, lv, st, h) r h' := by subst hx; exact gs_step hf rfl q
theorem gs_ldc2 {j : Nat} {w : Int64} (hf : pf G pc = some (pc, .ldc2_w j, nx, k, v)) (hx : Int64.ofInt v = w) (q : pr_G L d G (nx, lv, .long w :: st, h) r h') : pr_G L d G (pc, lv, st, h) r h' := by subst hx; exact gs_step hf rfl q
theorem gs_iload {j : Nat} (hf : pf G pc = some (pc, .iload j, nx, k, v)) (hg : pl_get lv j = some (.int x)) (q : pr_G L d G (nx, lv, .int x :: st, h) r h') : pr_G L d G (pc, lv, st, h) r h' := gs_step hf (by simp [ps_step, hg, pw_i]) q
theorem gs_iload_n {j : Fin 4} (hf : pf G pc = some (pc, .iload_n j, nx, k, v)) (hg : pl_get lv (j : Nat) = some (.int x)) (q : pr_G L d G (nx, lv, .int x :: st, h) r h') : pr_G L d G (pc, lv, st, h) r h' := gs_step hf (by simp [ps_step, hg, pw_i]) q
theorem gs_lload {j : Nat} {w : Int64} (hf : pf G pc = some (pc, .lload j, nx, k, v)) (hg : pl_get lv j = some (.long w)) (q : pr_G L d G (nx, lv, .long w :: st, h) r h') : pr_G L d G (pc, lv, st, h) r h' := gs_step hf (by simp [ps_step, hg, pw_l]) q
theorem gs_lload_n {j : Fin 4} {w : Int64} (hf : pf G pc = some (pc, .lload_n j, nx, k, v)) (hg : pl_get lv (j : Nat) = some (.long w)) (q : pr_G L d G (nx, lv, .long w :: st, h) r h') : pr_G L d G (pc, lv, st, h) r h' := gs_step hf (by simp [ps_step, hg, pw_l]) q
theorem gs_aload {j a : Nat} (hf : pf G pc = some (pc, .aload j, nx, k, v)) (hg : pl_get lv j = some (.ref a)) (q : pr_G L d G (nx, lv, .ref a :: st, h) r h') : pr_G L d G (pc, lv, st, h) r h' := gs_step hf (by simp [ps_step, hg, pw_a]) q
theorem gs_aload_n {j : Fin 4} {a : Nat} (hf : pf G pc = some (pc, .aload_n j, nx, k, v)) (hg : pl_get lv (j : Nat) = some (.ref a)) (q : pr_G L d G (nx, lv, .ref a :: st, h) r h') : pr_G L d G (pc, lv, st, h) r h' := gs_step hf (by simp [ps_step, hg, pw_a]) q
theorem gs_istore {j : Nat} (hf : pf G pc = some (pc, .istore j, nx, k, v)) (hg : pl_set lv j (.int x) = lv') (q : pr_G L d G (nx, lv', st, h) r h') : pr_G L d G (pc, lv, .int x :: st, h) r h' := by subst hg; exact gs_step hf rfl q
theorem gs_istore_n {j : Fin 4} (hf : pf G pc = some (pc, .istore_n j, nx, k, v)) (hg : pl_set lv (j : Nat) (.int x) = lv') (q : pr_G L d G (nx, lv', st, h) r h') : pr_G L d G (pc, lv, .int x :: st, h) r h' := by subst hg; exact gs_step hf rfl q
theorem gs_lstore {j : Nat} {w : Int64} (hf : pf G pc = some (pc, .lstore j, nx, k, v)) (hg : pl_set2 lv j (.long w) = lv') (q : pr_G L d G (nx, lv', st, h) r h') : pr_G L d G (pc, lv, .long w :: st, h) r h' := by subst hg; exact gs_step hf rfl q
theorem gs_lstore_n {j : Fin 4} {w : Int64} (hf : pf G pc = some (pc, .lstore_n j, nx, k, v)) (hg : pl_set2 lv (j : Nat) (.long w) = lv') (q : pr_G L d G (nx, lv', st, h) r h') : pr_G L d G (pc, lv, .long w :: st, h) r h' := by subst hg; exact gs_step hf rfl q
theorem gs_astore {j a : Nat} (hf : pf G pc = some (pc, .astore j, nx, k, v)) (hg : pl_set lv j (.ref a) = lv') (q : pr_G L d G (nx, lv', st, h) r h') : pr_G L d G (pc, lv, .ref a :: st, h) r h' := by subst hg; exact gs_step hf rfl q
theorem gs_astore_n {j : Fin 4} {a : Nat} (hf : pf G pc = some (pc, .astore_n j, nx, k, v)) (hg : pl_set lv (j : Nat) (.ref a) = lv') (q : pr_G L d G (nx, lv', st, h) r h') : pr_G L d G (pc, lv, .ref a :: st, h) r h' := by subst hg; exact gs_step hf rfl q
theorem gs_iinc {j : Nat} {z : Int} (hf : pf G pc = some (pc, .iinc j z, nx, k, v)) (hx : pl_get lv j = some (.int x)) (hg : pl_set lv j (.int (x + Int32.ofInt z)) = lv') (q : pr_G L d G (nx, lv', st, h) r h') : pr_G L d G (pc, lv, st, h) r h' := by subst hg; exact gs_step hf (by simp [ps_step, hx]) q
theorem gs_iadd (hf : pf G pc = some (pc, .iadd, nx, k, v)) (q : pr_G L d G (nx, lv, .int (x + y) :: st, h) r h') : pr_G L d G (pc, lv, .int y :: .int x :: st, h) r h' := gs_step hf rfl q
theorem gs_isub (hf : pf G pc = some (pc, .isub, nx, k, v)) (q : pr_G L d G (nx, lv, .int (x - y) :: st, h) r h') : pr_G L d G (pc, lv, .int y :: .int x :: st, h) r h' := gs_step hf rfl q
theorem gs_imul (hf : pf G pc = some (pc, .imul, nx, k, v)) (q : pr_G L d G (nx, lv, .int (x * y) :: st, h) r h') : pr_G L d G (pc, lv, .int y :: .int x :: st, h) r h' := gs_step hf rfl q
theorem gs_iand (hf : pf G pc = some (pc, .iand, nx, k, v)) (q : pr_G L d G (nx, lv, .int (x &&& y) :: st, h) r h') : pr_G L d G (pc, lv, .int y :: .int x :: st, h) r h' := gs_step hf rfl q
theorem gs_ior (hf : pf G pc = some (pc, .ior, nx, k, v)) (q : pr_G L d G (nx, lv, .int (x ||| y) :: st, h) r h') : pr_G L d G (pc, lv, .int y :: .int x :: st, h) r h' := gs_step hf rfl q
theorem gs_ixor (hf : pf G pc = some (pc, .ixor, nx, k, v)) (q : pr_G L d G (nx, lv, .int (x ^^^ y) :: st, h) r h') : pr_G L d G (pc, lv, .int y :: .int x :: st, h) r h' := gs_step hf rfl q
theorem gs_ishl (hf : pf G pc = some (pc, .ishl, nx, k, v)) (q : pr_G L d G (nx, lv, .int (x <<< (y &&& 31)) :: st, h) r h') : pr_G L d G (pc, lv, .int y :: .int x :: st, h) r h' := gs_step hf rfl q
theorem gs_ishr (hf : pf G pc = some (pc, .ishr, nx, k, v)) (q : pr_G L d G (nx, lv, .int (x >>> (y &&& 31)) :: st, h) r h') : pr_G L d G (pc, lv, .int y :: .int x :: st, h) r h' := gs_step hf rfl q
theorem gs_iushr (hf : pf G pc = some (pc, .iushr, nx, k, v)) (q : pr_G L d G (nx, lv, .int (x.toUInt32 >>> (y.toUInt32 &&& Int32.toUInt32 31)).toInt32 :: st, h) r h') : pr_G L d G (pc, lv, .int y :: .int x :: st, h) r h' := gs_step hf rfl q
theorem gs_idiv (hf : pf G pc = some (pc, .idiv, nx, k, v)) (hy : ¬ y = 0) (q : pr_G L d G (nx, lv, .int (x / y) :: st, h) r h') : pr_G L d G (pc, lv, .int y :: .int x :: st, h) r h' := gs_step hf (by simp [ps_step, hy]) q
theorem gs_irem (hf : pf G pc = some (pc, .irem, nx, k, v)) (hy : ¬ y = 0) (q : pr_G L d G (nx, lv, .int (x - x / y * y) :: st, h) r h') : pr_G L d G (pc, lv, .int y :: .int x :: st, h) r h' := gs_step hf (by simp [ps_step, hy]) q
theorem gs_ineg (hf : pf G pc = some (pc, .ineg, nx, k, v)) (q : pr_G L d G (nx, lv, .int (-x) :: st, h) r h') : pr_G L d G (pc, lv, .int x :: st, h) r h' := gs_step hf rfl q
theorem gs_i2l (hf : pf G pc = some (pc, .i2l, nx, k, v)) (q : pr_G L d G (nx, lv, .long x.toInt64 :: st, h) r h') : pr_G L d G (pc, lv, .int x :: st, h) r h' := gs_step hf rfl q
theorem gs_i2b (hf : pf G pc = some (pc, .i2b, nx, k, v)) (q : pr_G L d G (nx, lv, .int x.toInt8.toInt32 :: st, h) r h') : pr_G L d G (pc, lv, .int x :: st, h) r h' := gs_step hf rfl q
theorem gs_i2s (hf : pf G pc = some (pc, .i2s, nx, k, v)) (q : pr_G L d G (nx, lv, .int x.toInt16.toInt32 :: st, h) r h') : pr_G L d G (pc, lv, .int x :: st, h) r h' := gs_step hf rfl q
theorem gs_i2c (hf : pf G pc = some (pc, .i2c, nx, k, v)) (q : pr_G L d G (nx, lv, .int (x.toUInt32 % 65536).toInt32 :: st, h) r h') : pr_G L d G (pc, lv, .int x :: st, h) r h' := gs_step hf rfl q
theorem gs_l2i {w : Int64} (hf : pf G pc = some (pc, .l2i, nx, k, v)) (q : pr_G L d G (nx, lv, .int w.toInt32 :: st, h) r h') : pr_G L d G (pc, lv, .long w :: st, h) r h' := gs_step hf rfl q
theorem gs_ladd {w z : Int64} (hf : pf G pc = some (pc, .ladd, nx, k, v)) (q : pr_G L d G (nx, lv, .long (w + z) :: st, h) r h') : pr_G L d G (pc, lv, .long z :: .long w :: st, h) r h' := gs_step hf rfl q
theorem gs_land {w z : Int64} (hf : pf G pc = some (pc, .land, nx, k, v)) (q : pr_G L d G (nx, lv, .long (w &&& z) :: st, h) r h') : pr_G L d G (pc, lv, .long z :: .long w :: st, h) r h' := gs_step hf rfl q
theorem gs_lor {w z : Int64} (hf : pf G pc = some (pc, .lor, nx, k, v)) (q : pr_G L d G (nx, lv, .long (w ||| z) :: st, h) r h') : pr_G L d G (pc, lv, .long z :: .long w :: st, h) r h' := gs_step hf rfl q
theorem gs_lcmp {w z : Int64} (hf : pf G pc = some (pc, .lcmp, nx, k, v)) (q : pr_G L d G (nx, lv, .int (lg_cmp w z) :: st, h) r h') : pr_G L d G (pc, lv, .long z :: .long w :: st, h) r h' := gs_step hf rfl q
theorem gs_lshl {w : Int64} (hf : pf G pc = some (pc, .lshl, nx, k, v)) (q : pr_G L d G (nx, lv, .long (w <<< (y.toInt64 &&& 63)) :: st, h) r h') : pr_G L d G (pc, lv, .int y :: .long w :: st, h) r h' := gs_step hf rfl q
theorem gs_lshr {w : Int64} (hf : pf G pc = some (pc, .lshr, nx, k, v)) (q : pr_G L d G (nx, lv, .long (w >>> (y.toInt64 &&& 63)) :: st, h) r h') : pr_G L d G (pc, lv, .int y :: .long w :: st, h) r h' := gs_step hf rfl q
theorem gs_dup {w : Value} (hf : pf G pc = some (pc, .dup, nx, k, v)) (hc : w.category = 1) (q : pr_G L d G (nx, lv, w :: w :: st, h) r h') : pr_G L d G (pc, lv, w :: st, h) r h' := gs_step hf (by simp [ps_step, hc]) q
theorem gs_dup2 {w u : Value} (hf : pf G pc = some (pc, .dup2, nx, k, v)) (hc : w.category = 1) (hd : u.category = 1) (q : pr_G L d G (nx, lv, w :: u :: w :: u :: st, h) r h') : pr_G L d G (pc, lv, w :: u :: st, h) r h' := gs_step hf (by simp [ps_step, hc, hd]) q
theorem gs_pop {w : Value} (hf : pf G pc = some (pc, .pop, nx, k, v)) (hc : w.category = 1) (q : pr_G L d G (nx, lv, st, h) r h') : pr_G L d G (pc, lv, w :: st, h) r h' := gs_step hf (by simp [ps_step, hc]) q
theorem gs_goto {z : Int} (hf : pf G pc = some (pc, .goto z, nx, k, v)) (q : pr_G L d G (k, lv, st, h) r h') : pr_G L d G (pc, lv, st, h) r h' := gs_step hf rfl q
theorem gs_if0 {c : ClassFile.Cond} {z : Int} (hf : pf G pc = some (pc, .ifCond c z, nx, k, v)) (qt : pc_b c x 0 = true → pr_G L d G (k, lv, st, h) r h') (qf : pc_b c x 0 = false → pr_G L d G (nx, lv, st, h) r h') : pr_G L d G (pc, lv, .int x :: st, h) r h' := by
  refine gs_step hf rfl ?_
  cases hc : pc_b c x 0 with
  | true => exact qt hc
  | false => exact qf hc
theorem gs_if2 {c : ClassFile.Cond} {z : Int} (hf : pf G pc = some (pc, .if_icmp c z, nx, k, v)) (qt : pc_b c x y = true → pr_G L d G (k, lv, st, h) r h') (qf : pc_b c x y = false → pr_G L d G (nx, lv, st, h) r h') : pr_G L d G (pc, lv, .int y :: .int x :: st, h) r h' := by
  refine gs_step hf rfl ?_
  cases hc : pc_b c x y with
  | true => exact qt hc
  | false => exact qf hc
theorem gs_eq0 {z : Int} (hf : pf G pc = some (pc, .ifCond .eq z, nx, k, v)) (qt : x = 0 → pr_G L d G (k, lv, st, h) r h') (qf : ¬ x = 0 → pr_G L d G (nx, lv, st, h) r h') : pr_G L d G (pc, lv, .int x :: st, h) r h' := gs_if0 hf (fun q => qt (by simpa [pc_b] using q)) (fun q => qf (by simpa [pc_b] using q))
theorem gs_ne0 {z : Int} (hf : pf G pc = some (pc, .ifCond .ne z, nx, k, v)) (qt : ¬ x = 0 → pr_G L d G (k, lv, st, h) r h') (qf : x = 0 → pr_G L d G (nx, lv, st, h) r h') : pr_G L d G (pc, lv, .int x :: st, h) r h' := gs_if0 hf (fun q => qt (by simpa [pc_b] using q)) (fun q => qf (by simpa [pc_b] using q))
theorem gs_lt0 {z : Int} (hf : pf G pc = some (pc, .ifCond .lt z, nx, k, v)) (qt : x < 0 → pr_G L d G (k, lv, st, h) r h') (qf : ¬ x < 0 → pr_G L d G (nx, lv, st, h) r h') : pr_G L d G (pc, lv, .int x :: st, h) r h' := gs_if0 hf (fun q => qt (of_decide_eq_true q)) (fun q => qf (of_decide_eq_false q))
theorem gs_ge0 {z : Int} (hf : pf G pc = some (pc, .ifCond .ge z, nx, k, v)) (qt : 0 ≤ x → pr_G L d G (k, lv, st, h) r h') (qf : ¬ 0 ≤ x → pr_G L d G (nx, lv, st, h) r h') : pr_G L d G (pc, lv, .int x :: st, h) r h' := gs_if0 hf (fun q => qt (of_decide_eq_true q)) (fun q => qf (of_decide_eq_false q))
theorem gs_gt0 {z : Int} (hf : pf G pc = some (pc, .ifCond .gt z, nx, k, v)) (qt : 0 < x → pr_G L d G (k, lv, st, h) r h') (qf : ¬ 0 < x → pr_G L d G (nx, lv, st, h) r h') : pr_G L d G (pc, lv, .int x :: st, h) r h' := gs_if0 hf (fun q => qt (of_decide_eq_true q)) (fun q => qf (of_decide_eq_false q))
theorem gs_le0 {z : Int} (hf : pf G pc = some (pc, .ifCond .le z, nx, k, v)) (qt : x ≤ 0 → pr_G L d G (k, lv, st, h) r h') (qf : ¬ x ≤ 0 → pr_G L d G (nx, lv, st, h) r h') : pr_G L d G (pc, lv, .int x :: st, h) r h' := gs_if0 hf (fun q => qt (of_decide_eq_true q)) (fun q => qf (of_decide_eq_false q))
theorem gs_eq2 {z : Int} (hf : pf G pc = some (pc, .if_icmp .eq z, nx, k, v)) (qt : x = y → pr_G L d G (k, lv, st, h) r h') (qf : ¬ x = y → pr_G L d G (nx, lv, st, h) r h') : pr_G L d G (pc, lv, .int y :: .int x :: st, h) r h' := gs_if2 hf (fun q => qt (of_decide_eq_true q)) (fun q => qf (of_decide_eq_false q))
theorem gs_ne2 {z : Int} (hf : pf G pc = some (pc, .if_icmp .ne z, nx, k, v)) (qt : ¬ x = y → pr_G L d G (k, lv, st, h) r h') (qf : x = y → pr_G L d G (nx, lv, st, h) r h') : pr_G L d G (pc, lv, .int y :: .int x :: st, h) r h' := gs_if2 hf (fun q => qt (of_decide_eq_true q)) (fun q => qf (Classical.not_not.mp (of_decide_eq_false q)))
theorem gs_lt2 {z : Int} (hf : pf G pc = some (pc, .if_icmp .lt z, nx, k, v)) (qt : x < y → pr_G L d G (k, lv, st, h) r h') (qf : ¬ x < y → pr_G L d G (nx, lv, st, h) r h') : pr_G L d G (pc, lv, .int y :: .int x :: st, h) r h' := gs_if2 hf (fun q => qt (of_decide_eq_true q)) (fun q => qf (of_decide_eq_false q))
theorem gs_ge2 {z : Int} (hf : pf G pc = some (pc, .if_icmp .ge z, nx, k, v)) (qt : y ≤ x → pr_G L d G (k, lv, st, h) r h') (qf : ¬ y ≤ x → pr_G L d G (nx, lv, st, h) r h') : pr_G L d G (pc, lv, .int y :: .int x :: st, h) r h' := gs_if2 hf (fun q => qt (of_decide_eq_true q)) (fun q => qf (of_decide_eq_false q))
theorem gs_gt2 {z : Int} (hf : pf G pc = some (pc, .if_icmp .gt z, nx, k, v)) (qt : y < x → pr_G L d G (k, lv, st, h) r h') (qf : ¬ y < x → pr_G L d G (nx, lv, st, h) r h') : pr_G L d G (pc, lv, .int y :: .int x :: st, h) r h' := gs_if2 hf (fun q => qt (of_decide_eq_true q)) (fun q => qf (of_decide_eq_false q))
theorem gs_le2 {z : Int} (hf : pf G pc = some (pc, .if_icmp .le z, nx, k, v)) (qt : x ≤ y → pr_G L d G (k, lv, st, h) r h') (qf : ¬ x ≤ y → pr_G L d G (nx, lv, st, h) r h') : pr_G L d G (pc, lv, .int y :: .int x :: st, h) r h' := gs_if2 hf (fun q => qt (of_decide_eq_true q)) (fun q => qf (of_decide_eq_false q))
theorem gs_switch {dd lo hi : Int} {offs : Array Int} {t : Nat} (hf : pf G pc = some (pc, .tableswitch dd lo hi offs, nx, k, v)) (ht : pt_sw pc dd lo hi offs x = some t) (q : pr_G L d G (t, lv, st, h) r h') : pr_G L d G (pc, lv, .int x :: st, h) r h' := gs_step hf (by simp [ps_step, ht]) q
theorem gs_get {j a : Nat} {w : Value} (hf : pf G pc = some (pc, .getfield j, nx, k, v)) (hg : pg_get L h a k v.toNat = some w) (q : pr_G L d G (nx, lv, w :: st, h) r h') : pr_G L d G (pc, lv, .ref a :: st, h) r h' := gs_step hf (by simp [ps_step, hg]) q
theorem gs_put {j a : Nat} {w : Value} {h1 : ph_T} (hf : pf G pc = some (pc, .putfield j, nx, k, v)) (hg : pg_put L h a k v.toNat w = some h1) (q : pr_G L d G (nx, lv, st, h1) r h') : pr_G L d G (pc, lv, w :: .ref a :: st, h) r h' := gs_step hf (by simp [ps_step, hg]) q
theorem gs_static0 {j : Nat} (hf : pf G pc = some (pc, .getstatic j, nx, 0, v)) (hx : Int32.ofInt v = x) (q : pr_G L d G (nx, lv, .int x :: st, h) r h') : pr_G L d G (pc, lv, st, h) r h' := by subst hx; exact gs_step hf rfl q
theorem gs_static1 {j a : Nat} (hf : pf G pc = some (pc, .getstatic j, nx, 1, v)) (hx : v.toNat = a) (q : pr_G L d G (nx, lv, .ref a :: st, h) r h') : pr_G L d G (pc, lv, st, h) r h' := by subst hx; exact gs_step hf rfl q
theorem gs_static2 {j : Nat} (hf : pf G pc = some (pc, .getstatic j, nx, 2, v)) (q : pr_G L d G (nx, lv, .null :: st, h) r h') : pr_G L d G (pc, lv, st, h) r h' := gs_step hf rfl q
theorem gs_iald {a : Nat} {w : Value} (hf : pf G pc = some (pc, .iaload, nx, k, v)) (hg : pa_ld L h [0] a x = some w) (q : pr_G L d G (nx, lv, w :: st, h) r h') : pr_G L d G (pc, lv, .int x :: .ref a :: st, h) r h' := gs_step hf (by simp [ps_step, hg]) q
theorem gs_bald {a : Nat} {w : Value} (hf : pf G pc = some (pc, .baload, nx, k, v)) (hg : pa_ld L h [1, 3] a x = some w) (q : pr_G L d G (nx, lv, w :: st, h) r h') : pr_G L d G (pc, lv, .int x :: .ref a :: st, h) r h' := gs_step hf (by simp [ps_step, hg]) q
theorem gs_sald {a : Nat} {w : Value} (hf : pf G pc = some (pc, .saload, nx, k, v)) (hg : pa_ld L h [2] a x = some w) (q : pr_G L d G (nx, lv, w :: st, h) r h') : pr_G L d G (pc, lv, .int x :: .ref a :: st, h) r h' := gs_step hf (by simp [ps_step, hg]) q
theorem gs_aald {a : Nat} {w : Value} (hf : pf G pc = some (pc, .aaload, nx, k, v)) (hg : pa_ldr L h a x = some w) (q : pr_G L d G (nx, lv, w :: st, h) r h') : pr_G L d G (pc, lv, .int x :: .ref a :: st, h) r h' := gs_step hf (by simp [ps_step, hg]) q
theorem gs_iast {a : Nat} {h1 : ph_T} (hf : pf G pc = some (pc, .iastore, nx, k, v)) (hg : pa_st L h [0] a x y = some h1) (q : pr_G L d G (nx, lv, st, h1) r h') : pr_G L d G (pc, lv, .int y :: .int x :: .ref a :: st, h) r h' := gs_step hf (by simp [ps_step, hg]) q
theorem gs_bast {a : Nat} {h1 : ph_T} (hf : pf G pc = some (pc, .bastore, nx, k, v)) (hg : pa_st L h [1, 3] a x y = some h1) (q : pr_G L d G (nx, lv, st, h1) r h') : pr_G L d G (pc, lv, .int y :: .int x :: .ref a :: st, h) r h' := gs_step hf (by simp [ps_step, hg]) q
theorem gs_sast {a : Nat} {h1 : ph_T} (hf : pf G pc = some (pc, .sastore, nx, k, v)) (hg : pa_st L h [2] a x y = some h1) (q : pr_G L d G (nx, lv, st, h1) r h') : pr_G L d G (pc, lv, .int y :: .int x :: .ref a :: st, h) r h' := gs_step hf (by simp [ps_step, hg]) q
theorem gs_alen {a : Nat} {w : Value} (hf : pf G pc = some (pc, .arraylength, nx, k, v)) (hg : pa_len L h a = some w) (q : pr_G L d G (nx, lv, w :: st, h) r h') : pr_G L d G (pc, lv, .ref a :: st, h) r h' := gs_step hf (by simp [ps_step, hg]) q
theorem gs_cpy {j a0 a1 : Nat} {sp dp n : Int32} {h1 : ph_T} (hf : pf G pc = some (pc, .invokestatic j, nx, 1001, v)) (hg : pa_cpy L h a0 sp a1 dp n = some h1) (q : pr_G L d G (nx, lv, [], h1) r h') : pr_G L d G (pc, lv, [.int n, .int dp, .ref a1, .int sp, .ref a0], h) r h' := gs_step hf (by simp [ps_step, hg]) q
theorem gs_calls {j : Nat} (hf : pf G pc = some (pc, .invokestatic j, nx, k, v)) {As : List Value} {r1 : Option Value} {h1 : ph_T} {st1 : List Value} (hc : pr_C L d k As h r1 h1) (hs : As.reverse ++ st = st1) (hn : As.length = (pm k).2.2.2.2.2.1) (hw : pk_sum st ≤ 8) (hk : k < 193) (q : pr_G L d G (nx, lv, r1.toList ++ st, h1) r h') : pr_G L d G (pc, lv, st1, h) r h' := by
  obtain ⟨n, s', h1', h2⟩ := q
  exact ⟨n + 1, s', ⟨_, Or.inr ⟨_, hf, Or.inr ⟨As, st, r1, h1, hs.symm, hn, hw, hk, Or.inl ⟨j, rfl⟩, hc, rfl⟩⟩, h1'⟩, h2⟩
theorem gs_callv {j b : Nat} (hf : pf G pc = some (pc, .invokevirtual j, nx, k, v)) {Bs : List Value} {r1 : Option Value} {h1 : ph_T} {st1 : List Value} (hc : pr_C L d k (.ref b :: Bs) h r1 h1) (hs : (.ref b :: Bs : List Value).reverse ++ st = st1) (hn : (.ref b :: Bs : List Value).length = (pm k).2.2.2.2.2.1) (hw : pk_sum st ≤ 8) (hk : k < 193) (hb : (ps_sh L h b).1 = v.toNat) (hb2 : b < 17 ∨ v.toNat < 20) (q : pr_G L d G (nx, lv, r1.toList ++ st, h1) r h') : pr_G L d G (pc, lv, st1, h) r h' := by
  obtain ⟨n, s', h1', h2⟩ := q
  exact ⟨n + 1, s', ⟨_, Or.inr ⟨_, hf, Or.inr ⟨_, st, r1, h1, hs.symm, hn, hw, hk, Or.inr (Or.inr ⟨j, b, Bs, rfl, rfl, hb, hb2⟩), hc, rfl⟩⟩, h1'⟩, h2⟩
theorem gs_iret {ty : FieldType} (hf : pf G pc = some (pc, .ireturn, nx, k, v)) (hG : G.2.2.2.2.1 = some ty) (hn : narrow ty (.int x) = .int x) (hx : r = some (.int x)) (hh : h = h') : pr_G L d G (pc, lv, [.int x], h) r h' :=
  ⟨0, _, rfl, ⟨_, hf, Or.inl ⟨rfl, x, ty, rfl, hG, hn, hx⟩⟩, hh⟩
theorem gs_lret {w : Int64} (hf : pf G pc = some (pc, .lreturn, nx, k, v)) (hG : G.2.2.2.2.1 = some .long) (hx : r = some (.long w)) (hh : h = h') : pr_G L d G (pc, lv, [.long w], h) r h' :=
  ⟨0, _, rfl, ⟨_, hf, Or.inr (Or.inl ⟨rfl, w, rfl, hG, hx⟩)⟩, hh⟩
theorem gs_aret {a : Nat} {n : String} (hf : pf G pc = some (pc, .areturn, nx, k, v)) (hG : G.2.2.2.2.1 = some (.object n)) (hx : r = some (.ref a)) (hh : h = h') : pr_G L d G (pc, lv, [.ref a], h) r h' :=
  ⟨0, _, rfl, ⟨_, hf, Or.inr (Or.inr (Or.inl ⟨rfl, a, n, rfl, hG, hx⟩))⟩, hh⟩
theorem gs_vret (hf : pf G pc = some (pc, .return_, nx, k, v)) (hG : G.2.2.2.2.1 = none) (hx : r = none) (hh : h = h') : pr_G L d G (pc, lv, [], h) r h' :=
  ⟨0, _, rfl, ⟨_, hf, Or.inr (Or.inr (Or.inr ⟨rfl, rfl, hG, hx⟩))⟩, hh⟩
end PG
