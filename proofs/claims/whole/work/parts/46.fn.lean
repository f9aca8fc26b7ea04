def fn_X8_drop (p1 : Int32) (f : pd_M) : Option (Int32 × pd_M) :=
  if (fn_X8_isBelow p1 8) = 0 then
  some ((-1000001), f)
  else
  if pa_in p1 8 = true then
  if (f (19 + 2 * p1.toNatClampNeg) 1) = 0 then
  ob2 (fn_X8_found 1 f) fun r8 f9 =>
  some (r8, f9)
  else
  pn ((pi_up f (19 + 2 * p1.toNatClampNeg) 1 0)) fun f4 =>
  ob2 (fn_X8_well (f4 (19 + 2 * p1.toNatClampNeg) 3) f4) fun r5 f6 =>
  some (r5, f6)
  else none
set_option maxRecDepth 100000 in
set_option maxHeartbeats 4000000 in
theorem th_X8_drop (L : Nat) (p1 : Int32) (f : pd_M) (q : Int32) (g : pd_M) (e : fn_X8_drop p1 f = some (q, g)) : pr_C L 2 63 [.ref 17, .int p1] (hH f) (some (.int q)) (hH g) := by
  refine pr_C.of (G := mt_X8_drop) rfl rfl ?_
  show pr_G L 1 mt_X8_drop (0, [(0, .ref 17), (1, .int p1)], [], hH f) _ _
  unfold fn_X8_drop at e
  refine gs_iload_n rfl rfl ?_
  refine gs_bipush (x := 8) rfl (by decide) ?_
  refine gs_callsI (st := []) rfl (pr_C_le (by decide) (th_X8_isBelow L p1 8 f _ rfl)) rfl rfl rfl (by decide) ?_
  refine gs_ne0 rfl (fun c1 => ?_) (fun c1 => ?_)
  · rw [if_neg c1] at e
    refine gs_aload_n rfl rfl ?_
    refine gs_get rfl (gd_r (b := 18) rfl rfl rfl) ?_
    refine gs_iload_n rfl rfl ?_
    by_cases hb2 : pa_in p1 8 = true
    case neg => rw [if_neg hb2] at e; cases e
    rw [if_pos hb2] at e
    refine gs_aald rfl (gd_aa (b := (19 + 2 * p1.toNatClampNeg)) rfl (by decide) rfl hb2 rfl (arr_rf_18 (lt_of_in hb2))) ?_
    refine gs_astore_n (lv' := [(2, .ref (19 + 2 * p1.toNatClampNeg)), (0, .ref 17), (1, .int p1)]) rfl rfl ?_
    refine gs_aload_n rfl rfl ?_
    refine gs_get rfl (gd_i (sh_of (arr_sh_18 (lt_of_in hb2)) (by decide)) rfl) ?_
    refine gs_ne0 rfl (fun c3 => ?_) (fun c3 => ?_)
    · rw [if_neg c3] at e
      refine gs_aload_n rfl rfl ?_
      refine gs_iconst (x := 0) rfl (by decide) ?_
      refine gs_put rfl (gd_pz (sh_of (arr_sh_18 (lt_of_in hb2)) (by decide)) rfl (by decide)) ?_
      obtain ⟨f4, hf4, e⟩ := pn_some e
      refine gs_heap hf4 ?_
      refine gs_aload_n rfl rfl ?_
      refine gs_aload_n rfl rfl ?_
      refine gs_get rfl (gd_i (sh_of (arr_sh_18 (lt_of_in hb2)) (by decide)) rfl) ?_
      obtain ⟨r5, f6, ec7, e⟩ := ob2_some e
      refine gs_callvI (st := []) rfl (pr_C_le (by decide) (th_X8_well L (f4 (19 + 2 * p1.toNatClampNeg) 3) f4 r5 f6 ec7)) rfl rfl rfl (by decide) rfl (Or.inr (by decide)) ?_
      obtain ⟨rfl, rfl⟩ := inj2 e
      exact gs_iret rfl rfl rfl rfl rfl
    · rw [if_pos c3] at e
      refine gs_aload_n rfl rfl ?_
      refine gs_iconst (x := 1) rfl (by decide) ?_
      obtain ⟨r8, f9, ec10, e⟩ := ob2_some e
      refine gs_callvI (st := []) rfl (pr_C_le (by decide) (th_X8_found L 1 f r8 f9 ec10)) rfl rfl rfl (by decide) rfl (Or.inr (by decide)) ?_
      obtain ⟨rfl, rfl⟩ := inj2 e
      exact gs_iret rfl rfl rfl rfl rfl
  · rw [if_pos c1] at e
    refine gs_ldc (x := (-1000001)) rfl (by decide) ?_
    obtain ⟨rfl, rfl⟩ := inj2 e
    exact gs_iret rfl rfl rfl rfl rfl
def lp_X8_feed_37 : Nat → Int64 → Int32 → pd_M → Option (pd_M)
  | 0, _, _, _ => none
  | n + 1, z1, z4, f =>
    if z4 < 0 then
    some (f)
    else
    if pa_in (f 35 3) 500 = true then
    pn ((pi_up f 36 ((f 35 3).toNatClampNeg) ((z1 >>> ((8 * z4).toInt64 &&& 63)).toInt32.toInt8.toInt32.toInt8.toInt32))) fun f7 =>
    pn ((pi_up f7 35 3 ((f7 35 3) + 1))) fun f8 =>
    pn (z4 + (-1)) fun x9 =>
    lp_X8_feed_37 n z1 x9 f8
    else none
def fn_X8_feed (p1 : Int64) (p2 : Int32) (f : pd_M) : Option (Int32 × pd_M) :=
  if p2 < 1 then
  some ((-1000001), f)
  else
  if p2 ≤ 8 then
  if ((f 35 3) + p2) ≤ 500 then
  pn ((p2 - 1)) fun x4 =>
  ob1 (lp_X8_feed_37 5000 p1 x4 f) fun f10 =>
  some ((f10 35 3), f10)
  else
  some ((-1000003), f)
  else
  some ((-1000001), f)
set_option maxRecDepth 100000 in
set_option maxHeartbeats 4000000 in
theorem tl_X8_feed_37 (L : Nat) : ∀ (n : Nat) (z1 : Int64) (z4 : Int32) (f : pd_M) (w0 : pd_M) (r : Option Value) (h2 : ph_T), lp_X8_feed_37 n z1 z4 f = some (w0) → pr_G L 0 mt_X8_feed (85, [(0, .ref 17)], [], hH w0) r h2 → pr_G L 0 mt_X8_feed (37, [(0, .ref 17), (1, .long z1), (4, .int z4)], [], hH f) r h2 := by
  intro n
  induction n with
  | zero => intro z1 z4 f w0 r h2 e; cases e
  | succ n ih =>
    intro z1 z4 f w0 r h2 e K
    unfold lp_X8_feed_37 at e
    refine gs_iload rfl rfl ?_
    refine gs_lt0 rfl (fun c5 => ?_) (fun c5 => ?_)
    · rw [if_pos c5] at e
      obtain rfl := inj1 e
      refine gs_drop [0] rfl ?_
      exact K
    · rw [if_neg c5] at e
      refine gs_aload_n rfl rfl ?_
      refine gs_get rfl (gd_r (b := 35) rfl rfl rfl) ?_
      refine gs_get rfl (gd_r (b := 36) rfl rfl rfl) ?_
      refine gs_aload_n rfl rfl ?_
      refine gs_get rfl (gd_r (b := 35) rfl rfl rfl) ?_
      refine gs_get rfl (gd_i rfl rfl) ?_
      refine gs_lload_n rfl rfl ?_
      refine gs_bipush (x := 8) rfl (by decide) ?_
      refine gs_iload rfl rfl ?_
      refine gs_imul rfl ?_
      refine gs_lshr rfl ?_
      refine gs_l2i rfl ?_
      refine gs_i2b rfl ?_
      by_cases hb6 : pa_in (f 35 3) 500 = true
      case neg => rw [if_neg hb6] at e; cases e
      rw [if_pos hb6] at e
      refine gs_bast rfl (gd_sb (j := (f 35 3).toNatClampNeg) rfl (by decide) hb6 rfl) ?_
      obtain ⟨f7, hf7, e⟩ := pn_some e
      refine gs_heap hf7 ?_
      refine gs_aload_n rfl rfl ?_
      refine gs_get rfl (gd_r (b := 35) rfl rfl rfl) ?_
      refine gs_dup rfl rfl ?_
      refine gs_get rfl (gd_i rfl rfl) ?_
      refine gs_iconst (x := 1) rfl (by decide) ?_
      refine gs_iadd rfl ?_
      refine gs_put rfl (gd_pi rfl rfl) ?_
      obtain ⟨f8, hf8, e⟩ := pn_some e
      refine gs_heap hf8 ?_
      obtain ⟨x9, hx9, e⟩ := pn_some e
      refine gs_iinc1 (x1 := x9) (c := (-1)) (lv' := [(4, .int x9), (0, .ref 17), (1, .long z1)]) rfl rfl (by decide) hx9 rfl ?_
      refine gs_goto rfl ?_
      refine gs_drop [1, 2, 0] rfl ?_
      exact ih z1 x9 f8 w0 _ _ e K
set_option maxRecDepth 100000 in
set_option maxHeartbeats 4000000 in
theorem th_X8_feed (L : Nat) (p1 : Int64) (p2 : Int32) (f : pd_M) (q : Int32) (g : pd_M) (e : fn_X8_feed p1 p2 f = some (q, g)) : pr_C L 1 64 [.ref 17, .long p1, .int p2] (hH f) (some (.int q)) (hH g) := by
  refine pr_C.of (G := mt_X8_feed) rfl rfl ?_
  show pr_G L 0 mt_X8_feed (0, [(0, .ref 17), (1, .long p1), (3, .int p2)], [], hH f) _ _
  unfold fn_X8_feed at e
  refine gs_iload_n rfl rfl ?_
  refine gs_iconst (x := 1) rfl (by decide) ?_
  refine gs_lt2 rfl (fun c1 => ?_) (fun c1 => ?_)
  · rw [if_pos c1] at e
    refine gs_ldc (x := (-1000001)) rfl (by decide) ?_
    obtain ⟨rfl, rfl⟩ := inj2 e
    exact gs_iret rfl rfl rfl rfl rfl
  · rw [if_neg c1] at e
    refine gs_iload_n rfl rfl ?_
    refine gs_bipush (x := 8) rfl (by decide) ?_
    refine gs_le2 rfl (fun c2 => ?_) (fun c2 => ?_)
    · rw [if_pos c2] at e
      refine gs_aload_n rfl rfl ?_
      refine gs_get rfl (gd_r (b := 35) rfl rfl rfl) ?_
      refine gs_get rfl (gd_i rfl rfl) ?_
      refine gs_iload_n rfl rfl ?_
      refine gs_iadd rfl ?_
      refine gs_sipush (x := 500) rfl (by decide) ?_
      refine gs_le2 rfl (fun c3 => ?_) (fun c3 => ?_)
      · rw [if_pos c3] at e
        refine gs_iload_n rfl rfl ?_
        refine gs_iconst (x := 1) rfl (by decide) ?_
        refine gs_isub rfl ?_
        obtain ⟨x4, hx4, e⟩ := pn_some e
        refine gs_topi hx4 ?_
        refine gs_istore (lv' := [(4, .int x4), (0, .ref 17), (1, .long p1), (3, .int p2)]) rfl rfl ?_
        refine gs_drop [1, 2, 0] rfl ?_
        obtain ⟨f10, el11, e⟩ := ob1_some e
        refine tl_X8_feed_37 L 5000 p1 x4 f f10 _ _ el11 ?_
        refine gs_aload_n rfl rfl ?_
        refine gs_get rfl (gd_r (b := 35) rfl rfl rfl) ?_
        refine gs_get rfl (gd_i rfl rfl) ?_
        obtain ⟨rfl, rfl⟩ := inj2 e
        exact gs_iret rfl rfl rfl rfl rfl
      · rw [if_neg c3] at e
        refine gs_ldc (x := (-1000003)) rfl (by decide) ?_
        obtain ⟨rfl, rfl⟩ := inj2 e
        exact gs_iret rfl rfl rfl rfl rfl
    · rw [if_neg c2] at e
      refine gs_ldc (x := (-1000001)) rfl (by decide) ?_
      obtain ⟨rfl, rfl⟩ := inj2 e
      exact gs_iret rfl rfl rfl rfl rfl
def fn_X8_laws (f : pd_M) : Option (Int32 × pd_M) :=
  ob1 (fn_X6_split f) fun f1 =>
  pn ((pi_up f1 35 3 0)) fun f3 =>
  ob1 (fn_X3_readText f3) fun f4 =>
  if (f4 100 4) = 0 then
  ob1 (fn_X7_settle 101 f4) fun f7 =>
  some ((f7 40 4), f7)
  else
  pn ((pi_up f4 17 7 (f4 100 4))) fun f9 =>
  ob1 (fn_X3_place f9) fun r10 =>
  some (((-1000100) - r10), f9)
set_option maxRecDepth 100000 in
set_option maxHeartbeats 4000000 in
theorem th_X8_laws (L : Nat)  (f : pd_M) (q : Int32) (g : pd_M) (e : fn_X8_laws f = some (q, g)) : pr_C L 9 65 [.ref 17] (hH f) (some (.int q)) (hH g) := by
  refine pr_C.of (G := mt_X8_laws) rfl rfl ?_
  show pr_G L 8 mt_X8_laws (0, [(0, .ref 17)], [], hH f) _ _
  unfold fn_X8_laws at e
  refine gs_aload_n rfl rfl ?_
  refine gs_get rfl (gd_r (b := 35) rfl rfl rfl) ?_
  obtain ⟨f1, ec2, e⟩ := ob1_some e
  refine gs_callvV (st := []) rfl (pr_C_le (by decide) (th_X6_split L f f1 ec2)) rfl rfl rfl (by decide) rfl (Or.inr (by decide)) ?_
  refine gs_aload_n rfl rfl ?_
  refine gs_get rfl (gd_r (b := 35) rfl rfl rfl) ?_
  refine gs_iconst (x := 0) rfl (by decide) ?_
  refine gs_put rfl (gd_pi rfl rfl) ?_
  obtain ⟨f3, hf3, e⟩ := pn_some e
  refine gs_heap hf3 ?_
  refine gs_aload_n rfl rfl ?_
  refine gs_get rfl (gd_r (b := 100) rfl rfl rfl) ?_
  obtain ⟨f4, ec5, e⟩ := ob1_some e
  refine gs_callvV (st := []) rfl (pr_C_le (by decide) (th_X3_readText L f3 f4 ec5)) rfl rfl rfl (by decide) rfl (Or.inr (by decide)) ?_
  refine gs_aload_n rfl rfl ?_
  refine gs_get rfl (gd_r (b := 100) rfl rfl rfl) ?_
  refine gs_get rfl (gd_i rfl rfl) ?_
  refine gs_eq0 rfl (fun c6 => ?_) (fun c6 => ?_)
  · rw [if_pos c6] at e
    refine gs_aload_n rfl rfl ?_
    refine gs_get rfl (gd_r (b := 39) rfl rfl rfl) ?_
    refine gs_aload_n rfl rfl ?_
    refine gs_get rfl (gd_r (b := 100) rfl rfl rfl) ?_
    refine gs_get rfl (gd_r (b := 101) rfl rfl rfl) ?_
    obtain ⟨f7, ec8, e⟩ := ob1_some e
    refine gs_callvV (st := []) rfl (pr_C_le (by decide) (th_X7_settle L 101 f4 f7 ec8)) rfl rfl rfl (by decide) rfl (Or.inr (by decide)) ?_
    refine gs_aload_n rfl rfl ?_
    refine gs_get rfl (gd_r (b := 39) rfl rfl rfl) ?_
    refine gs_get rfl (gd_r (b := 40) rfl rfl rfl) ?_
    refine gs_get rfl (gd_i rfl rfl) ?_
    obtain ⟨rfl, rfl⟩ := inj2 e
    exact gs_iret rfl rfl rfl rfl rfl
  · rw [if_neg c6] at e
    refine gs_aload_n rfl rfl ?_
    refine gs_aload_n rfl rfl ?_
    refine gs_get rfl (gd_r (b := 100) rfl rfl rfl) ?_
    refine gs_get rfl (gd_i rfl rfl) ?_
    refine gs_put rfl (gd_pi rfl rfl) ?_
    obtain ⟨f9, hf9, e⟩ := pn_some e
    refine gs_heap hf9 ?_
    refine gs_ldc (x := (-1000100)) rfl (by decide) ?_
    refine gs_aload_n rfl rfl ?_
    refine gs_get rfl (gd_r (b := 100) rfl rfl rfl) ?_
    obtain ⟨r10, ec11, e⟩ := ob1_some e
    refine gs_callvI (st := [.int (-1000100)]) rfl (pr_C_le (by decide) (th_X3_place L f9 r10 ec11)) rfl rfl rfl (by decide) rfl (Or.inr (by decide)) ?_
    refine gs_isub rfl ?_
    obtain ⟨rfl, rfl⟩ := inj2 e
    exact gs_iret rfl rfl rfl rfl rfl
def fn_X8_fault (f : pd_M) : Int32 :=
  (f 17 7)
set_option maxRecDepth 100000 in
set_option maxHeartbeats 4000000 in
theorem th_X8_fault (L : Nat)  (f : pd_M) (q : Int32) (e : fn_X8_fault f = q) : pr_C L 1 66 [.ref 17] (hH f) (some (.int q)) (hH f) := by
  refine pr_C.of (G := mt_X8_fault) rfl rfl ?_
  show pr_G L 0 mt_X8_fault (0, [(0, .ref 17)], [], hH f) _ _
  unfold fn_X8_fault at e
  refine gs_aload_n rfl rfl ?_
  refine gs_get rfl (gd_i rfl rfl) ?_
  subst e
  exact gs_iret rfl rfl rfl rfl rfl
def fn_X8_editions (p1 : Int32) (f : pd_M) : Option (Int32) :=
  if (fn_X8_isBelow p1 4) = 0 then
  some (-1000001)
  else
  if pa_in p1 4 = true then
  some (f 41 p1.toNatClampNeg)
  else none
set_option maxRecDepth 100000 in
set_option maxHeartbeats 4000000 in
theorem th_X8_editions (L : Nat) (p1 : Int32) (f : pd_M) (q : Int32) (e : fn_X8_editions p1 f = some q) : pr_C L 2 67 [.ref 17, .int p1] (hH f) (some (.int q)) (hH f) := by
  refine pr_C.of (G := mt_X8_editions) rfl rfl ?_
  show pr_G L 1 mt_X8_editions (0, [(0, .ref 17), (1, .int p1)], [], hH f) _ _
  unfold fn_X8_editions at e
  refine gs_iload_n rfl rfl ?_
  refine gs_iconst (x := 4) rfl (by decide) ?_
  refine gs_callsI (st := []) rfl (pr_C_le (by decide) (th_X8_isBelow L p1 4 f _ rfl)) rfl rfl rfl (by decide) ?_
  refine gs_eq0 rfl (fun c1 => ?_) (fun c1 => ?_)
  · rw [if_pos c1] at e
    refine gs_ldc (x := (-1000001)) rfl (by decide) ?_
    obtain rfl := inj1 e
    exact gs_iret rfl rfl rfl rfl rfl
  · rw [if_neg c1] at e
    refine gs_aload_n rfl rfl ?_
    refine gs_get rfl (gd_r (b := 39) rfl rfl rfl) ?_
    refine gs_get rfl (gd_r (b := 40) rfl rfl rfl) ?_
    refine gs_get rfl (gd_r (b := 41) rfl rfl rfl) ?_
    refine gs_iload_n rfl rfl ?_
    by_cases hb2 : pa_in p1 4 = true
    case neg => rw [if_neg hb2] at e; cases e
    rw [if_pos hb2] at e
    refine gs_iald rfl (gd_ia (j := p1.toNatClampNeg) rfl hb2 rfl) ?_
    refine gs_goto rfl ?_
    obtain rfl := inj1 e
    exact gs_iret rfl rfl rfl rfl rfl
def fn_X8_isCase (p1 : Int32) (p2 : Int32) : Int32 :=
  if (fn_X8_isBelow p1 8) = 0 then
  0
  else
  if (fn_X8_isBelow p2 3) = 0 then
  0
  else
  1
set_option maxRecDepth 100000 in
set_option maxHeartbeats 4000000 in
theorem th_X8_isCase (L : Nat) (p1 : Int32) (p2 : Int32) (f : pd_M) (q : Int32) (e : fn_X8_isCase p1 p2 = q) : pr_C L 2 90 [.int p1, .int p2] (hH f) (some (.int q)) (hH f) := by
  refine pr_C.of (G := mt_X8_isCase) rfl rfl ?_
  show pr_G L 1 mt_X8_isCase (0, [(0, .int p1), (1, .int p2)], [], hH f) _ _
  unfold fn_X8_isCase at e
  refine gs_iload_n rfl rfl ?_
  refine gs_bipush (x := 8) rfl (by decide) ?_
  refine gs_callsI (st := []) rfl (pr_C_le (by decide) (th_X8_isBelow L p1 8 f _ rfl)) rfl rfl rfl (by decide) ?_
  refine gs_eq0 rfl (fun c1 => ?_) (fun c1 => ?_)
  · rw [if_pos c1] at e
    refine gs_iconst (x := 0) rfl (by decide) ?_
    subst e
    exact gs_iret rfl rfl (by decide) rfl rfl
  · rw [if_neg c1] at e
    refine gs_iload_n rfl rfl ?_
    refine gs_iconst (x := 3) rfl (by decide) ?_
    refine gs_callsI (st := []) rfl (pr_C_le (by decide) (th_X8_isBelow L p2 3 f _ rfl)) rfl rfl rfl (by decide) ?_
    refine gs_eq0 rfl (fun c2 => ?_) (fun c2 => ?_)
    · rw [if_pos c2] at e
      refine gs_iconst (x := 0) rfl (by decide) ?_
      subst e
      exact gs_iret rfl rfl (by decide) rfl rfl
    · rw [if_neg c2] at e
      refine gs_iconst (x := 1) rfl (by decide) ?_
      refine gs_goto rfl ?_
      subst e
      exact gs_iret rfl rfl (by decide) rfl rfl
def fn_X8_caseOf (p1 : Int32) (p2 : Int32) : Int32 :=
  ((3 * p1) + p2)
set_option maxRecDepth 100000 in
set_option maxHeartbeats 4000000 in
theorem th_X8_caseOf (L : Nat) (p1 : Int32) (p2 : Int32) (f : pd_M) (q : Int32) (e : fn_X8_caseOf p1 p2 = q) : pr_C L 1 91 [.int p1, .int p2] (hH f) (some (.int q)) (hH f) := by
  refine pr_C.of (G := mt_X8_caseOf) rfl rfl ?_
  show pr_G L 0 mt_X8_caseOf (0, [(0, .int p1), (1, .int p2)], [], hH f) _ _
  unfold fn_X8_caseOf at e
  refine gs_iconst (x := 3) rfl (by decide) ?_
  refine gs_iload_n rfl rfl ?_
  refine gs_imul rfl ?_
  refine gs_iload_n rfl rfl ?_
  refine gs_iadd rfl ?_
  subst e
  exact gs_iret rfl rfl rfl rfl rfl
def lp_X8_nthBit_4 : Nat → Int32 → Int32 → Int32 → Int32 → pd_M → Option ((Int32) ⊕ (Unit))
  | 0, _, _, _, _, _ => none
  | n + 1, z0, z1, z2, z3, f =>
    if 7 ≤ z3 then
    some (.inr ())
    else
    if ((z0 >>> (z3 &&& 31)) &&& 1) = 0 then
    pn (z3 + 1) fun x3 =>
    lp_X8_nthBit_4 n z0 z1 z2 x3 f
    else
    if z2 = z1 then
    some (.inl z3)
    else
    pn (z2 + 1) fun x5 =>
    pn (z3 + 1) fun x6 =>
    lp_X8_nthBit_4 n z0 z1 x5 x6 f
def fn_X8_nthBit (p1 : Int32) (p2 : Int32) (f : pd_M) : Option (Int32) :=
  os0 (lp_X8_nthBit_4 5000 p1 p2 0 0 f) (fun q => some q) (
  some (-1000000))
set_option maxRecDepth 100000 in
set_option maxHeartbeats 4000000 in
theorem tl_X8_nthBit_4 (L : Nat) : ∀ (n : Nat) (z0 : Int32) (z1 : Int32) (z2 : Int32) (z3 : Int32) (f : pd_M) (o : (Int32) ⊕ (Unit)), lp_X8_nthBit_4 n z0 z1 z2 z3 f = some o → (∀ q, o = .inl q → pr_G L 0 mt_X8_nthBit (4, [(0, .int z0), (1, .int z1), (2, .int z2), (3, .int z3)], [], hH f) (some (.int q)) (hH f)) ∧ (∀ (_ : Unit), o = .inr () → ∀ (r : Option Value) (h2 : ph_T), pr_G L 0 mt_X8_nthBit (34, [], [], hH f) r h2 → pr_G L 0 mt_X8_nthBit (4, [(0, .int z0), (1, .int z1), (2, .int z2), (3, .int z3)], [], hH f) r h2) := by
  intro n
  induction n with
  | zero => intro z0 z1 z2 z3 f o e; cases e
  | succ n ih =>
    intro z0 z1 z2 z3 f o e
    refine ⟨fun q hq => ?_, fun _ hq r h2 K => ?_⟩
    · subst hq
      unfold lp_X8_nthBit_4 at e
      refine gs_iload_n rfl rfl ?_
      refine gs_bipush (x := 7) rfl (by decide) ?_
      refine gs_ge2 rfl (fun c1 => ?_) (fun c1 => ?_)
      · rw [if_pos c1] at e
        cases e
      · rw [if_neg c1] at e
        refine gs_iload_n rfl rfl ?_
        refine gs_iload_n rfl rfl ?_
        refine gs_ishr rfl ?_
        refine gs_iconst (x := 1) rfl (by decide) ?_
        refine gs_iand rfl ?_
        refine gs_eq0 rfl (fun c2 => ?_) (fun c2 => ?_)
        · rw [if_pos c2] at e
          obtain ⟨x3, hx3, e⟩ := pn_some e
          refine gs_iinc1 (x1 := x3) (c := 1) (lv' := [(3, .int x3), (0, .int z0), (1, .int z1), (2, .int z2)]) rfl rfl (by decide) hx3 rfl ?_
          refine gs_goto rfl ?_
          refine gs_drop [1, 2, 3, 0] rfl ?_
          exact (ih z0 z1 z2 x3 f _ e).1 _ rfl
        · rw [if_neg c2] at e
          refine gs_iload_n rfl rfl ?_
          refine gs_iload_n rfl rfl ?_
          refine gs_ne2 rfl (fun c4 => ?_) (fun c4 => ?_)
          · rw [if_neg c4] at e
            obtain ⟨x5, hx5, e⟩ := pn_some e
            refine gs_iinc1 (x1 := x5) (c := 1) (lv' := [(2, .int x5), (0, .int z0), (1, .int z1), (3, .int z3)]) rfl rfl (by decide) hx5 rfl ?_
            obtain ⟨x6, hx6, e⟩ := pn_some e
            refine gs_iinc1 (x1 := x6) (c := 1) (lv' := [(3, .int x6), (2, .int x5), (0, .int z0), (1, .int z1)]) rfl rfl (by decide) hx6 rfl ?_
            refine gs_goto rfl ?_
            refine gs_drop [2, 3, 1, 0] rfl ?_
            exact (ih z0 z1 x5 x6 f _ e).1 _ rfl
          · rw [if_pos c4] at e
            refine gs_iload_n rfl rfl ?_
            obtain rfl := injl e
            exact gs_iret rfl rfl rfl rfl rfl
    · subst hq
      unfold lp_X8_nthBit_4 at e
      refine gs_iload_n rfl rfl ?_
      refine gs_bipush (x := 7) rfl (by decide) ?_
      refine gs_ge2 rfl (fun c1 => ?_) (fun c1 => ?_)
      · rw [if_pos c1] at e
        refine gs_drop [] rfl ?_
        exact K
      · rw [if_neg c1] at e
        refine gs_iload_n rfl rfl ?_
        refine gs_iload_n rfl rfl ?_
        refine gs_ishr rfl ?_
        refine gs_iconst (x := 1) rfl (by decide) ?_
        refine gs_iand rfl ?_
        refine gs_eq0 rfl (fun c2 => ?_) (fun c2 => ?_)
        · rw [if_pos c2] at e
          obtain ⟨x3, hx3, e⟩ := pn_some e
          refine gs_iinc1 (x1 := x3) (c := 1) (lv' := [(3, .int x3), (0, .int z0), (1, .int z1), (2, .int z2)]) rfl rfl (by decide) hx3 rfl ?_
          refine gs_goto rfl ?_
          refine gs_drop [1, 2, 3, 0] rfl ?_
          exact (ih z0 z1 z2 x3 f _ e).2 () rfl _ _ K
        · rw [if_neg c2] at e
          refine gs_iload_n rfl rfl ?_
          refine gs_iload_n rfl rfl ?_
          refine gs_ne2 rfl (fun c4 => ?_) (fun c4 => ?_)
          · rw [if_neg c4] at e
            obtain ⟨x5, hx5, e⟩ := pn_some e
            refine gs_iinc1 (x1 := x5) (c := 1) (lv' := [(2, .int x5), (0, .int z0), (1, .int z1), (3, .int z3)]) rfl rfl (by decide) hx5 rfl ?_
            obtain ⟨x6, hx6, e⟩ := pn_some e
            refine gs_iinc1 (x1 := x6) (c := 1) (lv' := [(3, .int x6), (2, .int x5), (0, .int z0), (1, .int z1)]) rfl rfl (by decide) hx6 rfl ?_
            refine gs_goto rfl ?_
            refine gs_drop [2, 3, 1, 0] rfl ?_
            exact (ih z0 z1 x5 x6 f _ e).2 () rfl _ _ K
          · rw [if_pos c4] at e
            refine gs_iload_n rfl rfl ?_
            cases e
set_option maxRecDepth 100000 in
set_option maxHeartbeats 4000000 in
theorem th_X8_nthBit (L : Nat) (p1 : Int32) (p2 : Int32) (f : pd_M) (q : Int32) (e : fn_X8_nthBit p1 p2 f = some q) : pr_C L 1 99 [.int p1, .int p2] (hH f) (some (.int q)) (hH f) := by
  refine pr_C.of (G := mt_X8_nthBit) rfl rfl ?_
  show pr_G L 0 mt_X8_nthBit (0, [(0, .int p1), (1, .int p2)], [], hH f) _ _
  unfold fn_X8_nthBit at e
  refine gs_iconst (x := 0) rfl (by decide) ?_
  refine gs_istore_n (lv' := [(2, .int 0), (0, .int p1), (1, .int p2)]) rfl rfl ?_
  refine gs_iconst (x := 0) rfl (by decide) ?_
  refine gs_istore_n (lv' := [(3, .int 0), (2, .int 0), (0, .int p1), (1, .int p2)]) rfl rfl ?_
  refine gs_drop [2, 3, 1, 0] rfl ?_
  rcases os0_some e with ⟨q, el7, e⟩ | ⟨el7, e⟩
  · skip
    obtain rfl := inj1 e
    exact (tl_X8_nthBit_4 L 5000 p1 p2 0 0 f _ el7).1 _ rfl
  · refine (tl_X8_nthBit_4 L 5000 p1 p2 0 0 f _ el7).2 () rfl _ _ ?_
    refine gs_ldc (x := (-1000000)) rfl (by decide) ?_
    obtain rfl := inj1 e
    exact gs_iret rfl rfl rfl rfl rfl
def fn_X8_answer (p1 : Int32) (p2 : Int32) (p3 : Int32) (p4 : Int32) (p5 : Int32) (f : pd_M) : Option (Int32) :=
  ob1 (fn_X7_hasEdition p1 p2 f) fun r1 =>
  if r1 = 0 then
  some (-1000001)
  else
  if (fn_X8_isCase p3 p4) = 0 then
  some (-1000001)
  else
  if (fn_X8_isBelow p5 5) = 0 then
  some (-1000001)
  else
  ob1 (fn_X7_editionOf p1 p2) fun r6 =>
  if pa_in (fn_X8_caseOf p3 p4) 24 = true then
  pn ((f (r6 + 1) (fn_X8_caseOf p3 p4).toNatClampNeg)) fun x9 =>
  ob1 (if x9 = 268435456 then
  some (1)
  else
  some (0)) fun (v11 : Int32) =>
  if p5 = 4 then
  if v11 = 0 then
  some 0
  else
  some 1
  else
  if v11 = 0 then
  ob1 (fn_X8_nthBit (fn_X8_fieldOf x9 p5) 0 f) fun r14 =>
  some r14
  else
  some (-1000000)
  else none
set_option maxRecDepth 100000 in
set_option maxHeartbeats 4000000 in
theorem th_X8_answer (L : Nat) (p1 : Int32) (p2 : Int32) (p3 : Int32) (p4 : Int32) (p5 : Int32) (f : pd_M) (q : Int32) (e : fn_X8_answer p1 p2 p3 p4 p5 f = some q) : pr_C L 3 68 [.ref 17, .int p1, .int p2, .int p3, .int p4, .int p5] (hH f) (some (.int q)) (hH f) := by
  refine pr_C.of (G := mt_X8_answer) rfl rfl ?_
  show pr_G L 2 mt_X8_answer (0, [(0, .ref 17), (1, .int p1), (2, .int p2), (3, .int p3), (4, .int p4), (5, .int p5)], [], hH f) _ _
  unfold fn_X8_answer at e
  refine gs_aload_n rfl rfl ?_
  refine gs_get rfl (gd_r (b := 39) rfl rfl rfl) ?_
  refine gs_iload_n rfl rfl ?_
  refine gs_iload_n rfl rfl ?_
  obtain ⟨r1, ec2, e⟩ := ob1_some e
  refine gs_callvI (st := []) rfl (pr_C_le (by decide) (th_X7_hasEdition L p1 p2 f r1 ec2)) rfl rfl rfl (by decide) rfl (Or.inr (by decide)) ?_
  refine gs_eq0 rfl (fun c3 => ?_) (fun c3 => ?_)
  · rw [if_pos c3] at e
    refine gs_ldc (x := (-1000001)) rfl (by decide) ?_
    obtain rfl := inj1 e
    exact gs_iret rfl rfl rfl rfl rfl
  · rw [if_neg c3] at e
    refine gs_iload_n rfl rfl ?_
    refine gs_iload rfl rfl ?_
    refine gs_callsI (st := []) rfl (pr_C_le (by decide) (th_X8_isCase L p3 p4 f _ rfl)) rfl rfl rfl (by decide) ?_
    refine gs_eq0 rfl (fun c4 => ?_) (fun c4 => ?_)
    · rw [if_pos c4] at e
      refine gs_ldc (x := (-1000001)) rfl (by decide) ?_
      obtain rfl := inj1 e
      exact gs_iret rfl rfl rfl rfl rfl
    · rw [if_neg c4] at e
      refine gs_iload rfl rfl ?_
      refine gs_iconst (x := 5) rfl (by decide) ?_
      refine gs_callsI (st := []) rfl (pr_C_le (by decide) (th_X8_isBelow L p5 5 f _ rfl)) rfl rfl rfl (by decide) ?_
      refine gs_ne0 rfl (fun c5 => ?_) (fun c5 => ?_)
      · rw [if_neg c5] at e
        refine gs_aload_n rfl rfl ?_
        refine gs_get rfl (gd_r (b := 39) rfl rfl rfl) ?_
        refine gs_iload_n rfl rfl ?_
        refine gs_iload_n rfl rfl ?_
        obtain ⟨r6, ec7, e⟩ := ob1_some e
        refine gs_callvR (st := []) rfl (pr_C_le (by decide) (th_X7_editionOf L p1 p2 f r6 ec7)) rfl rfl rfl (by decide) rfl (Or.inr (by decide)) ?_
        refine gs_get rfl (gd_r (b := (r6 + 1)) (sh_of (fnk_X7_editionOf ec7) (by decide)) rfl (ref_10_0 (fnk_X7_editionOf ec7))) ?_
        refine gs_iload_n rfl rfl ?_
        refine gs_iload rfl rfl ?_
        refine gs_callsI (st := [.ref (r6 + 1)]) rfl (pr_C_le (by decide) (th_X8_caseOf L p3 p4 f _ rfl)) rfl rfl rfl (by decide) ?_
        by_cases hb8 : pa_in (fn_X8_caseOf p3 p4) 24 = true
        case neg => rw [if_neg hb8] at e; cases e
        rw [if_pos hb8] at e
        refine gs_iald rfl (gd_ia (j := (fn_X8_caseOf p3 p4).toNatClampNeg) (sh_of (fam_10_0 (fnk_X7_editionOf ec7)) (by decide)) hb8 rfl) ?_
        obtain ⟨x9, hx9, e⟩ := pn_some e
        refine gs_topi hx9 ?_
        refine gs_istore (lv' := [(6, .int x9), (0, .ref 17), (1, .int p1), (2, .int p2), (3, .int p3), (4, .int p4), (5, .int p5)]) rfl rfl ?_
        refine gs_iload rfl rfl ?_
        refine gs_ldc (x := 268435456) rfl (by decide) ?_
        obtain ⟨v11, ev66, e⟩ := ob1_some e
        have KJ66 : pr_G L 2 mt_X8_answer (66, [(5, .int p5), (6, .int x9)], [.int v11], hH f) (some (.int q)) (hH f) := by
          refine gs_istore (lv' := [(7, .int v11), (5, .int p5), (6, .int x9)]) rfl rfl ?_
          refine gs_iload rfl rfl ?_
          refine gs_iconst (x := 4) rfl (by decide) ?_
          refine gs_ne2 rfl (fun c12 => ?_) (fun c12 => ?_)
          · rw [if_neg c12] at e
            refine gs_iload rfl rfl ?_
            refine gs_eq0 rfl (fun c13 => ?_) (fun c13 => ?_)
            · rw [if_pos c13] at e
              refine gs_iload rfl rfl ?_
              refine gs_iload rfl rfl ?_
              refine gs_callsI (st := []) rfl (pr_C_le (by decide) (th_X8_fieldOf L x9 p5 f _ rfl)) rfl rfl rfl (by decide) ?_
              refine gs_iconst (x := 0) rfl (by decide) ?_
              obtain ⟨r14, ec15, e⟩ := ob1_some e
              refine gs_callsI (st := []) rfl (pr_C_le (by decide) (th_X8_nthBit L (fn_X8_fieldOf x9 p5) 0 f r14 ec15)) rfl rfl rfl (by decide) ?_
              obtain rfl := inj1 e
              exact gs_iret rfl rfl rfl rfl rfl
            · rw [if_neg c13] at e
              refine gs_ldc (x := (-1000000)) rfl (by decide) ?_
              refine gs_goto rfl ?_
              obtain rfl := inj1 e
              exact gs_iret rfl rfl rfl rfl rfl
          · rw [if_pos c12] at e
            refine gs_iload rfl rfl ?_
            refine gs_eq0 rfl (fun c16 => ?_) (fun c16 => ?_)
            · rw [if_pos c16] at e
              refine gs_iconst (x := 0) rfl (by decide) ?_
              obtain rfl := inj1 e
              exact gs_iret rfl rfl rfl rfl rfl
            · rw [if_neg c16] at e
              refine gs_iconst (x := 1) rfl (by decide) ?_
              refine gs_goto rfl ?_
              obtain rfl := inj1 e
              exact gs_iret rfl rfl rfl rfl rfl
        have e := ev66
        clear ev66
        refine gs_ne2 rfl (fun c10 => ?_) (fun c10 => ?_)
        · rw [if_neg c10] at e
          refine gs_iconst (x := 0) rfl (by decide) ?_
          obtain rfl := inj1 e
          refine gs_drop [6, 0] rfl ?_
          exact KJ66
        · rw [if_pos c10] at e
          refine gs_iconst (x := 1) rfl (by decide) ?_
          refine gs_goto rfl ?_
          obtain rfl := inj1 e
          refine gs_drop [6, 0] rfl ?_
          exact KJ66
      · rw [if_pos c5] at e
        refine gs_ldc (x := (-1000001)) rfl (by decide) ?_
        obtain rfl := inj1 e
        exact gs_iret rfl rfl rfl rfl rfl
def fn_X8_saying (p1 : Int32) (p2 : Int32) (f : pd_M) : Option (Int32) :=
  ob1 (fn_X7_hasSaying p1 f) fun r1 =>
  if r1 = 0 then
  some (-1000001)
  else
  if pa_in p1 20 = true then
  if p2 = 0 then
  some (f (48 + p1.toNatClampNeg) 0)
  else
  if p2 = 1 then
  some (f (48 + p1.toNatClampNeg) 1)
  else
  if p2 = 2 then
  some (f (48 + p1.toNatClampNeg) 2)
  else
  if p2 = 3 then
  some (f (48 + p1.toNatClampNeg) 3)
  else
  if p2 = 4 then
  some (f (48 + p1.toNatClampNeg) 4)
  else
  if p2 = 5 then
  some (f (48 + p1.toNatClampNeg) 5)
  else
  if p2 = 6 then
  if (f (48 + p1.toNatClampNeg) 8) = 268435456 then
  some 1
  else
  some 0
  else
  if p2 = 7 then
  some (f (48 + p1.toNatClampNeg) 6)
  else
  some (-1000001)
  else none
set_option maxRecDepth 100000 in
set_option maxHeartbeats 4000000 in
theorem th_X8_saying (L : Nat) (p1 : Int32) (p2 : Int32) (f : pd_M) (q : Int32) (e : fn_X8_saying p1 p2 f = some q) : pr_C L 3 69 [.ref 17, .int p1, .int p2] (hH f) (some (.int q)) (hH f) := by
  refine pr_C.of (G := mt_X8_saying) rfl rfl ?_
  show pr_G L 2 mt_X8_saying (0, [(0, .ref 17), (1, .int p1), (2, .int p2)], [], hH f) _ _
  unfold fn_X8_saying at e
  refine gs_aload_n rfl rfl ?_
  refine gs_get rfl (gd_r (b := 39) rfl rfl rfl) ?_
  refine gs_iload_n rfl rfl ?_
  obtain ⟨r1, ec2, e⟩ := ob1_some e
  refine gs_callvI (st := []) rfl (pr_C_le (by decide) (th_X7_hasSaying L p1 f r1 ec2)) rfl rfl rfl (by decide) rfl (Or.inr (by decide)) ?_
  refine gs_ne0 rfl (fun c3 => ?_) (fun c3 => ?_)
  · rw [if_neg c3] at e
    refine gs_aload_n rfl rfl ?_
    refine gs_get rfl (gd_r (b := 39) rfl rfl rfl) ?_
    refine gs_get rfl (gd_r (b := 45) rfl rfl rfl) ?_
    refine gs_iload_n rfl rfl ?_
    by_cases hb4 : pa_in p1 20 = true
    case neg => rw [if_neg hb4] at e; cases e
    rw [if_pos hb4] at e
    refine gs_aald rfl (gd_aa (b := (48 + p1.toNatClampNeg)) rfl (by decide) rfl hb4 rfl (arr_rf_45 (lt_of_in hb4))) ?_
    refine gs_astore_n (lv' := [(3, .ref (48 + p1.toNatClampNeg)), (0, .ref 17), (1, .int p1), (2, .int p2)]) rfl rfl ?_
    refine gs_iload_n rfl rfl ?_
    by_cases c5 : p2 = 0
    · rw [if_pos c5] at e
      refine gs_switch (t := 72) rfl (by rw [c5]; decide) ?_
      refine gs_aload_n rfl rfl ?_
      refine gs_get rfl (gd_i (sh_of (arr_sh_45 (lt_of_in hb4)) (by decide)) rfl) ?_
      obtain rfl := inj1 e
      exact gs_iret rfl rfl rfl rfl rfl
    · rw [if_neg c5] at e
      by_cases c6 : p2 = 1
      · rw [if_pos c6] at e
        refine gs_switch (t := 77) rfl (by rw [c6]; decide) ?_
        refine gs_aload_n rfl rfl ?_
        refine gs_get rfl (gd_i (sh_of (arr_sh_45 (lt_of_in hb4)) (by decide)) rfl) ?_
        obtain rfl := inj1 e
        exact gs_iret rfl rfl rfl rfl rfl
      · rw [if_neg c6] at e
        by_cases c7 : p2 = 2
        · rw [if_pos c7] at e
          refine gs_switch (t := 82) rfl (by rw [c7]; decide) ?_
          refine gs_aload_n rfl rfl ?_
          refine gs_get rfl (gd_i (sh_of (arr_sh_45 (lt_of_in hb4)) (by decide)) rfl) ?_
          obtain rfl := inj1 e
          exact gs_iret rfl rfl rfl rfl rfl
        · rw [if_neg c7] at e
          by_cases c8 : p2 = 3
          · rw [if_pos c8] at e
            refine gs_switch (t := 87) rfl (by rw [c8]; decide) ?_
            refine gs_aload_n rfl rfl ?_
            refine gs_get rfl (gd_i (sh_of (arr_sh_45 (lt_of_in hb4)) (by decide)) rfl) ?_
            obtain rfl := inj1 e
            exact gs_iret rfl rfl rfl rfl rfl
          · rw [if_neg c8] at e
            by_cases c9 : p2 = 4
            · rw [if_pos c9] at e
              refine gs_switch (t := 92) rfl (by rw [c9]; decide) ?_
              refine gs_aload_n rfl rfl ?_
              refine gs_get rfl (gd_i (sh_of (arr_sh_45 (lt_of_in hb4)) (by decide)) rfl) ?_
              obtain rfl := inj1 e
              exact gs_iret rfl rfl rfl rfl rfl
            · rw [if_neg c9] at e
              by_cases c10 : p2 = 5
              · rw [if_pos c10] at e
                refine gs_switch (t := 97) rfl (by rw [c10]; decide) ?_
                refine gs_aload_n rfl rfl ?_
                refine gs_get rfl (gd_i (sh_of (arr_sh_45 (lt_of_in hb4)) (by decide)) rfl) ?_
                obtain rfl := inj1 e
                exact gs_iret rfl rfl rfl rfl rfl
              · rw [if_neg c10] at e
                by_cases c11 : p2 = 6
                · rw [if_pos c11] at e
                  refine gs_switch (t := 102) rfl (by rw [c11]; decide) ?_
                  refine gs_aload_n rfl rfl ?_
                  refine gs_get rfl (gd_i (sh_of (arr_sh_45 (lt_of_in hb4)) (by decide)) rfl) ?_
                  refine gs_ldc (x := 268435456) rfl (by decide) ?_
                  refine gs_ne2 rfl (fun c12 => ?_) (fun c12 => ?_)
                  · rw [if_neg c12] at e
                    refine gs_iconst (x := 0) rfl (by decide) ?_
                    obtain rfl := inj1 e
                    exact gs_iret rfl rfl rfl rfl rfl
                  · rw [if_pos c12] at e
                    refine gs_iconst (x := 1) rfl (by decide) ?_
                    refine gs_goto rfl ?_
                    obtain rfl := inj1 e
                    exact gs_iret rfl rfl rfl rfl rfl
                · rw [if_neg c11] at e
                  by_cases c13 : p2 = 7
                  · rw [if_pos c13] at e
                    refine gs_switch (t := 117) rfl (by rw [c13]; decide) ?_
                    refine gs_aload_n rfl rfl ?_
                    refine gs_get rfl (gd_i (sh_of (arr_sh_45 (lt_of_in hb4)) (by decide)) rfl) ?_
                    obtain rfl := inj1 e
                    exact gs_iret rfl rfl rfl rfl rfl
                  · rw [if_neg c13] at e
                    refine gs_switch (t := 122) rfl (sw_out (lo := 0) (hi := 7) (by decide) (fun k hk => by
                      rcases (by omega : k = 0 ∨ k = 1 ∨ k = 2 ∨ k = 3 ∨ k = 4 ∨ k = 5 ∨ k = 6 ∨ k = 7) with rfl | rfl | rfl | rfl | rfl | rfl | rfl | rfl
                      · exact fun z => c5 (z.trans (by decide))
                      · exact fun z => c6 (z.trans (by decide))
                      · exact fun z => c7 (z.trans (by decide))
                      · exact fun z => c8 (z.trans (by decide))
                      · exact fun z => c9 (z.trans (by decide))
                      · exact fun z => c10 (z.trans (by decide))
                      · exact fun z => c11 (z.trans (by decide))
                      · exact fun z => c13 (z.trans (by decide))) (by decide)) ?_
                    refine gs_ldc (x := (-1000001)) rfl (by decide) ?_
                    obtain rfl := inj1 e
                    exact gs_iret rfl rfl rfl rfl rfl
  · rw [if_pos c3] at e
    refine gs_ldc (x := (-1000001)) rfl (by decide) ?_
    obtain rfl := inj1 e
    exact gs_iret rfl rfl rfl rfl rfl
def lp_X8_wrongField_15 : Nat → Int32 → Int32 → Int32 → pd_M → Option ((Int32) ⊕ (Unit))
  | 0, _, _, _, _ => none
  | n + 1, z0, z1, z2, f =>
    if 4 ≤ z2 then
    some (.inr ())
    else
    if (fn_X8_fieldOf (z0 &&& (z1 ^^^ (-1))) z2) = 0 then
    pn (z2 + 1) fun x4 =>
    lp_X8_wrongField_15 n z0 z1 x4 f
    else
    some (.inl z2)
def fn_X8_wrongField (p1 : Int32) (p2 : Int32) (f : pd_M) : Option (Int32) :=
  if (p1 &&& 268435456) = (p2 &&& 268435456) then
  os0 (lp_X8_wrongField_15 5000 p1 p2 0 f) (fun q => some q) (
  some 4)
  else
  some 4
set_option maxRecDepth 100000 in
set_option maxHeartbeats 4000000 in
theorem tl_X8_wrongField_15 (L : Nat) : ∀ (n : Nat) (z0 : Int32) (z1 : Int32) (z2 : Int32) (f : pd_M) (o : (Int32) ⊕ (Unit)), lp_X8_wrongField_15 n z0 z1 z2 f = some o → (∀ q, o = .inl q → pr_G L 1 mt_X8_wrongField (15, [(0, .int z0), (1, .int z1), (2, .int z2)], [], hH f) (some (.int q)) (hH f)) ∧ (∀ (_ : Unit), o = .inr () → ∀ (r : Option Value) (h2 : ph_T), pr_G L 1 mt_X8_wrongField (40, [], [], hH f) r h2 → pr_G L 1 mt_X8_wrongField (15, [(0, .int z0), (1, .int z1), (2, .int z2)], [], hH f) r h2) := by
  intro n
  induction n with
  | zero => intro z0 z1 z2 f o e; cases e
  | succ n ih =>
    intro z0 z1 z2 f o e
    refine ⟨fun q hq => ?_, fun _ hq r h2 K => ?_⟩
    · subst hq
      unfold lp_X8_wrongField_15 at e
      refine gs_iload_n rfl rfl ?_
      refine gs_iconst (x := 4) rfl (by decide) ?_
      refine gs_ge2 rfl (fun c2 => ?_) (fun c2 => ?_)
      · rw [if_pos c2] at e
        cases e
      · rw [if_neg c2] at e
        refine gs_iload_n rfl rfl ?_
        refine gs_iload_n rfl rfl ?_
        refine gs_iconst (x := (-1)) rfl (by decide) ?_
        refine gs_ixor rfl ?_
        refine gs_iand rfl ?_
        refine gs_iload_n rfl rfl ?_
        refine gs_callsI (st := []) rfl (pr_C_le (by decide) (th_X8_fieldOf L (z0 &&& (z1 ^^^ (-1))) z2 f _ rfl)) rfl rfl rfl (by decide) ?_
        refine gs_eq0 rfl (fun c3 => ?_) (fun c3 => ?_)
        · rw [if_pos c3] at e
          obtain ⟨x4, hx4, e⟩ := pn_some e
          refine gs_iinc1 (x1 := x4) (c := 1) (lv' := [(2, .int x4), (0, .int z0), (1, .int z1)]) rfl rfl (by decide) hx4 rfl ?_
          refine gs_goto rfl ?_
          refine gs_drop [1, 2, 0] rfl ?_
          exact (ih z0 z1 x4 f _ e).1 _ rfl
        · rw [if_neg c3] at e
          refine gs_iload_n rfl rfl ?_
          obtain rfl := injl e
          exact gs_iret rfl rfl rfl rfl rfl
    · subst hq
      unfold lp_X8_wrongField_15 at e
      refine gs_iload_n rfl rfl ?_
      refine gs_iconst (x := 4) rfl (by decide) ?_
      refine gs_ge2 rfl (fun c2 => ?_) (fun c2 => ?_)
      · rw [if_pos c2] at e
        refine gs_drop [] rfl ?_
        exact K
      · rw [if_neg c2] at e
        refine gs_iload_n rfl rfl ?_
        refine gs_iload_n rfl rfl ?_
        refine gs_iconst (x := (-1)) rfl (by decide) ?_
        refine gs_ixor rfl ?_
        refine gs_iand rfl ?_
        refine gs_iload_n rfl rfl ?_
        refine gs_callsI (st := []) rfl (pr_C_le (by decide) (th_X8_fieldOf L (z0 &&& (z1 ^^^ (-1))) z2 f _ rfl)) rfl rfl rfl (by decide) ?_
        refine gs_eq0 rfl (fun c3 => ?_) (fun c3 => ?_)
        · rw [if_pos c3] at e
          obtain ⟨x4, hx4, e⟩ := pn_some e
          refine gs_iinc1 (x1 := x4) (c := 1) (lv' := [(2, .int x4), (0, .int z0), (1, .int z1)]) rfl rfl (by decide) hx4 rfl ?_
          refine gs_goto rfl ?_
          refine gs_drop [1, 2, 0] rfl ?_
          exact (ih z0 z1 x4 f _ e).2 () rfl _ _ K
        · rw [if_neg c3] at e
          refine gs_iload_n rfl rfl ?_
          cases e
set_option maxRecDepth 100000 in
set_option maxHeartbeats 4000000 in
theorem th_X8_wrongField (L : Nat) (p1 : Int32) (p2 : Int32) (f : pd_M) (q : Int32) (e : fn_X8_wrongField p1 p2 f = some q) : pr_C L 2 102 [.int p1, .int p2] (hH f) (some (.int q)) (hH f) := by
  refine pr_C.of (G := mt_X8_wrongField) rfl rfl ?_
  show pr_G L 1 mt_X8_wrongField (0, [(0, .int p1), (1, .int p2)], [], hH f) _ _
  unfold fn_X8_wrongField at e
  refine gs_iload_n rfl rfl ?_
  refine gs_ldc (x := 268435456) rfl (by decide) ?_
  refine gs_iand rfl ?_
  refine gs_iload_n rfl rfl ?_
  refine gs_ldc (x := 268435456) rfl (by decide) ?_
  refine gs_iand rfl ?_
  refine gs_eq2 rfl (fun c1 => ?_) (fun c1 => ?_)
  · rw [if_pos c1] at e
    refine gs_iconst (x := 0) rfl (by decide) ?_
    refine gs_istore_n (lv' := [(2, .int 0), (0, .int p1), (1, .int p2)]) rfl rfl ?_
    refine gs_drop [1, 2, 0] rfl ?_
    rcases os0_some e with ⟨q, el5, e⟩ | ⟨el5, e⟩
    · skip
      obtain rfl := inj1 e
      exact (tl_X8_wrongField_15 L 5000 p1 p2 0 f _ el5).1 _ rfl
    · refine (tl_X8_wrongField_15 L 5000 p1 p2 0 f _ el5).2 () rfl _ _ ?_
      refine gs_iconst (x := 4) rfl (by decide) ?_
      obtain rfl := inj1 e
      exact gs_iret rfl rfl rfl rfl rfl
  · rw [if_neg c1] at e
    refine gs_iconst (x := 4) rfl (by decide) ?_
    obtain rfl := inj1 e
    exact gs_iret rfl rfl rfl rfl rfl
def fn_X8_play (p1 : Int32) (p2 : Int32) (p3 : Int32) (f : pd_M) : Option (Int32) :=
  ob1 (fn_X7_hasSaying p1 f) fun r1 =>
  if r1 = 0 then
  some (-1000001)
  else
  if (fn_X8_isBelow p3 2) = 0 then
  some (-1000001)
  else
  if pa_in p1 20 = true then
  ob1 (fn_X7_hasEdition (f (48 + p1.toNatClampNeg) 2) p2 f) fun r6 =>
  if r6 = 0 then
  some (-1000001)
  else
  ob1 (fn_X7_editionOf (f (48 + p1.toNatClampNeg) 2) p2) fun r9 =>
  ob1 (fn_X8_firstBroken (48 + p1.toNatClampNeg) r9 f) fun r11 =>
  if p3 = 0 then
  if r11 = (-1000000) then
  some 1
  else
  some 0
  else
  if r11 = (-1000000) then
  some (-1000000)
  else
  if pa_in r11 24 = true then
  ob1 (fn_X8_wrongField (f (r9 + 1) r11.toNatClampNeg) (f (48 + p1.toNatClampNeg) 8) f) fun r16 =>
  some (((64 * (r11 / 3)) + (8 * (r11 - r11 / 3 * 3))) + r16)
  else none
  else none
set_option maxRecDepth 100000 in
set_option maxHeartbeats 4000000 in
theorem th_X8_play (L : Nat) (p1 : Int32) (p2 : Int32) (p3 : Int32) (f : pd_M) (q : Int32) (e : fn_X8_play p1 p2 p3 f = some q) : pr_C L 3 70 [.ref 17, .int p1, .int p2, .int p3] (hH f) (some (.int q)) (hH f) := by
  refine pr_C.of (G := mt_X8_play) rfl rfl ?_
  show pr_G L 2 mt_X8_play (0, [(0, .ref 17), (1, .int p1), (2, .int p2), (3, .int p3)], [], hH f) _ _
  unfold fn_X8_play at e
  refine gs_aload_n rfl rfl ?_
  refine gs_get rfl (gd_r (b := 39) rfl rfl rfl) ?_
  refine gs_iload_n rfl rfl ?_
  obtain ⟨r1, ec2, e⟩ := ob1_some e
  refine gs_callvI (st := []) rfl (pr_C_le (by decide) (th_X7_hasSaying L p1 f r1 ec2)) rfl rfl rfl (by decide) rfl (Or.inr (by decide)) ?_
  refine gs_eq0 rfl (fun c3 => ?_) (fun c3 => ?_)
  · rw [if_pos c3] at e
    refine gs_ldc (x := (-1000001)) rfl (by decide) ?_
    obtain rfl := inj1 e
    exact gs_iret rfl rfl rfl rfl rfl
  · rw [if_neg c3] at e
    refine gs_iload_n rfl rfl ?_
    refine gs_iconst (x := 2) rfl (by decide) ?_
    refine gs_callsI (st := []) rfl (pr_C_le (by decide) (th_X8_isBelow L p3 2 f _ rfl)) rfl rfl rfl (by decide) ?_
    refine gs_ne0 rfl (fun c4 => ?_) (fun c4 => ?_)
    · rw [if_neg c4] at e
      refine gs_aload_n rfl rfl ?_
      refine gs_get rfl (gd_r (b := 39) rfl rfl rfl) ?_
      refine gs_get rfl (gd_r (b := 45) rfl rfl rfl) ?_
      refine gs_iload_n rfl rfl ?_
      by_cases hb5 : pa_in p1 20 = true
      case neg => rw [if_neg hb5] at e; cases e
      rw [if_pos hb5] at e
      refine gs_aald rfl (gd_aa (b := (48 + p1.toNatClampNeg)) rfl (by decide) rfl hb5 rfl (arr_rf_45 (lt_of_in hb5))) ?_
      refine gs_astore (lv' := [(4, .ref (48 + p1.toNatClampNeg)), (0, .ref 17), (1, .int p1), (2, .int p2), (3, .int p3)]) rfl rfl ?_
      refine gs_aload_n rfl rfl ?_
      refine gs_get rfl (gd_r (b := 39) rfl rfl rfl) ?_
      refine gs_aload rfl rfl ?_
      refine gs_get rfl (gd_i (sh_of (arr_sh_45 (lt_of_in hb5)) (by decide)) rfl) ?_
      refine gs_iload_n rfl rfl ?_
      obtain ⟨r6, ec7, e⟩ := ob1_some e
      refine gs_callvI (st := []) rfl (pr_C_le (by decide) (th_X7_hasEdition L (f (48 + p1.toNatClampNeg) 2) p2 f r6 ec7)) rfl rfl rfl (by decide) rfl (Or.inr (by decide)) ?_
      refine gs_ne0 rfl (fun c8 => ?_) (fun c8 => ?_)
      · rw [if_neg c8] at e
        refine gs_aload_n rfl rfl ?_
        refine gs_get rfl (gd_r (b := 39) rfl rfl rfl) ?_
        refine gs_aload rfl rfl ?_
        refine gs_get rfl (gd_i (sh_of (arr_sh_45 (lt_of_in hb5)) (by decide)) rfl) ?_
        refine gs_iload_n rfl rfl ?_
        obtain ⟨r9, ec10, e⟩ := ob1_some e
        refine gs_callvR (st := []) rfl (pr_C_le (by decide) (th_X7_editionOf L (f (48 + p1.toNatClampNeg) 2) p2 f r9 ec10)) rfl rfl rfl (by decide) rfl (Or.inr (by decide)) ?_
        refine gs_astore (lv' := [(5, .ref r9), (4, .ref (48 + p1.toNatClampNeg)), (0, .ref 17), (1, .int p1), (2, .int p2), (3, .int p3)]) rfl rfl ?_
        refine gs_aload rfl rfl ?_
        refine gs_aload rfl rfl ?_
        obtain ⟨r11, ec12, e⟩ := ob1_some e
        refine gs_callsI (st := []) rfl (pr_C_le (by decide) (th_X8_firstBroken L (48 + p1.toNatClampNeg) r9 f r11 ec12)) rfl rfl rfl (by decide) ?_
        refine gs_istore (lv' := [(6, .int r11), (5, .ref r9), (4, .ref (48 + p1.toNatClampNeg)), (0, .ref 17), (1, .int p1), (2, .int p2), (3, .int p3)]) rfl rfl ?_
        refine gs_iload_n rfl rfl ?_
        refine gs_ne0 rfl (fun c13 => ?_) (fun c13 => ?_)
        · rw [if_neg c13] at e
          refine gs_iload rfl rfl ?_
          refine gs_ldc (x := (-1000000)) rfl (by decide) ?_
          refine gs_ne2 rfl (fun c14 => ?_) (fun c14 => ?_)
          · rw [if_neg c14] at e
            refine gs_bipush (x := 64) rfl (by decide) ?_
            refine gs_iload rfl rfl ?_
            refine gs_iconst (x := 3) rfl (by decide) ?_
            refine gs_idiv rfl (by decide) ?_
            refine gs_imul rfl ?_
            refine gs_bipush (x := 8) rfl (by decide) ?_
            refine gs_iload rfl rfl ?_
            refine gs_iconst (x := 3) rfl (by decide) ?_
            refine gs_irem rfl (by decide) ?_
            refine gs_imul rfl ?_
            refine gs_iadd rfl ?_
            refine gs_aload rfl rfl ?_
            refine gs_get rfl (gd_r (b := (r9 + 1)) (sh_of (fnk_X7_editionOf ec10) (by decide)) rfl (ref_10_0 (fnk_X7_editionOf ec10))) ?_
            refine gs_iload rfl rfl ?_
            by_cases hb15 : pa_in r11 24 = true
            case neg => rw [if_neg hb15] at e; cases e
            rw [if_pos hb15] at e
            refine gs_iald rfl (gd_ia (j := r11.toNatClampNeg) (sh_of (fam_10_0 (fnk_X7_editionOf ec10)) (by decide)) hb15 rfl) ?_
            refine gs_aload rfl rfl ?_
            refine gs_get rfl (gd_i (sh_of (arr_sh_45 (lt_of_in hb5)) (by decide)) rfl) ?_
            obtain ⟨r16, ec17, e⟩ := ob1_some e
            refine gs_callsI (st := [.int ((64 * (r11 / 3)) + (8 * (r11 - r11 / 3 * 3)))]) rfl (pr_C_le (by decide) (th_X8_wrongField L (f (r9 + 1) r11.toNatClampNeg) (f (48 + p1.toNatClampNeg) 8) f r16 ec17)) rfl rfl rfl (by decide) ?_
            refine gs_iadd rfl ?_
            obtain rfl := inj1 e
            exact gs_iret rfl rfl rfl rfl rfl
          · rw [if_pos c14] at e
            refine gs_ldc (x := (-1000000)) rfl (by decide) ?_
            obtain rfl := inj1 e
            exact gs_iret rfl rfl rfl rfl rfl
        · rw [if_pos c13] at e
          refine gs_iload rfl rfl ?_
          refine gs_ldc (x := (-1000000)) rfl (by decide) ?_
          refine gs_ne2 rfl (fun c18 => ?_) (fun c18 => ?_)
          · rw [if_neg c18] at e
            refine gs_iconst (x := 0) rfl (by decide) ?_
            obtain rfl := inj1 e
            exact gs_iret rfl rfl rfl rfl rfl
          · rw [if_pos c18] at e
            refine gs_iconst (x := 1) rfl (by decide) ?_
            refine gs_goto rfl ?_
            obtain rfl := inj1 e
            exact gs_iret rfl rfl rfl rfl rfl
      · rw [if_pos c8] at e
        refine gs_ldc (x := (-1000001)) rfl (by decide) ?_
        obtain rfl := inj1 e
        exact gs_iret rfl rfl rfl rfl rfl
    · rw [if_pos c4] at e
      refine gs_ldc (x := (-1000001)) rfl (by decide) ?_
      obtain rfl := inj1 e
      exact gs_iret rfl rfl rfl rfl rfl
