def fn_X3_fresh (p1 : Int32) (p2 : Int32) (f : pd_M) : Option (Int32 × pd_M) :=
  ob2 (fn_X3_look 0 p1 p2 f) fun r1 f2 =>
  if (f2 100 4) = 0 then
  pn ((pi_up f2 100 3 ((f2 100 3) + 1))) fun f5 =>
  some (r1, f5)
  else
  some (r1, f2)
set_option maxRecDepth 100000 in
set_option maxHeartbeats 4000000 in
theorem th_X3_fresh (L : Nat) (p1 : Int32) (p2 : Int32) (f : pd_M) (q : Int32) (g : pd_M) (e : fn_X3_fresh p1 p2 f = some (q, g)) : pr_C L 2 28 [.ref 100, .int p1, .int p2] (hH f) (some (.int q)) (hH g) := by
  refine pr_C.of (G := mt_X3_fresh) rfl rfl ?_
  show pr_G L 1 mt_X3_fresh (0, [(0, .ref 100), (1, .int p1), (2, .int p2)], [], hH f) _ _
  unfold fn_X3_fresh at e
  refine gs_aload_n rfl rfl ?_
  refine gs_iconst (x := 0) rfl (by decide) ?_
  refine gs_iload_n rfl rfl ?_
  refine gs_iload_n rfl rfl ?_
  obtain ⟨r1, f2, ec3, e⟩ := ob2_some e
  refine gs_callvI (st := []) rfl (pr_C_le (by decide) (th_X3_look L 0 p1 p2 f r1 f2 ec3)) rfl rfl rfl (by decide) rfl (Or.inr (by decide)) ?_
  refine gs_istore_n (lv' := [(3, .int r1), (0, .ref 100), (1, .int p1), (2, .int p2)]) rfl rfl ?_
  refine gs_aload_n rfl rfl ?_
  refine gs_get rfl (gd_i rfl rfl) ?_
  refine gs_ne0 rfl (fun c4 => ?_) (fun c4 => ?_)
  · rw [if_neg c4] at e
    refine gs_iload_n rfl rfl ?_
    obtain ⟨rfl, rfl⟩ := inj2 e
    exact gs_iret rfl rfl rfl rfl rfl
  · rw [if_pos c4] at e
    refine gs_aload_n rfl rfl ?_
    refine gs_dup rfl rfl ?_
    refine gs_get rfl (gd_i rfl rfl) ?_
    refine gs_iconst (x := 1) rfl (by decide) ?_
    refine gs_iadd rfl ?_
    refine gs_put rfl (gd_pi rfl rfl) ?_
    obtain ⟨f5, hf5, e⟩ := pn_some e
    refine gs_heap hf5 ?_
    refine gs_iload_n rfl rfl ?_
    obtain ⟨rfl, rfl⟩ := inj2 e
    exact gs_iret rfl rfl rfl rfl rfl
def fn_X3_isNumber (f : pd_M) : Option (Int32) :=
  if pa_in (f 100 3) 501 = true then
  if 99 < (f 37 (f 100 3).toNatClampNeg) then
  some 0
  else
  some 1
  else none
set_option maxRecDepth 100000 in
set_option maxHeartbeats 4000000 in
theorem th_X3_isNumber (L : Nat)  (f : pd_M) (q : Int32) (e : fn_X3_isNumber f = some q) : pr_C L 1 25 [.ref 100] (hH f) (some (.int q)) (hH f) := by
  refine pr_C.of (G := mt_X3_isNumber) rfl rfl ?_
  show pr_G L 0 mt_X3_isNumber (0, [(0, .ref 100)], [], hH f) _ _
  unfold fn_X3_isNumber at e
  refine gs_aload_n rfl rfl ?_
  refine gs_get rfl (gd_r (b := 35) rfl rfl rfl) ?_
  refine gs_get rfl (gd_r (b := 37) rfl rfl rfl) ?_
  refine gs_aload_n rfl rfl ?_
  refine gs_get rfl (gd_i rfl rfl) ?_
  by_cases hb1 : pa_in (f 100 3) 501 = true
  case neg => rw [if_neg hb1] at e; cases e
  rw [if_pos hb1] at e
  refine gs_bald rfl (gd_ba (j := (f 100 3).toNatClampNeg) rfl hb1 rfl) ?_
  refine gs_bipush (x := 99) rfl (by decide) ?_
  refine gs_gt2 rfl (fun c2 => ?_) (fun c2 => ?_)
  · rw [if_pos c2] at e
    refine gs_iconst (x := 0) rfl (by decide) ?_
    obtain rfl := inj1 e
    exact gs_iret rfl rfl (by decide) rfl rfl
  · rw [if_neg c2] at e
    refine gs_iconst (x := 1) rfl (by decide) ?_
    refine gs_goto rfl ?_
    obtain rfl := inj1 e
    exact gs_iret rfl rfl (by decide) rfl rfl
def lp_X3_readField_47 : Nat → Nat → Int32 → Int32 → Int32 → Int32 → pd_M → Option (Int32)
  | 0, _, _, _, _, _, _ => none
  | n + 1, z1, z2, z4, z5, z6, f =>
    if sk z1 = (14, 9) then
    if z4 < z6 then
    some (z5)
    else
    pn ((z5 ||| ((1 : Int32) <<< (z6 &&& 31)))) fun x16 =>
    pn (z6 + 1) fun x17 =>
    lp_X3_readField_47 n z1 z2 z4 x16 x17 f
    else none
def fn_X3_readField (p1 : Nat) (f : pd_M) : Option (pd_M) :=
  if sk p1 = (14, 9) then
  ob2 (fn_X3_fresh 3 (f p1 6) f) fun r1 f2 =>
  ob2 (fn_X3_number 0 5 f2) fun r4 f5 =>
  ob2 (fn_X3_number r4 5 f5) fun r7 f8 =>
  ob2 (fn_X3_number 0 1 f8) fun r10 f11 =>
  pn ((r10 <<< (6 &&& 31))) fun x13 =>
  if (f11 100 4) = 0 then
  ob1 (lp_X3_readField_47 5000 p1 r1 r7 x13 r4 f11) fun y18 =>
  pn ((pi_up f11 p1 6 ((f11 p1 6) ||| ((1 : Int32) <<< (r1 &&& 31))))) fun f20 =>
  pn ((pi_up f20 p1 8 ((f20 p1 8) &&& ((((127 : Int32) <<< ((7 * r1) &&& 31)) ^^^ (-1)) ||| (y18 <<< ((7 * r1) &&& 31)))))) fun f21 =>
  some f21
  else
  some f11
  else none
set_option maxRecDepth 100000 in
set_option maxHeartbeats 4000000 in
theorem tl_X3_readField_47 (L : Nat) : ∀ (n : Nat) (z1 : Nat) (z2 : Int32) (z4 : Int32) (z5 : Int32) (z6 : Int32) (f : pd_M) (w0 : Int32) (r : Option Value) (h2 : ph_T), lp_X3_readField_47 n z1 z2 z4 z5 z6 f = some (w0) → pr_G L 2 mt_X3_readField (69, [(1, .ref z1), (2, .int z2), (5, .int w0)], [], hH f) r h2 → pr_G L 2 mt_X3_readField (47, [(1, .ref z1), (2, .int z2), (4, .int z4), (5, .int z5), (6, .int z6)], [], hH f) r h2 := by
  intro n
  induction n with
  | zero => intro z1 z2 z4 z5 z6 f w0 r h2 e; cases e
  | succ n ih =>
    intro z1 z2 z4 z5 z6 f w0 r h2 e K
    unfold lp_X3_readField_47 at e
    by_cases hk1 : sk z1 = (14, 9)
    case neg => rw [if_neg hk1] at e; cases e
    rw [if_pos hk1] at e
    refine gs_iload rfl rfl ?_
    refine gs_iload rfl rfl ?_
    refine gs_gt2 rfl (fun c15 => ?_) (fun c15 => ?_)
    · rw [if_pos c15] at e
      obtain rfl := inj1 e
      refine gs_drop [0, 1, 3] rfl ?_
      exact K
    · rw [if_neg c15] at e
      refine gs_iload rfl rfl ?_
      refine gs_iconst (x := 1) rfl (by decide) ?_
      refine gs_iload rfl rfl ?_
      refine gs_ishl rfl ?_
      refine gs_ior rfl ?_
      obtain ⟨x16, hx16, e⟩ := pn_some e
      refine gs_topi hx16 ?_
      refine gs_istore (lv' := [(5, .int x16), (1, .ref z1), (2, .int z2), (4, .int z4), (6, .int z6)]) rfl rfl ?_
      obtain ⟨x17, hx17, e⟩ := pn_some e
      refine gs_iinc1 (x1 := x17) (c := 1) (lv' := [(6, .int x17), (5, .int x16), (1, .ref z1), (2, .int z2), (4, .int z4)]) rfl rfl (by decide) hx17 rfl ?_
      refine gs_goto rfl ?_
      refine gs_drop [2, 3, 4, 1, 0] rfl ?_
      exact ih z1 z2 z4 x16 x17 f w0 _ _ e K
set_option maxRecDepth 100000 in
set_option maxHeartbeats 4000000 in
theorem th_X3_readField (L : Nat) (p1 : Nat) (f : pd_M) (g : pd_M) (e : fn_X3_readField p1 f = some g) : pr_C L 3 22 [.ref 100, .ref p1] (hH f) none (hH g) := by
  refine pr_C.of (G := mt_X3_readField) rfl rfl ?_
  show pr_G L 2 mt_X3_readField (0, [(0, .ref 100), (1, .ref p1)], [], hH f) _ _
  unfold fn_X3_readField at e
  by_cases hk1 : sk p1 = (14, 9)
  case neg => rw [if_neg hk1] at e; cases e
  rw [if_pos hk1] at e
  refine gs_aload_n rfl rfl ?_
  refine gs_iconst (x := 3) rfl (by decide) ?_
  refine gs_aload_n rfl rfl ?_
  refine gs_get rfl (gd_i (sh_of hk1 (by decide)) rfl) ?_
  obtain ⟨r1, f2, ec3, e⟩ := ob2_some e
  refine gs_callvI (st := []) rfl (pr_C_le (by decide) (th_X3_fresh L 3 (f p1 6) f r1 f2 ec3)) rfl rfl rfl (by decide) rfl (Or.inr (by decide)) ?_
  refine gs_istore_n (lv' := [(2, .int r1), (0, .ref 100), (1, .ref p1)]) rfl rfl ?_
  refine gs_aload_n rfl rfl ?_
  refine gs_iconst (x := 0) rfl (by decide) ?_
  refine gs_iconst (x := 5) rfl (by decide) ?_
  obtain ⟨r4, f5, ec6, e⟩ := ob2_some e
  refine gs_callvI (st := []) rfl (pr_C_le (by decide) (th_X3_number L 0 5 f2 r4 f5 ec6)) rfl rfl rfl (by decide) rfl (Or.inr (by decide)) ?_
  refine gs_istore_n (lv' := [(3, .int r4), (2, .int r1), (0, .ref 100), (1, .ref p1)]) rfl rfl ?_
  refine gs_aload_n rfl rfl ?_
  refine gs_iload_n rfl rfl ?_
  refine gs_iconst (x := 5) rfl (by decide) ?_
  obtain ⟨r7, f8, ec9, e⟩ := ob2_some e
  refine gs_callvI (st := []) rfl (pr_C_le (by decide) (th_X3_number L r4 5 f5 r7 f8 ec9)) rfl rfl rfl (by decide) rfl (Or.inr (by decide)) ?_
  refine gs_istore (lv' := [(4, .int r7), (3, .int r4), (2, .int r1), (0, .ref 100), (1, .ref p1)]) rfl rfl ?_
  refine gs_aload_n rfl rfl ?_
  refine gs_iconst (x := 0) rfl (by decide) ?_
  refine gs_iconst (x := 1) rfl (by decide) ?_
  obtain ⟨r10, f11, ec12, e⟩ := ob2_some e
  refine gs_callvI (st := []) rfl (pr_C_le (by decide) (th_X3_number L 0 1 f8 r10 f11 ec12)) rfl rfl rfl (by decide) rfl (Or.inr (by decide)) ?_
  refine gs_bipush (x := 6) rfl (by decide) ?_
  refine gs_ishl rfl ?_
  obtain ⟨x13, hx13, e⟩ := pn_some e
  refine gs_topi hx13 ?_
  refine gs_istore (lv' := [(5, .int x13), (4, .int r7), (3, .int r4), (2, .int r1), (0, .ref 100), (1, .ref p1)]) rfl rfl ?_
  refine gs_aload_n rfl rfl ?_
  refine gs_get rfl (gd_i rfl rfl) ?_
  refine gs_eq0 rfl (fun c14 => ?_) (fun c14 => ?_)
  · rw [if_pos c14] at e
    refine gs_iload_n rfl rfl ?_
    refine gs_istore (lv' := [(6, .int r4), (5, .int x13), (4, .int r7), (3, .int r4), (2, .int r1), (0, .ref 100), (1, .ref p1)]) rfl rfl ?_
    refine gs_drop [6, 4, 2, 1, 0] rfl ?_
    obtain ⟨y18, el19, e⟩ := ob1_some e
    refine tl_X3_readField_47 L 5000 p1 r1 r7 x13 r4 f11 y18 _ _ el19 ?_
    refine gs_aload_n rfl rfl ?_
    refine gs_dup rfl rfl ?_
    refine gs_get rfl (gd_i (sh_of hk1 (by decide)) rfl) ?_
    refine gs_iconst (x := 1) rfl (by decide) ?_
    refine gs_iload_n rfl rfl ?_
    refine gs_ishl rfl ?_
    refine gs_ior rfl ?_
    refine gs_put rfl (gd_pi (sh_of hk1 (by decide)) rfl) ?_
    obtain ⟨f20, hf20, e⟩ := pn_some e
    refine gs_heap hf20 ?_
    refine gs_aload_n rfl rfl ?_
    refine gs_dup rfl rfl ?_
    refine gs_get rfl (gd_i (sh_of hk1 (by decide)) rfl) ?_
    refine gs_bipush (x := 127) rfl (by decide) ?_
    refine gs_bipush (x := 7) rfl (by decide) ?_
    refine gs_iload_n rfl rfl ?_
    refine gs_imul rfl ?_
    refine gs_ishl rfl ?_
    refine gs_iconst (x := (-1)) rfl (by decide) ?_
    refine gs_ixor rfl ?_
    refine gs_iload rfl rfl ?_
    refine gs_bipush (x := 7) rfl (by decide) ?_
    refine gs_iload_n rfl rfl ?_
    refine gs_imul rfl ?_
    refine gs_ishl rfl ?_
    refine gs_ior rfl ?_
    refine gs_iand rfl ?_
    refine gs_put rfl (gd_pi (sh_of hk1 (by decide)) rfl) ?_
    obtain ⟨f21, hf21, e⟩ := pn_some e
    refine gs_heap hf21 ?_
    obtain rfl := inj1 e
    exact gs_vret rfl rfl rfl rfl
  · rw [if_neg c14] at e
    obtain rfl := inj1 e
    exact gs_vret rfl rfl rfl rfl
def lp_X3_readThen_27 : Nat → Nat → Int32 → pd_M → Option (pd_M)
  | 0, _, _, _ => none
  | n + 1, z1, z2, f =>
    if sk z1 = (14, 9) then
    if 4 < z2 then
    some (f)
    else
    if (f 100 4) = 0 then
    ob1 (fn_X3_isNumber f) fun r10 =>
    if r10 = 0 then
    some (f)
    else
    ob1 (fn_X3_readField z1 f) fun f13 =>
    pn (z2 + 1) fun x15 =>
    lp_X3_readThen_27 n z1 x15 f13
    else
    some (f)
    else none
def fn_X3_readThen (p1 : Nat) (f : pd_M) : Option (pd_M) :=
  if sk p1 = (14, 9) then
  pn ((pi_up f p1 6 0)) fun f1 =>
  pn ((pi_up f1 p1 8 268435456)) fun f2 =>
  ob2 (fn_X3_takesRefuse f2) fun r3 f4 =>
  if r3 = 0 then
  pn ((pi_up f4 p1 8 268435455)) fun f7 =>
  ob1 (lp_X3_readThen_27 5000 p1 0 f7) fun f16 =>
  some f16
  else
  some f4
  else none
set_option maxRecDepth 100000 in
set_option maxHeartbeats 4000000 in
theorem tl_X3_readThen_27 (L : Nat) : ∀ (n : Nat) (z1 : Nat) (z2 : Int32) (f : pd_M) (w0 : pd_M) (r : Option Value) (h2 : ph_T), lp_X3_readThen_27 n z1 z2 f = some (w0) → pr_G L 3 mt_X3_readThen (57, [], [], hH w0) r h2 → pr_G L 3 mt_X3_readThen (27, [(0, .ref 100), (1, .ref z1), (2, .int z2)], [], hH f) r h2 := by
  intro n
  induction n with
  | zero => intro z1 z2 f w0 r h2 e; cases e
  | succ n ih =>
    intro z1 z2 f w0 r h2 e K
    unfold lp_X3_readThen_27 at e
    by_cases hk1 : sk z1 = (14, 9)
    case neg => rw [if_neg hk1] at e; cases e
    rw [if_pos hk1] at e
    refine gs_iload_n rfl rfl ?_
    refine gs_iconst (x := 4) rfl (by decide) ?_
    refine gs_gt2 rfl (fun c8 => ?_) (fun c8 => ?_)
    · rw [if_pos c8] at e
      obtain rfl := inj1 e
      refine gs_drop [] rfl ?_
      exact K
    · rw [if_neg c8] at e
      refine gs_aload_n rfl rfl ?_
      refine gs_get rfl (gd_i rfl rfl) ?_
      refine gs_ne0 rfl (fun c9 => ?_) (fun c9 => ?_)
      · rw [if_neg c9] at e
        obtain rfl := inj1 e
        refine gs_drop [] rfl ?_
        exact K
      · rw [if_pos c9] at e
        refine gs_aload_n rfl rfl ?_
        obtain ⟨r10, ec11, e⟩ := ob1_some e
        refine gs_callvI (st := []) rfl (pr_C_le (by decide) (th_X3_isNumber L f r10 ec11)) rfl rfl rfl (by decide) rfl (Or.inr (by decide)) ?_
        refine gs_eq0 rfl (fun c12 => ?_) (fun c12 => ?_)
        · rw [if_pos c12] at e
          obtain rfl := inj1 e
          refine gs_drop [] rfl ?_
          exact K
        · rw [if_neg c12] at e
          refine gs_aload_n rfl rfl ?_
          refine gs_aload_n rfl rfl ?_
          obtain ⟨f13, ec14, e⟩ := ob1_some e
          refine gs_callvV (st := []) rfl (pr_C_le (by decide) (th_X3_readField L z1 f f13 ec14)) rfl rfl rfl (by decide) rfl (Or.inr (by decide)) ?_
          obtain ⟨x15, hx15, e⟩ := pn_some e
          refine gs_iinc1 (x1 := x15) (c := 1) (lv' := [(2, .int x15), (0, .ref 100), (1, .ref z1)]) rfl rfl (by decide) hx15 rfl ?_
          refine gs_goto rfl ?_
          refine gs_drop [1, 2, 0] rfl ?_
          exact ih z1 x15 f13 w0 _ _ e K
set_option maxRecDepth 100000 in
set_option maxHeartbeats 4000000 in
theorem th_X3_readThen (L : Nat) (p1 : Nat) (f : pd_M) (g : pd_M) (e : fn_X3_readThen p1 f = some g) : pr_C L 4 21 [.ref 100, .ref p1] (hH f) none (hH g) := by
  refine pr_C.of (G := mt_X3_readThen) rfl rfl ?_
  show pr_G L 3 mt_X3_readThen (0, [(0, .ref 100), (1, .ref p1)], [], hH f) _ _
  unfold fn_X3_readThen at e
  by_cases hk1 : sk p1 = (14, 9)
  case neg => rw [if_neg hk1] at e; cases e
  rw [if_pos hk1] at e
  refine gs_aload_n rfl rfl ?_
  refine gs_iconst (x := 0) rfl (by decide) ?_
  refine gs_put rfl (gd_pi (sh_of hk1 (by decide)) rfl) ?_
  obtain ⟨f1, hf1, e⟩ := pn_some e
  refine gs_heap hf1 ?_
  refine gs_aload_n rfl rfl ?_
  refine gs_ldc (x := 268435456) rfl (by decide) ?_
  refine gs_put rfl (gd_pi (sh_of hk1 (by decide)) rfl) ?_
  obtain ⟨f2, hf2, e⟩ := pn_some e
  refine gs_heap hf2 ?_
  refine gs_aload_n rfl rfl ?_
  obtain ⟨r3, f4, ec5, e⟩ := ob2_some e
  refine gs_callvI (st := []) rfl (pr_C_le (by decide) (th_X3_takesRefuse L f2 r3 f4 ec5)) rfl rfl rfl (by decide) rfl (Or.inr (by decide)) ?_
  refine gs_eq0 rfl (fun c6 => ?_) (fun c6 => ?_)
  · rw [if_pos c6] at e
    refine gs_aload_n rfl rfl ?_
    refine gs_ldc (x := 268435455) rfl (by decide) ?_
    refine gs_put rfl (gd_pi (sh_of hk1 (by decide)) rfl) ?_
    obtain ⟨f7, hf7, e⟩ := pn_some e
    refine gs_heap hf7 ?_
    refine gs_iconst (x := 0) rfl (by decide) ?_
    refine gs_istore_n (lv' := [(2, .int 0), (0, .ref 100), (1, .ref p1)]) rfl rfl ?_
    refine gs_drop [1, 2, 0] rfl ?_
    obtain ⟨f16, el17, e⟩ := ob1_some e
    refine tl_X3_readThen_27 L 5000 p1 0 f7 f16 _ _ el17 ?_
    obtain rfl := inj1 e
    exact gs_vret rfl rfl rfl rfl
  · rw [if_neg c6] at e
    obtain rfl := inj1 e
    exact gs_vret rfl rfl rfl rfl
def fn_X3_readSaying (f : pd_M) : Option (pd_M) :=
  if (f 101 4) < 20 then
  pn ((pi_up f 100 3 ((f 100 3) + 1))) fun f2 =>
  if pa_in (f2 101 4) 20 = true then
  ob2 (fn_X3_number 0 3 f2) fun r4 f5 =>
  pn ((pi_up f5 (48 + (f2 101 4).toNatClampNeg) 0 r4)) fun f7 =>
  ob2 (fn_X3_number 0 3 f7) fun r8 f9 =>
  pn ((pi_up f9 (48 + (f2 101 4).toNatClampNeg) 1 r8)) fun f11 =>
  ob2 (fn_X3_fresh 3 ((1 : Int32) <<< ((f11 (48 + (f2 101 4).toNatClampNeg) 0) &&& 31)) f11) fun r12 f13 =>
  pn ((pi_up f13 (48 + (f2 101 4).toNatClampNeg) 2 r12)) fun f15 =>
  ob2 (fn_X3_number 0 7 f15) fun r16 f17 =>
  pn ((pi_up f17 (48 + (f2 101 4).toNatClampNeg) 3 r16)) fun f19 =>
  ob2 (fn_X3_number (f19 (48 + (f2 101 4).toNatClampNeg) 3) 7 f19) fun r20 f21 =>
  pn ((pi_up f21 (48 + (f2 101 4).toNatClampNeg) 4 r20)) fun f23 =>
  ob2 (fn_X3_number 0 3 f23) fun r24 f25 =>
  pn ((pi_up f25 (48 + (f2 101 4).toNatClampNeg) 5 r24)) fun f27 =>
  ob1 (fn_X8_casesOf (f27 (48 + (f2 101 4).toNatClampNeg) 3) (f27 (48 + (f2 101 4).toNatClampNeg) 4) (f27 (48 + (f2 101 4).toNatClampNeg) 5) f27) fun r28 =>
  pn ((pi_up f27 (48 + (f2 101 4).toNatClampNeg) 7 r28)) fun f30 =>
  ob1 (fn_X3_readThen (48 + (f2 101 4).toNatClampNeg) f30) fun f31 =>
  ob1 (fn_X3_take 101 f31) fun f33 =>
  pn ((pi_up f33 101 4 ((f33 101 4) + 1))) fun f35 =>
  some f35
  else none
  else
  pn ((pi_up f 100 4 3)) fun f36 =>
  some f36
set_option maxRecDepth 100000 in
set_option maxHeartbeats 4000000 in
theorem th_X3_readSaying (L : Nat)  (f : pd_M) (g : pd_M) (e : fn_X3_readSaying f = some g) : pr_C L 5 20 [.ref 100] (hH f) none (hH g) := by
  refine pr_C.of (G := mt_X3_readSaying) rfl rfl ?_
  show pr_G L 4 mt_X3_readSaying (0, [(0, .ref 100)], [], hH f) _ _
  unfold fn_X3_readSaying at e
  refine gs_aload_n rfl rfl ?_
  refine gs_get rfl (gd_r (b := 101) rfl rfl rfl) ?_
  refine gs_get rfl (gd_i rfl rfl) ?_
  refine gs_bipush (x := 20) rfl (by decide) ?_
  refine gs_lt2 rfl (fun c1 => ?_) (fun c1 => ?_)
  · rw [if_pos c1] at e
    refine gs_aload_n rfl rfl ?_
    refine gs_dup rfl rfl ?_
    refine gs_get rfl (gd_i rfl rfl) ?_
    refine gs_iconst (x := 1) rfl (by decide) ?_
    refine gs_iadd rfl ?_
    refine gs_put rfl (gd_pi rfl rfl) ?_
    obtain ⟨f2, hf2, e⟩ := pn_some e
    refine gs_heap hf2 ?_
    refine gs_aload_n rfl rfl ?_
    refine gs_get rfl (gd_r (b := 39) rfl rfl rfl) ?_
    refine gs_get rfl (gd_r (b := 45) rfl rfl rfl) ?_
    refine gs_aload_n rfl rfl ?_
    refine gs_get rfl (gd_r (b := 101) rfl rfl rfl) ?_
    refine gs_get rfl (gd_i rfl rfl) ?_
    by_cases hb3 : pa_in (f2 101 4) 20 = true
    case neg => rw [if_neg hb3] at e; cases e
    rw [if_pos hb3] at e
    refine gs_aald rfl (gd_aa (b := (48 + (f2 101 4).toNatClampNeg)) rfl (by decide) rfl hb3 rfl (arr_rf_45 (lt_of_in hb3))) ?_
    refine gs_astore_n (lv' := [(1, .ref (48 + (f2 101 4).toNatClampNeg)), (0, .ref 100)]) rfl rfl ?_
    refine gs_aload_n rfl rfl ?_
    refine gs_aload_n rfl rfl ?_
    refine gs_iconst (x := 0) rfl (by decide) ?_
    refine gs_iconst (x := 3) rfl (by decide) ?_
    obtain ⟨r4, f5, ec6, e⟩ := ob2_some e
    refine gs_callvI (st := [.ref (48 + (f2 101 4).toNatClampNeg)]) rfl (pr_C_le (by decide) (th_X3_number L 0 3 f2 r4 f5 ec6)) rfl rfl rfl (by decide) rfl (Or.inr (by decide)) ?_
    refine gs_put rfl (gd_pi (sh_of (arr_sh_45 (lt_of_in hb3)) (by decide)) rfl) ?_
    obtain ⟨f7, hf7, e⟩ := pn_some e
    refine gs_heap hf7 ?_
    refine gs_aload_n rfl rfl ?_
    refine gs_aload_n rfl rfl ?_
    refine gs_iconst (x := 0) rfl (by decide) ?_
    refine gs_iconst (x := 3) rfl (by decide) ?_
    obtain ⟨r8, f9, ec10, e⟩ := ob2_some e
    refine gs_callvI (st := [.ref (48 + (f2 101 4).toNatClampNeg)]) rfl (pr_C_le (by decide) (th_X3_number L 0 3 f7 r8 f9 ec10)) rfl rfl rfl (by decide) rfl (Or.inr (by decide)) ?_
    refine gs_put rfl (gd_pi (sh_of (arr_sh_45 (lt_of_in hb3)) (by decide)) rfl) ?_
    obtain ⟨f11, hf11, e⟩ := pn_some e
    refine gs_heap hf11 ?_
    refine gs_aload_n rfl rfl ?_
    refine gs_aload_n rfl rfl ?_
    refine gs_iconst (x := 3) rfl (by decide) ?_
    refine gs_iconst (x := 1) rfl (by decide) ?_
    refine gs_aload_n rfl rfl ?_
    refine gs_get rfl (gd_i (sh_of (arr_sh_45 (lt_of_in hb3)) (by decide)) rfl) ?_
    refine gs_ishl rfl ?_
    obtain ⟨r12, f13, ec14, e⟩ := ob2_some e
    refine gs_callvI (st := [.ref (48 + (f2 101 4).toNatClampNeg)]) rfl (pr_C_le (by decide) (th_X3_fresh L 3 ((1 : Int32) <<< ((f11 (48 + (f2 101 4).toNatClampNeg) 0) &&& 31)) f11 r12 f13 ec14)) rfl rfl rfl (by decide) rfl (Or.inr (by decide)) ?_
    refine gs_put rfl (gd_pi (sh_of (arr_sh_45 (lt_of_in hb3)) (by decide)) rfl) ?_
    obtain ⟨f15, hf15, e⟩ := pn_some e
    refine gs_heap hf15 ?_
    refine gs_aload_n rfl rfl ?_
    refine gs_aload_n rfl rfl ?_
    refine gs_iconst (x := 0) rfl (by decide) ?_
    refine gs_bipush (x := 7) rfl (by decide) ?_
    obtain ⟨r16, f17, ec18, e⟩ := ob2_some e
    refine gs_callvI (st := [.ref (48 + (f2 101 4).toNatClampNeg)]) rfl (pr_C_le (by decide) (th_X3_number L 0 7 f15 r16 f17 ec18)) rfl rfl rfl (by decide) rfl (Or.inr (by decide)) ?_
    refine gs_put rfl (gd_pi (sh_of (arr_sh_45 (lt_of_in hb3)) (by decide)) rfl) ?_
    obtain ⟨f19, hf19, e⟩ := pn_some e
    refine gs_heap hf19 ?_
    refine gs_aload_n rfl rfl ?_
    refine gs_aload_n rfl rfl ?_
    refine gs_aload_n rfl rfl ?_
    refine gs_get rfl (gd_i (sh_of (arr_sh_45 (lt_of_in hb3)) (by decide)) rfl) ?_
    refine gs_bipush (x := 7) rfl (by decide) ?_
    obtain ⟨r20, f21, ec22, e⟩ := ob2_some e
    refine gs_callvI (st := [.ref (48 + (f2 101 4).toNatClampNeg)]) rfl (pr_C_le (by decide) (th_X3_number L (f19 (48 + (f2 101 4).toNatClampNeg) 3) 7 f19 r20 f21 ec22)) rfl rfl rfl (by decide) rfl (Or.inr (by decide)) ?_
    refine gs_put rfl (gd_pi (sh_of (arr_sh_45 (lt_of_in hb3)) (by decide)) rfl) ?_
    obtain ⟨f23, hf23, e⟩ := pn_some e
    refine gs_heap hf23 ?_
    refine gs_aload_n rfl rfl ?_
    refine gs_aload_n rfl rfl ?_
    refine gs_iconst (x := 0) rfl (by decide) ?_
    refine gs_iconst (x := 3) rfl (by decide) ?_
    obtain ⟨r24, f25, ec26, e⟩ := ob2_some e
    refine gs_callvI (st := [.ref (48 + (f2 101 4).toNatClampNeg)]) rfl (pr_C_le (by decide) (th_X3_number L 0 3 f23 r24 f25 ec26)) rfl rfl rfl (by decide) rfl (Or.inr (by decide)) ?_
    refine gs_put rfl (gd_pi (sh_of (arr_sh_45 (lt_of_in hb3)) (by decide)) rfl) ?_
    obtain ⟨f27, hf27, e⟩ := pn_some e
    refine gs_heap hf27 ?_
    refine gs_aload_n rfl rfl ?_
    refine gs_aload_n rfl rfl ?_
    refine gs_get rfl (gd_i (sh_of (arr_sh_45 (lt_of_in hb3)) (by decide)) rfl) ?_
    refine gs_aload_n rfl rfl ?_
    refine gs_get rfl (gd_i (sh_of (arr_sh_45 (lt_of_in hb3)) (by decide)) rfl) ?_
    refine gs_aload_n rfl rfl ?_
    refine gs_get rfl (gd_i (sh_of (arr_sh_45 (lt_of_in hb3)) (by decide)) rfl) ?_
    obtain ⟨r28, ec29, e⟩ := ob1_some e
    refine gs_callsI (st := [.ref (48 + (f2 101 4).toNatClampNeg)]) rfl (pr_C_le (by decide) (th_X8_casesOf L (f27 (48 + (f2 101 4).toNatClampNeg) 3) (f27 (48 + (f2 101 4).toNatClampNeg) 4) (f27 (48 + (f2 101 4).toNatClampNeg) 5) f27 r28 ec29)) rfl rfl rfl (by decide) ?_
    refine gs_put rfl (gd_pi (sh_of (arr_sh_45 (lt_of_in hb3)) (by decide)) rfl) ?_
    obtain ⟨f30, hf30, e⟩ := pn_some e
    refine gs_heap hf30 ?_
    refine gs_aload_n rfl rfl ?_
    refine gs_aload_n rfl rfl ?_
    obtain ⟨f31, ec32, e⟩ := ob1_some e
    refine gs_callvV (st := []) rfl (pr_C_le (by decide) (th_X3_readThen L (48 + (f2 101 4).toNatClampNeg) f30 f31 ec32)) rfl rfl rfl (by decide) rfl (Or.inr (by decide)) ?_
    refine gs_aload_n rfl rfl ?_
    refine gs_bipush (x := 101) rfl (by decide) ?_
    obtain ⟨f33, ec34, e⟩ := ob1_some e
    refine gs_callvV (st := []) rfl (pr_C_le (by decide) (th_X3_take L 101 f31 f33 ec34)) rfl rfl rfl (by decide) rfl (Or.inr (by decide)) ?_
    refine gs_aload_n rfl rfl ?_
    refine gs_get rfl (gd_r (b := 101) rfl rfl rfl) ?_
    refine gs_dup rfl rfl ?_
    refine gs_get rfl (gd_i rfl rfl) ?_
    refine gs_iconst (x := 1) rfl (by decide) ?_
    refine gs_iadd rfl ?_
    refine gs_put rfl (gd_pi rfl rfl) ?_
    obtain ⟨f35, hf35, e⟩ := pn_some e
    refine gs_heap hf35 ?_
    obtain rfl := inj1 e
    exact gs_vret rfl rfl rfl rfl
  · rw [if_neg c1] at e
    refine gs_aload_n rfl rfl ?_
    refine gs_iconst (x := 3) rfl (by decide) ?_
    refine gs_put rfl (gd_pi rfl rfl) ?_
    obtain ⟨f36, hf36, e⟩ := pn_some e
    refine gs_heap hf36 ?_
    obtain rfl := inj1 e
    exact gs_vret rfl rfl rfl rfl
def fn_X3_readTry (f : pd_M) : Option (pd_M) :=
  pn ((pi_up f 100 3 ((f 100 3) + 1))) fun f1 =>
  ob2 (fn_X3_number 0 3 f1) fun r2 f3 =>
  ob2 (fn_X3_number 0 3 f3) fun r5 f6 =>
  if pa_in ((r2 * 4) + r5) 16 = true then
  ob2 (fn_X3_number 0 15 f6) fun r9 f10 =>
  if pa_in ((r2 * 4) + r5) 16 = true then
  pn ((pi_up f10 103 (((r2 * 4) + r5).toNatClampNeg) ((f6 103 ((r2 * 4) + r5).toNatClampNeg) ||| r9))) fun f13 =>
  ob1 (fn_X3_take 101 f13) fun f14 =>
  some f14
  else none
  else none
set_option maxRecDepth 100000 in
set_option maxHeartbeats 4000000 in
theorem th_X3_readTry (L : Nat)  (f : pd_M) (g : pd_M) (e : fn_X3_readTry f = some g) : pr_C L 3 23 [.ref 100] (hH f) none (hH g) := by
  refine pr_C.of (G := mt_X3_readTry) rfl rfl ?_
  show pr_G L 2 mt_X3_readTry (0, [(0, .ref 100)], [], hH f) _ _
  unfold fn_X3_readTry at e
  refine gs_aload_n rfl rfl ?_
  refine gs_dup rfl rfl ?_
  refine gs_get rfl (gd_i rfl rfl) ?_
  refine gs_iconst (x := 1) rfl (by decide) ?_
  refine gs_iadd rfl ?_
  refine gs_put rfl (gd_pi rfl rfl) ?_
  obtain ⟨f1, hf1, e⟩ := pn_some e
  refine gs_heap hf1 ?_
  refine gs_aload_n rfl rfl ?_
  refine gs_iconst (x := 0) rfl (by decide) ?_
  refine gs_iconst (x := 3) rfl (by decide) ?_
  obtain ⟨r2, f3, ec4, e⟩ := ob2_some e
  refine gs_callvI (st := []) rfl (pr_C_le (by decide) (th_X3_number L 0 3 f1 r2 f3 ec4)) rfl rfl rfl (by decide) rfl (Or.inr (by decide)) ?_
  refine gs_istore_n (lv' := [(1, .int r2), (0, .ref 100)]) rfl rfl ?_
  refine gs_aload_n rfl rfl ?_
  refine gs_iconst (x := 0) rfl (by decide) ?_
  refine gs_iconst (x := 3) rfl (by decide) ?_
  obtain ⟨r5, f6, ec7, e⟩ := ob2_some e
  refine gs_callvI (st := []) rfl (pr_C_le (by decide) (th_X3_number L 0 3 f3 r5 f6 ec7)) rfl rfl rfl (by decide) rfl (Or.inr (by decide)) ?_
  refine gs_istore_n (lv' := [(2, .int r5), (1, .int r2), (0, .ref 100)]) rfl rfl ?_
  refine gs_aload_n rfl rfl ?_
  refine gs_get rfl (gd_r (b := 101) rfl rfl rfl) ?_
  refine gs_get rfl (gd_r (b := 103) rfl rfl rfl) ?_
  refine gs_iload_n rfl rfl ?_
  refine gs_iconst (x := 4) rfl (by decide) ?_
  refine gs_imul rfl ?_
  refine gs_iload_n rfl rfl ?_
  refine gs_iadd rfl ?_
  refine gs_dup2 rfl rfl rfl ?_
  by_cases hb8 : pa_in ((r2 * 4) + r5) 16 = true
  case neg => rw [if_neg hb8] at e; cases e
  rw [if_pos hb8] at e
  refine gs_iald rfl (gd_ia (j := ((r2 * 4) + r5).toNatClampNeg) rfl hb8 rfl) ?_
  refine gs_aload_n rfl rfl ?_
  refine gs_iconst (x := 0) rfl (by decide) ?_
  refine gs_bipush (x := 15) rfl (by decide) ?_
  obtain ⟨r9, f10, ec11, e⟩ := ob2_some e
  refine gs_callvI (st := [.int (f6 103 ((r2 * 4) + r5).toNatClampNeg), .int ((r2 * 4) + r5), .ref 103]) rfl (pr_C_le (by decide) (th_X3_number L 0 15 f6 r9 f10 ec11)) rfl rfl rfl (by decide) rfl (Or.inr (by decide)) ?_
  refine gs_ior rfl ?_
  by_cases hb12 : pa_in ((r2 * 4) + r5) 16 = true
  case neg => rw [if_neg hb12] at e; cases e
  rw [if_pos hb12] at e
  refine gs_iast rfl (gd_si (j := ((r2 * 4) + r5).toNatClampNeg) rfl (by decide) hb12 rfl) ?_
  obtain ⟨f13, hf13, e⟩ := pn_some e
  refine gs_heap hf13 ?_
  refine gs_aload_n rfl rfl ?_
  refine gs_bipush (x := 101) rfl (by decide) ?_
  obtain ⟨f14, ec15, e⟩ := ob1_some e
  refine gs_callvV (st := []) rfl (pr_C_le (by decide) (th_X3_take L 101 f13 f14 ec15)) rfl rfl rfl (by decide) rfl (Or.inr (by decide)) ?_
  obtain rfl := inj1 e
  exact gs_vret rfl rfl rfl rfl
def lp_X3_readWithin_39 : Nat → Int32 → Int32 → Int32 → pd_M → Option (Int32 × pd_M)
  | 0, _, _, _, _ => none
  | n + 1, z1, z2, z3, f =>
    if 4 ≤ z3 then
    some (z2, f)
    else
    if (f 100 4) = 0 then
    ob1 (fn_X3_isNumber f) fun r13 =>
    if r13 = 0 then
    some (z2, f)
    else
    ob2 (fn_X3_fresh 3 z2 f) fun r16 f17 =>
    pn ((z2 ||| ((1 : Int32) <<< (r16 &&& 31)))) fun x19 =>
    pn (z3 + 1) fun x20 =>
    lp_X3_readWithin_39 n z1 x19 x20 f17
    else
    some (z2, f)
def fn_X3_readWithin (f : pd_M) : Option (pd_M) :=
  pn ((pi_up f 100 3 ((f 100 3) + 1))) fun f1 =>
  ob2 (fn_X3_number 0 3 f1) fun r2 f3 =>
  ob2 (fn_X3_number 0 99 f3) fun r5 f6 =>
  if pa_in r2 4 = true then
  pn ((pi_up f6 104 (r2.toNatClampNeg) r5)) fun f9 =>
  pn (((1 : Int32) <<< (r2 &&& 31))) fun x10 =>
  ob2 (lp_X3_readWithin_39 5000 r2 x10 0 f9) fun y21 f22 =>
  if pa_in r2 4 = true then
  pn ((pi_up f22 105 (r2.toNatClampNeg) (y21 &&& (((1 : Int32) <<< (r2 &&& 31)) ^^^ (-1))))) fun f25 =>
  ob1 (fn_X3_take 101 f25) fun f26 =>
  some f26
  else none
  else none
set_option maxRecDepth 100000 in
set_option maxHeartbeats 4000000 in
theorem tl_X3_readWithin_39 (L : Nat) : ∀ (n : Nat) (z1 : Int32) (z2 : Int32) (z3 : Int32) (f : pd_M) (w0 : Int32) (w1 : pd_M) (r : Option Value) (h2 : ph_T), lp_X3_readWithin_39 n z1 z2 z3 f = some (w0, w1) → pr_G L 2 mt_X3_readWithin (75, [(0, .ref 100), (1, .int z1), (2, .int w0)], [], hH w1) r h2 → pr_G L 2 mt_X3_readWithin (39, [(0, .ref 100), (1, .int z1), (2, .int z2), (3, .int z3)], [], hH f) r h2 := by
  intro n
  induction n with
  | zero => intro z1 z2 z3 f w0 w1 r h2 e; cases e
  | succ n ih =>
    intro z1 z2 z3 f w0 w1 r h2 e K
    unfold lp_X3_readWithin_39 at e
    refine gs_iload_n rfl rfl ?_
    refine gs_iconst (x := 4) rfl (by decide) ?_
    refine gs_ge2 rfl (fun c11 => ?_) (fun c11 => ?_)
    · rw [if_pos c11] at e
      obtain ⟨rfl, rfl⟩ := inj2 e
      refine gs_drop [0, 1, 2] rfl ?_
      exact K
    · rw [if_neg c11] at e
      refine gs_aload_n rfl rfl ?_
      refine gs_get rfl (gd_i rfl rfl) ?_
      refine gs_ne0 rfl (fun c12 => ?_) (fun c12 => ?_)
      · rw [if_neg c12] at e
        obtain ⟨rfl, rfl⟩ := inj2 e
        refine gs_drop [0, 1, 2] rfl ?_
        exact K
      · rw [if_pos c12] at e
        refine gs_aload_n rfl rfl ?_
        obtain ⟨r13, ec14, e⟩ := ob1_some e
        refine gs_callvI (st := []) rfl (pr_C_le (by decide) (th_X3_isNumber L f r13 ec14)) rfl rfl rfl (by decide) rfl (Or.inr (by decide)) ?_
        refine gs_eq0 rfl (fun c15 => ?_) (fun c15 => ?_)
        · rw [if_pos c15] at e
          obtain ⟨rfl, rfl⟩ := inj2 e
          refine gs_drop [0, 1, 2] rfl ?_
          exact K
        · rw [if_neg c15] at e
          refine gs_iload_n rfl rfl ?_
          refine gs_iconst (x := 1) rfl (by decide) ?_
          refine gs_aload_n rfl rfl ?_
          refine gs_iconst (x := 3) rfl (by decide) ?_
          refine gs_iload_n rfl rfl ?_
          obtain ⟨r16, f17, ec18, e⟩ := ob2_some e
          refine gs_callvI (st := [.int 1, .int z2]) rfl (pr_C_le (by decide) (th_X3_fresh L 3 z2 f r16 f17 ec18)) rfl rfl rfl (by decide) rfl (Or.inr (by decide)) ?_
          refine gs_ishl rfl ?_
          refine gs_ior rfl ?_
          obtain ⟨x19, hx19, e⟩ := pn_some e
          refine gs_topi hx19 ?_
          refine gs_istore_n (lv' := [(2, .int x19), (0, .ref 100), (1, .int z1), (3, .int z3)]) rfl rfl ?_
          obtain ⟨x20, hx20, e⟩ := pn_some e
          refine gs_iinc1 (x1 := x20) (c := 1) (lv' := [(3, .int x20), (2, .int x19), (0, .ref 100), (1, .int z1)]) rfl rfl (by decide) hx20 rfl ?_
          refine gs_goto rfl ?_
          refine gs_drop [2, 3, 1, 0] rfl ?_
          exact ih z1 x19 x20 f17 w0 w1 _ _ e K
set_option maxRecDepth 100000 in
set_option maxHeartbeats 4000000 in
theorem th_X3_readWithin (L : Nat)  (f : pd_M) (g : pd_M) (e : fn_X3_readWithin f = some g) : pr_C L 3 24 [.ref 100] (hH f) none (hH g) := by
  refine pr_C.of (G := mt_X3_readWithin) rfl rfl ?_
  show pr_G L 2 mt_X3_readWithin (0, [(0, .ref 100)], [], hH f) _ _
  unfold fn_X3_readWithin at e
  refine gs_aload_n rfl rfl ?_
  refine gs_dup rfl rfl ?_
  refine gs_get rfl (gd_i rfl rfl) ?_
  refine gs_iconst (x := 1) rfl (by decide) ?_
  refine gs_iadd rfl ?_
  refine gs_put rfl (gd_pi rfl rfl) ?_
  obtain ⟨f1, hf1, e⟩ := pn_some e
  refine gs_heap hf1 ?_
  refine gs_aload_n rfl rfl ?_
  refine gs_iconst (x := 0) rfl (by decide) ?_
  refine gs_iconst (x := 3) rfl (by decide) ?_
  obtain ⟨r2, f3, ec4, e⟩ := ob2_some e
  refine gs_callvI (st := []) rfl (pr_C_le (by decide) (th_X3_number L 0 3 f1 r2 f3 ec4)) rfl rfl rfl (by decide) rfl (Or.inr (by decide)) ?_
  refine gs_istore_n (lv' := [(1, .int r2), (0, .ref 100)]) rfl rfl ?_
  refine gs_aload_n rfl rfl ?_
  refine gs_get rfl (gd_r (b := 101) rfl rfl rfl) ?_
  refine gs_get rfl (gd_r (b := 104) rfl rfl rfl) ?_
  refine gs_iload_n rfl rfl ?_
  refine gs_aload_n rfl rfl ?_
  refine gs_iconst (x := 0) rfl (by decide) ?_
  refine gs_bipush (x := 99) rfl (by decide) ?_
  obtain ⟨r5, f6, ec7, e⟩ := ob2_some e
  refine gs_callvI (st := [.int r2, .ref 104]) rfl (pr_C_le (by decide) (th_X3_number L 0 99 f3 r5 f6 ec7)) rfl rfl rfl (by decide) rfl (Or.inr (by decide)) ?_
  by_cases hb8 : pa_in r2 4 = true
  case neg => rw [if_neg hb8] at e; cases e
  rw [if_pos hb8] at e
  refine gs_iast rfl (gd_si (j := r2.toNatClampNeg) rfl (by decide) hb8 rfl) ?_
  obtain ⟨f9, hf9, e⟩ := pn_some e
  refine gs_heap hf9 ?_
  refine gs_iconst (x := 1) rfl (by decide) ?_
  refine gs_iload_n rfl rfl ?_
  refine gs_ishl rfl ?_
  obtain ⟨x10, hx10, e⟩ := pn_some e
  refine gs_topi hx10 ?_
  refine gs_istore_n (lv' := [(2, .int x10), (1, .int r2), (0, .ref 100)]) rfl rfl ?_
  refine gs_iconst (x := 0) rfl (by decide) ?_
  refine gs_istore_n (lv' := [(3, .int 0), (2, .int x10), (1, .int r2), (0, .ref 100)]) rfl rfl ?_
  refine gs_drop [3, 2, 1, 0] rfl ?_
  obtain ⟨y21, f22, el23, e⟩ := ob2_some e
  refine tl_X3_readWithin_39 L 5000 r2 x10 0 f9 y21 f22 _ _ el23 ?_
  refine gs_aload_n rfl rfl ?_
  refine gs_get rfl (gd_r (b := 101) rfl rfl rfl) ?_
  refine gs_get rfl (gd_r (b := 105) rfl rfl rfl) ?_
  refine gs_iload_n rfl rfl ?_
  refine gs_iload_n rfl rfl ?_
  refine gs_iconst (x := 1) rfl (by decide) ?_
  refine gs_iload_n rfl rfl ?_
  refine gs_ishl rfl ?_
  refine gs_iconst (x := (-1)) rfl (by decide) ?_
  refine gs_ixor rfl ?_
  refine gs_iand rfl ?_
  by_cases hb24 : pa_in r2 4 = true
  case neg => rw [if_neg hb24] at e; cases e
  rw [if_pos hb24] at e
  refine gs_iast rfl (gd_si (j := r2.toNatClampNeg) rfl (by decide) hb24 rfl) ?_
  obtain ⟨f25, hf25, e⟩ := pn_some e
  refine gs_heap hf25 ?_
  refine gs_aload_n rfl rfl ?_
  refine gs_bipush (x := 101) rfl (by decide) ?_
  obtain ⟨f26, ec27, e⟩ := ob1_some e
  refine gs_callvV (st := []) rfl (pr_C_le (by decide) (th_X3_take L 101 f25 f26 ec27)) rfl rfl rfl (by decide) rfl (Or.inr (by decide)) ?_
  obtain rfl := inj1 e
  exact gs_vret rfl rfl rfl rfl
def lp_X3_readText_26 : Nat → Int32 → pd_M → Option (pd_M)
  | 0, _, _ => none
  | n + 1, z1, f =>
    if 500 < z1 then
    some (f)
    else
    if (f 100 4) = 0 then
    if pa_in (f 100 3) 501 = true then
    if (f 37 (f 100 3).toNatClampNeg) = 100 then
    some (f)
    else
    if pa_in (f 100 3) 501 = true then
    if (f 37 (f 100 3).toNatClampNeg) = 102 then
    ob1 (fn_X3_readEdition f) fun f11 =>
    pn (z1 + 1) fun x13 =>
    lp_X3_readText_26 n x13 f11
    else
    if (f 37 (f 100 3).toNatClampNeg) = 103 then
    ob1 (fn_X3_readSaying f) fun f15 =>
    pn (z1 + 1) fun x17 =>
    lp_X3_readText_26 n x17 f15
    else
    if (f 37 (f 100 3).toNatClampNeg) = 104 then
    ob1 (fn_X3_readTry f) fun f19 =>
    pn (z1 + 1) fun x21 =>
    lp_X3_readText_26 n x21 f19
    else
    if (f 37 (f 100 3).toNatClampNeg) = 105 then
    ob1 (fn_X3_readWithin f) fun f23 =>
    pn (z1 + 1) fun x25 =>
    lp_X3_readText_26 n x25 f23
    else
    pn ((pi_up f 100 4 1)) fun f26 =>
    pn (z1 + 1) fun x27 =>
    lp_X3_readText_26 n x27 f26
    else none
    else none
    else
    some (f)
def fn_X3_readText (f : pd_M) : Option (pd_M) :=
  ob1 (fn_X2_become 101 40 f) fun f1 =>
  pn ((pi_up f1 100 3 0)) fun f3 =>
  pn ((pi_up f3 100 4 0)) fun f4 =>
  ob1 (lp_X3_readText_26 5000 0 f4) fun f28 =>
  some f28
set_option maxRecDepth 100000 in
set_option maxHeartbeats 4000000 in
theorem tl_X3_readText_26 (L : Nat) : ∀ (n : Nat) (z1 : Int32) (f : pd_M) (w0 : pd_M) (r : Option Value) (h2 : ph_T), lp_X3_readText_26 n z1 f = some (w0) → pr_G L 5 mt_X3_readText (139, [], [], hH w0) r h2 → pr_G L 5 mt_X3_readText (26, [(0, .ref 100), (1, .int z1)], [], hH f) r h2 := by
  intro n
  induction n with
  | zero => intro z1 f w0 r h2 e; cases e
  | succ n ih =>
    intro z1 f w0 r h2 e K
    unfold lp_X3_readText_26 at e
    refine gs_iload_n rfl rfl ?_
    refine gs_sipush (x := 500) rfl (by decide) ?_
    refine gs_gt2 rfl (fun c5 => ?_) (fun c5 => ?_)
    · rw [if_pos c5] at e
      obtain rfl := inj1 e
      refine gs_drop [] rfl ?_
      exact K
    · rw [if_neg c5] at e
      refine gs_aload_n rfl rfl ?_
      refine gs_get rfl (gd_i rfl rfl) ?_
      refine gs_ne0 rfl (fun c6 => ?_) (fun c6 => ?_)
      · rw [if_neg c6] at e
        obtain rfl := inj1 e
        refine gs_drop [] rfl ?_
        exact K
      · rw [if_pos c6] at e
        refine gs_aload_n rfl rfl ?_
        refine gs_get rfl (gd_r (b := 35) rfl rfl rfl) ?_
        refine gs_get rfl (gd_r (b := 37) rfl rfl rfl) ?_
        refine gs_aload_n rfl rfl ?_
        refine gs_get rfl (gd_i rfl rfl) ?_
        by_cases hb7 : pa_in (f 100 3) 501 = true
        case neg => rw [if_neg hb7] at e; cases e
        rw [if_pos hb7] at e
        refine gs_bald rfl (gd_ba (j := (f 100 3).toNatClampNeg) rfl hb7 rfl) ?_
        refine gs_bipush (x := 100) rfl (by decide) ?_
        refine gs_eq2 rfl (fun c8 => ?_) (fun c8 => ?_)
        · rw [if_pos c8] at e
          obtain rfl := inj1 e
          refine gs_drop [] rfl ?_
          exact K
        · rw [if_neg c8] at e
          refine gs_aload_n rfl rfl ?_
          refine gs_get rfl (gd_r (b := 35) rfl rfl rfl) ?_
          refine gs_get rfl (gd_r (b := 37) rfl rfl rfl) ?_
          refine gs_aload_n rfl rfl ?_
          refine gs_get rfl (gd_i rfl rfl) ?_
          by_cases hb9 : pa_in (f 100 3) 501 = true
          case neg => rw [if_neg hb9] at e; cases e
          rw [if_pos hb9] at e
          refine gs_bald rfl (gd_ba (j := (f 100 3).toNatClampNeg) rfl hb9 rfl) ?_
          by_cases c10 : (f 37 (f 100 3).toNatClampNeg) = 102
          · rw [if_pos c10] at e
            refine gs_switch (t := 100) rfl (by rw [c10]; decide) ?_
            refine gs_aload_n rfl rfl ?_
            obtain ⟨f11, ec12, e⟩ := ob1_some e
            refine gs_callvV (st := []) rfl (pr_C_le (by decide) (th_X3_readEdition L f f11 ec12)) rfl rfl rfl (by decide) rfl (Or.inr (by decide)) ?_
            refine gs_goto rfl ?_
            obtain ⟨x13, hx13, e⟩ := pn_some e
            refine gs_iinc1 (x1 := x13) (c := 1) (lv' := [(1, .int x13), (0, .ref 100)]) rfl rfl (by decide) hx13 rfl ?_
            refine gs_goto rfl ?_
            refine gs_drop [1, 0] rfl ?_
            exact ih x13 f11 w0 _ _ e K
          · rw [if_neg c10] at e
            by_cases c14 : (f 37 (f 100 3).toNatClampNeg) = 103
            · rw [if_pos c14] at e
              refine gs_switch (t := 107) rfl (by rw [c14]; decide) ?_
              refine gs_aload_n rfl rfl ?_
              obtain ⟨f15, ec16, e⟩ := ob1_some e
              refine gs_callvV (st := []) rfl (pr_C_le (by decide) (th_X3_readSaying L f f15 ec16)) rfl rfl rfl (by decide) rfl (Or.inr (by decide)) ?_
              refine gs_goto rfl ?_
              obtain ⟨x17, hx17, e⟩ := pn_some e
              refine gs_iinc1 (x1 := x17) (c := 1) (lv' := [(1, .int x17), (0, .ref 100)]) rfl rfl (by decide) hx17 rfl ?_
              refine gs_goto rfl ?_
              refine gs_drop [1, 0] rfl ?_
              exact ih x17 f15 w0 _ _ e K
            · rw [if_neg c14] at e
              by_cases c18 : (f 37 (f 100 3).toNatClampNeg) = 104
              · rw [if_pos c18] at e
                refine gs_switch (t := 114) rfl (by rw [c18]; decide) ?_
                refine gs_aload_n rfl rfl ?_
                obtain ⟨f19, ec20, e⟩ := ob1_some e
                refine gs_callvV (st := []) rfl (pr_C_le (by decide) (th_X3_readTry L f f19 ec20)) rfl rfl rfl (by decide) rfl (Or.inr (by decide)) ?_
                refine gs_goto rfl ?_
                obtain ⟨x21, hx21, e⟩ := pn_some e
                refine gs_iinc1 (x1 := x21) (c := 1) (lv' := [(1, .int x21), (0, .ref 100)]) rfl rfl (by decide) hx21 rfl ?_
                refine gs_goto rfl ?_
                refine gs_drop [1, 0] rfl ?_
                exact ih x21 f19 w0 _ _ e K
              · rw [if_neg c18] at e
                by_cases c22 : (f 37 (f 100 3).toNatClampNeg) = 105
                · rw [if_pos c22] at e
                  refine gs_switch (t := 121) rfl (by rw [c22]; decide) ?_
                  refine gs_aload_n rfl rfl ?_
                  obtain ⟨f23, ec24, e⟩ := ob1_some e
                  refine gs_callvV (st := []) rfl (pr_C_le (by decide) (th_X3_readWithin L f f23 ec24)) rfl rfl rfl (by decide) rfl (Or.inr (by decide)) ?_
                  refine gs_goto rfl ?_
                  obtain ⟨x25, hx25, e⟩ := pn_some e
                  refine gs_iinc1 (x1 := x25) (c := 1) (lv' := [(1, .int x25), (0, .ref 100)]) rfl rfl (by decide) hx25 rfl ?_
                  refine gs_goto rfl ?_
                  refine gs_drop [1, 0] rfl ?_
                  exact ih x25 f23 w0 _ _ e K
                · rw [if_neg c22] at e
                  refine gs_switch (t := 128) rfl (sw_out (lo := 102) (hi := 105) (by decide) (fun k hk => by
                    rcases (by omega : k = 102 ∨ k = 103 ∨ k = 104 ∨ k = 105) with rfl | rfl | rfl | rfl
                    · exact fun z => c10 (z.trans (by decide))
                    · exact fun z => c14 (z.trans (by decide))
                    · exact fun z => c18 (z.trans (by decide))
                    · exact fun z => c22 (z.trans (by decide))) (by decide)) ?_
                  refine gs_aload_n rfl rfl ?_
                  refine gs_iconst (x := 1) rfl (by decide) ?_
                  refine gs_put rfl (gd_pi rfl rfl) ?_
                  obtain ⟨f26, hf26, e⟩ := pn_some e
                  refine gs_heap hf26 ?_
                  obtain ⟨x27, hx27, e⟩ := pn_some e
                  refine gs_iinc1 (x1 := x27) (c := 1) (lv' := [(1, .int x27), (0, .ref 100)]) rfl rfl (by decide) hx27 rfl ?_
                  refine gs_goto rfl ?_
                  refine gs_drop [1, 0] rfl ?_
                  exact ih x27 f26 w0 _ _ e K
set_option maxRecDepth 100000 in
set_option maxHeartbeats 4000000 in
theorem th_X3_readText (L : Nat)  (f : pd_M) (g : pd_M) (e : fn_X3_readText f = some g) : pr_C L 6 14 [.ref 100] (hH f) none (hH g) := by
  refine pr_C.of (G := mt_X3_readText) rfl rfl ?_
  show pr_G L 5 mt_X3_readText (0, [(0, .ref 100)], [], hH f) _ _
  unfold fn_X3_readText at e
  refine gs_aload_n rfl rfl ?_
  refine gs_get rfl (gd_r (b := 101) rfl rfl rfl) ?_
  refine gs_aload_n rfl rfl ?_
  refine gs_get rfl (gd_r (b := 39) rfl rfl rfl) ?_
  refine gs_get rfl (gd_r (b := 40) rfl rfl rfl) ?_
  obtain ⟨f1, ec2, e⟩ := ob1_some e
  refine gs_callvV (st := []) rfl (pr_C_le (by decide) (th_X2_become L 101 40 f f1 ec2)) rfl rfl rfl (by decide) rfl (Or.inr (by decide)) ?_
  refine gs_aload_n rfl rfl ?_
  refine gs_iconst (x := 0) rfl (by decide) ?_
  refine gs_put rfl (gd_pi rfl rfl) ?_
  obtain ⟨f3, hf3, e⟩ := pn_some e
  refine gs_heap hf3 ?_
  refine gs_aload_n rfl rfl ?_
  refine gs_iconst (x := 0) rfl (by decide) ?_
  refine gs_put rfl (gd_pi rfl rfl) ?_
  obtain ⟨f4, hf4, e⟩ := pn_some e
  refine gs_heap hf4 ?_
  refine gs_iconst (x := 0) rfl (by decide) ?_
  refine gs_istore_n (lv' := [(1, .int 0), (0, .ref 100)]) rfl rfl ?_
  refine gs_drop [1, 0] rfl ?_
  obtain ⟨f28, el29, e⟩ := ob1_some e
  refine tl_X3_readText_26 L 5000 0 f4 f28 _ _ el29 ?_
  obtain rfl := inj1 e
  exact gs_vret rfl rfl rfl rfl
def lp_X5_begin_17 : Nat → Nat → Int32 → pd_M → Option (pd_M)
  | 0, _, _, _ => none
  | n + 1, z0, z3, f =>
    if sk z0 = (15, 4) then
    if 40 ≤ z3 then
    some (f)
    else
    if pa_in z3 40 = true then
    pn ((pi_up f (z0 + 1) (z3.toNatClampNeg) 0)) fun f6 =>
    pn (z3 + 1) fun x7 =>
    lp_X5_begin_17 n z0 x7 f6
    else none
    else none
def fn_X5_begin (a0 : Nat) (p1 : Int32) (p2 : Int32) (f : pd_M) : Option (pd_M) :=
  if sk a0 = (15, 4) then
  pn ((pi_up f a0 1 1)) fun f1 =>
  pn ((pi_up f1 a0 2 p1)) fun f2 =>
  pn ((pi_up f2 a0 3 p2)) fun f3 =>
  ob1 (lp_X5_begin_17 5000 a0 0 f3) fun f8 =>
  some f8
  else none
set_option maxRecDepth 100000 in
set_option maxHeartbeats 4000000 in
theorem tl_X5_begin_17 (L : Nat) : ∀ (n : Nat) (z0 : Nat) (z3 : Int32) (f : pd_M) (w0 : pd_M) (r : Option Value) (h2 : ph_T), lp_X5_begin_17 n z0 z3 f = some (w0) → pr_G L 0 mt_X5_begin (36, [], [], hH w0) r h2 → pr_G L 0 mt_X5_begin (17, [(0, .ref z0), (3, .int z3)], [], hH f) r h2 := by
  intro n
  induction n with
  | zero => intro z0 z3 f w0 r h2 e; cases e
  | succ n ih =>
    intro z0 z3 f w0 r h2 e K
    unfold lp_X5_begin_17 at e
    by_cases hk0 : sk z0 = (15, 4)
    case neg => rw [if_neg hk0] at e; cases e
    rw [if_pos hk0] at e
    refine gs_iload_n rfl rfl ?_
    refine gs_bipush (x := 40) rfl (by decide) ?_
    refine gs_ge2 rfl (fun c4 => ?_) (fun c4 => ?_)
    · rw [if_pos c4] at e
      obtain rfl := inj1 e
      refine gs_drop [] rfl ?_
      exact K
    · rw [if_neg c4] at e
      refine gs_aload_n rfl rfl ?_
      refine gs_get rfl (gd_r (b := (z0 + 1)) (sh_of hk0 (by decide)) rfl (ref_15_0 hk0)) ?_
      refine gs_iload_n rfl rfl ?_
      refine gs_iconst (x := 0) rfl (by decide) ?_
      by_cases hb5 : pa_in z3 40 = true
      case neg => rw [if_neg hb5] at e; cases e
      rw [if_pos hb5] at e
      refine gs_iast rfl (gd_si (j := z3.toNatClampNeg) (sh_of (fam_15_0 hk0) (by decide)) (ge_of (fam_15_0 hk0) (by decide)) hb5 rfl) ?_
      obtain ⟨f6, hf6, e⟩ := pn_some e
      refine gs_heap hf6 ?_
      obtain ⟨x7, hx7, e⟩ := pn_some e
      refine gs_iinc1 (x1 := x7) (c := 1) (lv' := [(3, .int x7), (0, .ref z0)]) rfl rfl (by decide) hx7 rfl ?_
      refine gs_goto rfl ?_
      refine gs_drop [1, 0] rfl ?_
      exact ih z0 x7 f6 w0 _ _ e K
set_option maxRecDepth 100000 in
set_option maxHeartbeats 4000000 in
theorem th_X5_begin (L : Nat) (a0 : Nat) (p1 : Int32) (p2 : Int32) (f : pd_M) (g : pd_M) (e : fn_X5_begin a0 p1 p2 f = some g) : pr_C L 1 32 [.ref a0, .int p1, .int p2] (hH f) none (hH g) := by
  refine pr_C.of (G := mt_X5_begin) rfl rfl ?_
  show pr_G L 0 mt_X5_begin (0, [(0, .ref a0), (1, .int p1), (2, .int p2)], [], hH f) _ _
  unfold fn_X5_begin at e
  by_cases hk0 : sk a0 = (15, 4)
  case neg => rw [if_neg hk0] at e; cases e
  rw [if_pos hk0] at e
  refine gs_aload_n rfl rfl ?_
  refine gs_iconst (x := 1) rfl (by decide) ?_
  refine gs_put rfl (gd_pz (sh_of hk0 (by decide)) rfl (by decide)) ?_
  obtain ⟨f1, hf1, e⟩ := pn_some e
  refine gs_heap hf1 ?_
  refine gs_aload_n rfl rfl ?_
  refine gs_iload_n rfl rfl ?_
  refine gs_put rfl (gd_pi (sh_of hk0 (by decide)) rfl) ?_
  obtain ⟨f2, hf2, e⟩ := pn_some e
  refine gs_heap hf2 ?_
  refine gs_aload_n rfl rfl ?_
  refine gs_iload_n rfl rfl ?_
  refine gs_put rfl (gd_pi (sh_of hk0 (by decide)) rfl) ?_
  obtain ⟨f3, hf3, e⟩ := pn_some e
  refine gs_heap hf3 ?_
  refine gs_iconst (x := 0) rfl (by decide) ?_
  refine gs_istore_n (lv' := [(3, .int 0), (0, .ref a0), (1, .int p1), (2, .int p2)]) rfl rfl ?_
  refine gs_drop [1, 0] rfl ?_
  obtain ⟨f8, el9, e⟩ := ob1_some e
  refine tl_X5_begin_17 L 5000 a0 0 f3 f8 _ _ el9 ?_
  obtain rfl := inj1 e
  exact gs_vret rfl rfl rfl rfl
