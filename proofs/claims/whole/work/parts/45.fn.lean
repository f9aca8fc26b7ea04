def lp_X7_settle_17 : Nat → Int32 → Int32 → pd_M → Option (pd_M)
  | 0, _, _, _ => none
  | n + 1, z2, z3, f =>
    if pa_in z2 4 = true then
    if (f 41 z2.toNatClampNeg) ≤ z3 then
    some (f)
    else
    ob1 (fn_X7_editionOf z2 z3) fun r6 =>
    ob1 (fn_X7_keptBy z2 z3 f) fun r8 =>
    pn ((pi_up f r6 1 r8)) fun f10 =>
    pn (z3 + 1) fun x11 =>
    lp_X7_settle_17 n z2 x11 f10
    else none
def lp_X7_settle_10 : Nat → Int32 → pd_M → Option (pd_M)
  | 0, _, _ => none
  | n + 1, z2, f =>
    if 4 ≤ z2 then
    some (f)
    else
    ob1 (lp_X7_settle_17 5000 z2 0 f) fun f12 =>
    ob1 (fn_X7_leastQuarrel z2 f12) fun r14 =>
    if pa_in z2 4 = true then
    pn ((pi_up f12 47 (z2.toNatClampNeg) r14)) fun f17 =>
    pn (z2 + 1) fun x18 =>
    lp_X7_settle_10 n x18 f17
    else none
def fn_X7_settle (p1 : Nat) (f : pd_M) : Option (pd_M) :=
  if sk p1 = (12, 5) then
  ob1 (fn_X2_become 40 p1 f) fun f1 =>
  ob1 (lp_X7_settle_10 5000 0 f1) fun f19 =>
  some f19
  else none
set_option maxRecDepth 100000 in
set_option maxHeartbeats 4000000 in
theorem tl_X7_settle_17 (L : Nat) : ∀ (n : Nat) (z2 : Int32) (z3 : Int32) (f : pd_M) (w0 : pd_M) (r : Option Value) (h2 : ph_T), lp_X7_settle_17 n z2 z3 f = some (w0) → pr_G L 5 mt_X7_settle (51, [(0, .ref 39), (2, .int z2)], [], hH w0) r h2 → pr_G L 5 mt_X7_settle (17, [(0, .ref 39), (2, .int z2), (3, .int z3)], [], hH f) r h2 := by
  intro n
  induction n with
  | zero => intro z2 z3 f w0 r h2 e; cases e
  | succ n ih =>
    intro z2 z3 f w0 r h2 e K
    unfold lp_X7_settle_17 at e
    refine gs_iload_n rfl rfl ?_
    refine gs_aload_n rfl rfl ?_
    refine gs_get rfl (gd_r (b := 40) rfl rfl rfl) ?_
    refine gs_get rfl (gd_r (b := 41) rfl rfl rfl) ?_
    refine gs_iload_n rfl rfl ?_
    by_cases hb4 : pa_in z2 4 = true
    case neg => rw [if_neg hb4] at e; cases e
    rw [if_pos hb4] at e
    refine gs_iald rfl (gd_ia (j := z2.toNatClampNeg) rfl hb4 rfl) ?_
    refine gs_ge2 rfl (fun c5 => ?_) (fun c5 => ?_)
    · rw [if_pos c5] at e
      obtain rfl := inj1 e
      refine gs_drop [0, 1] rfl ?_
      exact K
    · rw [if_neg c5] at e
      refine gs_aload_n rfl rfl ?_
      refine gs_iload_n rfl rfl ?_
      refine gs_iload_n rfl rfl ?_
      obtain ⟨r6, ec7, e⟩ := ob1_some e
      refine gs_callvR (st := []) rfl (pr_C_le (by decide) (th_X7_editionOf L z2 z3 f r6 ec7)) rfl rfl rfl (by decide) rfl (Or.inr (by decide)) ?_
      refine gs_aload_n rfl rfl ?_
      refine gs_iload_n rfl rfl ?_
      refine gs_iload_n rfl rfl ?_
      obtain ⟨r8, ec9, e⟩ := ob1_some e
      refine gs_callvI (st := [.ref r6]) rfl (pr_C_le (by decide) (th_X7_keptBy L z2 z3 f r8 ec9)) rfl rfl rfl (by decide) rfl (Or.inr (by decide)) ?_
      refine gs_put rfl (gd_pi (sh_of (fnk_X7_editionOf ec7) (by decide)) rfl) ?_
      obtain ⟨f10, hf10, e⟩ := pn_some e
      refine gs_heap hf10 ?_
      obtain ⟨x11, hx11, e⟩ := pn_some e
      refine gs_iinc1 (x1 := x11) (c := 1) (lv' := [(3, .int x11), (0, .ref 39), (2, .int z2)]) rfl rfl (by decide) hx11 rfl ?_
      refine gs_goto rfl ?_
      refine gs_drop [1, 2, 0] rfl ?_
      exact ih z2 x11 f10 w0 _ _ e K
set_option maxRecDepth 100000 in
set_option maxHeartbeats 4000000 in
theorem tl_X7_settle_10 (L : Nat) : ∀ (n : Nat) (z2 : Int32) (f : pd_M) (w0 : pd_M) (r : Option Value) (h2 : ph_T), lp_X7_settle_10 n z2 f = some (w0) → pr_G L 5 mt_X7_settle (68, [], [], hH w0) r h2 → pr_G L 5 mt_X7_settle (10, [(0, .ref 39), (2, .int z2)], [], hH f) r h2 := by
  intro n
  induction n with
  | zero => intro z2 f w0 r h2 e; cases e
  | succ n ih =>
    intro z2 f w0 r h2 e K
    unfold lp_X7_settle_10 at e
    refine gs_iload_n rfl rfl ?_
    refine gs_iconst (x := 4) rfl (by decide) ?_
    refine gs_ge2 rfl (fun c3 => ?_) (fun c3 => ?_)
    · rw [if_pos c3] at e
      obtain rfl := inj1 e
      refine gs_drop [] rfl ?_
      exact K
    · rw [if_neg c3] at e
      refine gs_iconst (x := 0) rfl (by decide) ?_
      refine gs_istore_n (lv' := [(3, .int 0), (0, .ref 39), (2, .int z2)]) rfl rfl ?_
      refine gs_drop [1, 2, 0] rfl ?_
      obtain ⟨f12, el13, e⟩ := ob1_some e
      refine tl_X7_settle_17 L 5000 z2 0 f f12 _ _ el13 ?_
      refine gs_aload_n rfl rfl ?_
      refine gs_get rfl (gd_r (b := 47) rfl rfl rfl) ?_
      refine gs_iload_n rfl rfl ?_
      refine gs_aload_n rfl rfl ?_
      refine gs_iload_n rfl rfl ?_
      obtain ⟨r14, ec15, e⟩ := ob1_some e
      refine gs_callvI (st := [.int z2, .ref 47]) rfl (pr_C_le (by decide) (th_X7_leastQuarrel L z2 f12 r14 ec15)) rfl rfl rfl (by decide) rfl (Or.inr (by decide)) ?_
      by_cases hb16 : pa_in z2 4 = true
      case neg => rw [if_neg hb16] at e; cases e
      rw [if_pos hb16] at e
      refine gs_iast rfl (gd_si (j := z2.toNatClampNeg) rfl (by decide) hb16 rfl) ?_
      obtain ⟨f17, hf17, e⟩ := pn_some e
      refine gs_heap hf17 ?_
      obtain ⟨x18, hx18, e⟩ := pn_some e
      refine gs_iinc1 (x1 := x18) (c := 1) (lv' := [(2, .int x18), (0, .ref 39)]) rfl rfl (by decide) hx18 rfl ?_
      refine gs_goto rfl ?_
      refine gs_drop [1, 0] rfl ?_
      exact ih x18 f17 w0 _ _ e K
set_option maxRecDepth 100000 in
set_option maxHeartbeats 4000000 in
theorem th_X7_settle (L : Nat) (p1 : Nat) (f : pd_M) (g : pd_M) (e : fn_X7_settle p1 f = some g) : pr_C L 6 49 [.ref 39, .ref p1] (hH f) none (hH g) := by
  refine pr_C.of (G := mt_X7_settle) rfl rfl ?_
  show pr_G L 5 mt_X7_settle (0, [(0, .ref 39), (1, .ref p1)], [], hH f) _ _
  unfold fn_X7_settle at e
  by_cases hk1 : sk p1 = (12, 5)
  case neg => rw [if_neg hk1] at e; cases e
  rw [if_pos hk1] at e
  refine gs_aload_n rfl rfl ?_
  refine gs_get rfl (gd_r (b := 40) rfl rfl rfl) ?_
  refine gs_aload_n rfl rfl ?_
  obtain ⟨f1, ec2, e⟩ := ob1_some e
  refine gs_callvV (st := []) rfl (pr_C_le (by decide) (th_X2_become L 40 p1 f f1 ec2)) rfl rfl rfl (by decide) rfl (Or.inr (by decide)) ?_
  refine gs_iconst (x := 0) rfl (by decide) ?_
  refine gs_istore_n (lv' := [(2, .int 0), (0, .ref 39), (1, .ref p1)]) rfl rfl ?_
  refine gs_drop [1, 0] rfl ?_
  obtain ⟨f19, el20, e⟩ := ob1_some e
  refine tl_X7_settle_10 L 5000 0 f1 f19 _ _ el20 ?_
  obtain rfl := inj1 e
  exact gs_vret rfl rfl rfl rfl
def lp_X7_standIns_7 : Nat → Int32 → Int32 → Int32 → Int32 → Int32 → Int32 → pd_M → Option (Int32)
  | 0, _, _, _, _, _, _, _ => none
  | n + 1, z1, z2, z3, z4, z5, z6, f =>
    if (f 40 4) ≤ z6 then
    some (z5)
    else
    if pa_in z6 20 = true then
    ob1 (if (f (48 + z6.toNatClampNeg) 0) = z1 then
    if (f (48 + z6.toNatClampNeg) 1) = z2 then
    if (f (48 + z6.toNatClampNeg) 2) = z3 then
    if (((f (48 + z6.toNatClampNeg) 7) >>> (z4 &&& 31)) &&& 1) = 0 then
    some (z5)
    else
    pn ((z5 &&& (f (48 + z6.toNatClampNeg) 8))) fun x8 =>
    some (x8)
    else
    some (z5)
    else
    some (z5)
    else
    some (z5)) fun (y4 : Int32) =>
    pn (z6 + 1) fun x9 =>
    lp_X7_standIns_7 n z1 z2 z3 z4 y4 x9 f
    else none
def fn_X7_standIns (p1 : Int32) (p2 : Int32) (p3 : Int32) (p4 : Int32) (f : pd_M) : Option (Int32) :=
  ob1 (lp_X7_standIns_7 5000 p1 p2 p3 p4 536870911 0 f) fun y10 =>
  some y10
set_option maxRecDepth 100000 in
set_option maxHeartbeats 4000000 in
theorem tl_X7_standIns_7 (L : Nat) : ∀ (n : Nat) (z1 : Int32) (z2 : Int32) (z3 : Int32) (z4 : Int32) (z5 : Int32) (z6 : Int32) (f : pd_M) (w0 : Int32) (r : Option Value) (h2 : ph_T), lp_X7_standIns_7 n z1 z2 z3 z4 z5 z6 f = some (w0) → pr_G L 0 mt_X7_standIns (84, [(5, .int w0)], [], hH f) r h2 → pr_G L 0 mt_X7_standIns (7, [(0, .ref 39), (1, .int z1), (2, .int z2), (3, .int z3), (4, .int z4), (5, .int z5), (6, .int z6)], [], hH f) r h2 := by
  intro n
  induction n with
  | zero => intro z1 z2 z3 z4 z5 z6 f w0 r h2 e; cases e
  | succ n ih =>
    intro z1 z2 z3 z4 z5 z6 f w0 r h2 e K
    unfold lp_X7_standIns_7 at e
    refine gs_iload rfl rfl ?_
    refine gs_aload_n rfl rfl ?_
    refine gs_get rfl (gd_r (b := 40) rfl rfl rfl) ?_
    refine gs_get rfl (gd_i rfl rfl) ?_
    refine gs_ge2 rfl (fun c1 => ?_) (fun c1 => ?_)
    · rw [if_pos c1] at e
      obtain rfl := inj1 e
      refine gs_drop [5] rfl ?_
      exact K
    · rw [if_neg c1] at e
      refine gs_aload_n rfl rfl ?_
      refine gs_get rfl (gd_r (b := 45) rfl rfl rfl) ?_
      refine gs_iload rfl rfl ?_
      by_cases hb2 : pa_in z6 20 = true
      case neg => rw [if_neg hb2] at e; cases e
      rw [if_pos hb2] at e
      refine gs_aald rfl (gd_aa (b := (48 + z6.toNatClampNeg)) rfl (by decide) rfl hb2 rfl (arr_rf_45 (lt_of_in hb2))) ?_
      refine gs_astore (lv' := [(7, .ref (48 + z6.toNatClampNeg)), (0, .ref 39), (1, .int z1), (2, .int z2), (3, .int z3), (4, .int z4), (5, .int z5), (6, .int z6)]) rfl rfl ?_
      refine gs_aload rfl rfl ?_
      refine gs_get rfl (gd_i (sh_of (arr_sh_45 (lt_of_in hb2)) (by decide)) rfl) ?_
      refine gs_iload_n rfl rfl ?_
      obtain ⟨y4, ev78, e⟩ := ob1_some e
      have KJ78 : pr_G L 0 mt_X7_standIns (78, [(0, .ref 39), (1, .int z1), (2, .int z2), (3, .int z3), (4, .int z4), (5, .int y4), (6, .int z6)], [], hH f) r h2 := by
        obtain ⟨x9, hx9, e⟩ := pn_some e
        refine gs_iinc1 (x1 := x9) (c := 1) (lv' := [(6, .int x9), (0, .ref 39), (1, .int z1), (2, .int z2), (3, .int z3), (4, .int z4), (5, .int y4)]) rfl rfl (by decide) hx9 rfl ?_
        refine gs_goto rfl ?_
        refine gs_drop [1, 2, 3, 4, 5, 6, 0] rfl ?_
        exact ih z1 z2 z3 z4 y4 x9 f w0 _ _ e K
      have e := ev78
      clear ev78
      refine gs_ne2 rfl (fun c3 => ?_) (fun c3 => ?_)
      · rw [if_neg c3] at e
        obtain rfl := inj1 e
        refine gs_drop [1, 2, 3, 4, 5, 6, 7] rfl ?_
        exact KJ78
      · rw [if_pos c3] at e
        refine gs_aload rfl rfl ?_
        refine gs_get rfl (gd_i (sh_of (arr_sh_45 (lt_of_in hb2)) (by decide)) rfl) ?_
        refine gs_iload_n rfl rfl ?_
        refine gs_ne2 rfl (fun c5 => ?_) (fun c5 => ?_)
        · rw [if_neg c5] at e
          obtain rfl := inj1 e
          refine gs_drop [1, 2, 3, 4, 5, 6, 7] rfl ?_
          exact KJ78
        · rw [if_pos c5] at e
          refine gs_aload rfl rfl ?_
          refine gs_get rfl (gd_i (sh_of (arr_sh_45 (lt_of_in hb2)) (by decide)) rfl) ?_
          refine gs_iload_n rfl rfl ?_
          refine gs_ne2 rfl (fun c6 => ?_) (fun c6 => ?_)
          · rw [if_neg c6] at e
            obtain rfl := inj1 e
            refine gs_drop [1, 2, 3, 4, 5, 6, 7] rfl ?_
            exact KJ78
          · rw [if_pos c6] at e
            refine gs_aload rfl rfl ?_
            refine gs_get rfl (gd_i (sh_of (arr_sh_45 (lt_of_in hb2)) (by decide)) rfl) ?_
            refine gs_iload rfl rfl ?_
            refine gs_ishr rfl ?_
            refine gs_iconst (x := 1) rfl (by decide) ?_
            refine gs_iand rfl ?_
            refine gs_eq0 rfl (fun c7 => ?_) (fun c7 => ?_)
            · rw [if_pos c7] at e
              obtain rfl := inj1 e
              refine gs_drop [1, 2, 3, 4, 5, 6, 7] rfl ?_
              exact KJ78
            · rw [if_neg c7] at e
              refine gs_iload rfl rfl ?_
              refine gs_aload rfl rfl ?_
              refine gs_get rfl (gd_i (sh_of (arr_sh_45 (lt_of_in hb2)) (by decide)) rfl) ?_
              refine gs_iand rfl ?_
              obtain ⟨x8, hx8, e⟩ := pn_some e
              refine gs_topi hx8 ?_
              refine gs_istore (lv' := [(5, .int x8), (7, .ref (48 + z6.toNatClampNeg)), (0, .ref 39), (1, .int z1), (2, .int z2), (3, .int z3), (4, .int z4), (6, .int z6)]) rfl rfl ?_
              obtain rfl := inj1 e
              refine gs_drop [2, 3, 4, 5, 6, 0, 7] rfl ?_
              exact KJ78
set_option maxRecDepth 100000 in
set_option maxHeartbeats 4000000 in
theorem th_X7_standIns (L : Nat) (p1 : Int32) (p2 : Int32) (p3 : Int32) (p4 : Int32) (f : pd_M) (q : Int32) (e : fn_X7_standIns p1 p2 p3 p4 f = some q) : pr_C L 1 54 [.ref 39, .int p1, .int p2, .int p3, .int p4] (hH f) (some (.int q)) (hH f) := by
  refine pr_C.of (G := mt_X7_standIns) rfl rfl ?_
  show pr_G L 0 mt_X7_standIns (0, [(0, .ref 39), (1, .int p1), (2, .int p2), (3, .int p3), (4, .int p4)], [], hH f) _ _
  unfold fn_X7_standIns at e
  refine gs_ldc (x := 536870911) rfl (by decide) ?_
  refine gs_istore (lv' := [(5, .int 536870911), (0, .ref 39), (1, .int p1), (2, .int p2), (3, .int p3), (4, .int p4)]) rfl rfl ?_
  refine gs_iconst (x := 0) rfl (by decide) ?_
  refine gs_istore (lv' := [(6, .int 0), (5, .int 536870911), (0, .ref 39), (1, .int p1), (2, .int p2), (3, .int p3), (4, .int p4)]) rfl rfl ?_
  refine gs_drop [2, 3, 4, 5, 6, 1, 0] rfl ?_
  obtain ⟨y10, el11, e⟩ := ob1_some e
  refine tl_X7_standIns_7 L 5000 p1 p2 p3 p4 536870911 0 f y10 _ _ el11 ?_
  refine gs_iload rfl rfl ?_
  obtain rfl := inj1 e
  exact gs_iret rfl rfl rfl rfl rfl
def fn_X7_kindOf (p1 : Int32) (f : pd_M) : Option (Int32) :=
  if pa_in p1 20 = true then
  if pa_in (f (48 + p1.toNatClampNeg) 2) 4 = true then
  if (((f 47 (f (48 + p1.toNatClampNeg) 2).toNatClampNeg) >>> (p1 &&& 31)) &&& 1) = 0 then
  if (f (48 + p1.toNatClampNeg) 8) = 268435456 then
  some 2
  else
  if (f (48 + p1.toNatClampNeg) 5) = 3 then
  if (f (48 + p1.toNatClampNeg) 6) = 0 then
  some 4
  else
  some 1
  else
  some 3
  else
  some 5
  else none
  else none
set_option maxRecDepth 100000 in
set_option maxHeartbeats 4000000 in
theorem th_X7_kindOf (L : Nat) (p1 : Int32) (f : pd_M) (q : Int32) (e : fn_X7_kindOf p1 f = some q) : pr_C L 1 55 [.ref 39, .int p1] (hH f) (some (.int q)) (hH f) := by
  refine pr_C.of (G := mt_X7_kindOf) rfl rfl ?_
  show pr_G L 0 mt_X7_kindOf (0, [(0, .ref 39), (1, .int p1)], [], hH f) _ _
  unfold fn_X7_kindOf at e
  refine gs_aload_n rfl rfl ?_
  refine gs_get rfl (gd_r (b := 45) rfl rfl rfl) ?_
  refine gs_iload_n rfl rfl ?_
  by_cases hb1 : pa_in p1 20 = true
  case neg => rw [if_neg hb1] at e; cases e
  rw [if_pos hb1] at e
  refine gs_aald rfl (gd_aa (b := (48 + p1.toNatClampNeg)) rfl (by decide) rfl hb1 rfl (arr_rf_45 (lt_of_in hb1))) ?_
  refine gs_astore_n (lv' := [(2, .ref (48 + p1.toNatClampNeg)), (0, .ref 39), (1, .int p1)]) rfl rfl ?_
  refine gs_aload_n rfl rfl ?_
  refine gs_get rfl (gd_r (b := 47) rfl rfl rfl) ?_
  refine gs_aload_n rfl rfl ?_
  refine gs_get rfl (gd_i (sh_of (arr_sh_45 (lt_of_in hb1)) (by decide)) rfl) ?_
  by_cases hb2 : pa_in (f (48 + p1.toNatClampNeg) 2) 4 = true
  case neg => rw [if_neg hb2] at e; cases e
  rw [if_pos hb2] at e
  refine gs_iald rfl (gd_ia (j := (f (48 + p1.toNatClampNeg) 2).toNatClampNeg) rfl hb2 rfl) ?_
  refine gs_iload_n rfl rfl ?_
  refine gs_ishr rfl ?_
  refine gs_iconst (x := 1) rfl (by decide) ?_
  refine gs_iand rfl ?_
  refine gs_eq0 rfl (fun c3 => ?_) (fun c3 => ?_)
  · rw [if_pos c3] at e
    refine gs_aload_n rfl rfl ?_
    refine gs_get rfl (gd_i (sh_of (arr_sh_45 (lt_of_in hb1)) (by decide)) rfl) ?_
    refine gs_ldc (x := 268435456) rfl (by decide) ?_
    refine gs_ne2 rfl (fun c4 => ?_) (fun c4 => ?_)
    · rw [if_neg c4] at e
      refine gs_aload_n rfl rfl ?_
      refine gs_get rfl (gd_i (sh_of (arr_sh_45 (lt_of_in hb1)) (by decide)) rfl) ?_
      refine gs_iconst (x := 3) rfl (by decide) ?_
      refine gs_eq2 rfl (fun c5 => ?_) (fun c5 => ?_)
      · rw [if_pos c5] at e
        refine gs_aload_n rfl rfl ?_
        refine gs_get rfl (gd_i (sh_of (arr_sh_45 (lt_of_in hb1)) (by decide)) rfl) ?_
        refine gs_ne0 rfl (fun c6 => ?_) (fun c6 => ?_)
        · rw [if_neg c6] at e
          refine gs_iconst (x := 1) rfl (by decide) ?_
          obtain rfl := inj1 e
          exact gs_iret rfl rfl rfl rfl rfl
        · rw [if_pos c6] at e
          refine gs_iconst (x := 4) rfl (by decide) ?_
          refine gs_goto rfl ?_
          obtain rfl := inj1 e
          exact gs_iret rfl rfl rfl rfl rfl
      · rw [if_neg c5] at e
        refine gs_iconst (x := 3) rfl (by decide) ?_
        obtain rfl := inj1 e
        exact gs_iret rfl rfl rfl rfl rfl
    · rw [if_pos c4] at e
      refine gs_iconst (x := 2) rfl (by decide) ?_
      obtain rfl := inj1 e
      exact gs_iret rfl rfl rfl rfl rfl
  · rw [if_neg c3] at e
    refine gs_iconst (x := 5) rfl (by decide) ?_
    obtain rfl := inj1 e
    exact gs_iret rfl rfl rfl rfl rfl
def lp_X7_countEditions_4 : Nat → Int32 → Int32 → pd_M → Option (Int32)
  | 0, _, _, _ => none
  | n + 1, z1, z2, f =>
    if 4 ≤ z2 then
    some (z1)
    else
    if pa_in z2 4 = true then
    pn ((z1 + (f 41 z2.toNatClampNeg))) fun x3 =>
    pn (z2 + 1) fun x4 =>
    lp_X7_countEditions_4 n x3 x4 f
    else none
def fn_X7_countEditions (f : pd_M) : Option (Int32) :=
  ob1 (lp_X7_countEditions_4 5000 0 0 f) fun y5 =>
  some y5
set_option maxRecDepth 100000 in
set_option maxHeartbeats 4000000 in
theorem tl_X7_countEditions_4 (L : Nat) : ∀ (n : Nat) (z1 : Int32) (z2 : Int32) (f : pd_M) (w0 : Int32) (r : Option Value) (h2 : ph_T), lp_X7_countEditions_4 n z1 z2 f = some (w0) → pr_G L 0 mt_X7_countEditions (27, [(1, .int w0)], [], hH f) r h2 → pr_G L 0 mt_X7_countEditions (4, [(0, .ref 39), (1, .int z1), (2, .int z2)], [], hH f) r h2 := by
  intro n
  induction n with
  | zero => intro z1 z2 f w0 r h2 e; cases e
  | succ n ih =>
    intro z1 z2 f w0 r h2 e K
    unfold lp_X7_countEditions_4 at e
    refine gs_iload_n rfl rfl ?_
    refine gs_iconst (x := 4) rfl (by decide) ?_
    refine gs_ge2 rfl (fun c1 => ?_) (fun c1 => ?_)
    · rw [if_pos c1] at e
      obtain rfl := inj1 e
      refine gs_drop [1] rfl ?_
      exact K
    · rw [if_neg c1] at e
      refine gs_iload_n rfl rfl ?_
      refine gs_aload_n rfl rfl ?_
      refine gs_get rfl (gd_r (b := 40) rfl rfl rfl) ?_
      refine gs_get rfl (gd_r (b := 41) rfl rfl rfl) ?_
      refine gs_iload_n rfl rfl ?_
      by_cases hb2 : pa_in z2 4 = true
      case neg => rw [if_neg hb2] at e; cases e
      rw [if_pos hb2] at e
      refine gs_iald rfl (gd_ia (j := z2.toNatClampNeg) rfl hb2 rfl) ?_
      refine gs_iadd rfl ?_
      obtain ⟨x3, hx3, e⟩ := pn_some e
      refine gs_topi hx3 ?_
      refine gs_istore_n (lv' := [(1, .int x3), (0, .ref 39), (2, .int z2)]) rfl rfl ?_
      obtain ⟨x4, hx4, e⟩ := pn_some e
      refine gs_iinc1 (x1 := x4) (c := 1) (lv' := [(2, .int x4), (1, .int x3), (0, .ref 39)]) rfl rfl (by decide) hx4 rfl ?_
      refine gs_goto rfl ?_
      refine gs_drop [2, 1, 0] rfl ?_
      exact ih x3 x4 f w0 _ _ e K
set_option maxRecDepth 100000 in
set_option maxHeartbeats 4000000 in
theorem th_X7_countEditions (L : Nat)  (f : pd_M) (q : Int32) (e : fn_X7_countEditions f = some q) : pr_C L 1 56 [.ref 39] (hH f) (some (.int q)) (hH f) := by
  refine pr_C.of (G := mt_X7_countEditions) rfl rfl ?_
  show pr_G L 0 mt_X7_countEditions (0, [(0, .ref 39)], [], hH f) _ _
  unfold fn_X7_countEditions at e
  refine gs_iconst (x := 0) rfl (by decide) ?_
  refine gs_istore_n (lv' := [(1, .int 0), (0, .ref 39)]) rfl rfl ?_
  refine gs_iconst (x := 0) rfl (by decide) ?_
  refine gs_istore_n (lv' := [(2, .int 0), (1, .int 0), (0, .ref 39)]) rfl rfl ?_
  refine gs_drop [2, 1, 0] rfl ?_
  obtain ⟨y5, el6, e⟩ := ob1_some e
  refine tl_X7_countEditions_4 L 5000 0 0 f y5 _ _ el6 ?_
  refine gs_iload_n rfl rfl ?_
  obtain rfl := inj1 e
  exact gs_iret rfl rfl rfl rfl rfl
def lp_X7_countKept_11 : Nat → Int32 → Int32 → Int32 → pd_M → Option (Int32)
  | 0, _, _, _, _ => none
  | n + 1, z1, z2, z3, f =>
    if pa_in z2 4 = true then
    if (f 41 z2.toNatClampNeg) ≤ z3 then
    some (z1)
    else
    ob1 (fn_X7_editionOf z2 z3) fun r4 =>
    pn ((z1 ||| (f r4 1))) fun x6 =>
    pn (z3 + 1) fun x7 =>
    lp_X7_countKept_11 n x6 z2 x7 f
    else none
def lp_X7_countKept_4 : Nat → Int32 → Int32 → pd_M → Option (Int32)
  | 0, _, _, _ => none
  | n + 1, z1, z2, f =>
    if 4 ≤ z2 then
    some (z1)
    else
    ob1 (lp_X7_countKept_11 5000 z1 z2 0 f) fun y8 =>
    pn (z2 + 1) fun x10 =>
    lp_X7_countKept_4 n y8 x10 f
def fn_X7_countKept (f : pd_M) : Option (Int32) :=
  ob1 (lp_X7_countKept_4 5000 0 0 f) fun y11 =>
  some (fn_J6_bitCount_0f7a4 y11)
set_option maxRecDepth 100000 in
set_option maxHeartbeats 4000000 in
theorem tl_X7_countKept_11 (L : Nat) : ∀ (n : Nat) (z1 : Int32) (z2 : Int32) (z3 : Int32) (f : pd_M) (w0 : Int32) (r : Option Value) (h2 : ph_T), lp_X7_countKept_11 n z1 z2 z3 f = some (w0) → pr_G L 1 mt_X7_countKept (42, [(0, .ref 39), (1, .int w0), (2, .int z2)], [], hH f) r h2 → pr_G L 1 mt_X7_countKept (11, [(0, .ref 39), (1, .int z1), (2, .int z2), (3, .int z3)], [], hH f) r h2 := by
  intro n
  induction n with
  | zero => intro z1 z2 z3 f w0 r h2 e; cases e
  | succ n ih =>
    intro z1 z2 z3 f w0 r h2 e K
    unfold lp_X7_countKept_11 at e
    refine gs_iload_n rfl rfl ?_
    refine gs_aload_n rfl rfl ?_
    refine gs_get rfl (gd_r (b := 40) rfl rfl rfl) ?_
    refine gs_get rfl (gd_r (b := 41) rfl rfl rfl) ?_
    refine gs_iload_n rfl rfl ?_
    by_cases hb2 : pa_in z2 4 = true
    case neg => rw [if_neg hb2] at e; cases e
    rw [if_pos hb2] at e
    refine gs_iald rfl (gd_ia (j := z2.toNatClampNeg) rfl hb2 rfl) ?_
    refine gs_ge2 rfl (fun c3 => ?_) (fun c3 => ?_)
    · rw [if_pos c3] at e
      obtain rfl := inj1 e
      refine gs_drop [0, 1, 2] rfl ?_
      exact K
    · rw [if_neg c3] at e
      refine gs_iload_n rfl rfl ?_
      refine gs_aload_n rfl rfl ?_
      refine gs_iload_n rfl rfl ?_
      refine gs_iload_n rfl rfl ?_
      obtain ⟨r4, ec5, e⟩ := ob1_some e
      refine gs_callvR (st := [.int z1]) rfl (pr_C_le (by decide) (th_X7_editionOf L z2 z3 f r4 ec5)) rfl rfl rfl (by decide) rfl (Or.inr (by decide)) ?_
      refine gs_get rfl (gd_i (sh_of (fnk_X7_editionOf ec5) (by decide)) rfl) ?_
      refine gs_ior rfl ?_
      obtain ⟨x6, hx6, e⟩ := pn_some e
      refine gs_topi hx6 ?_
      refine gs_istore_n (lv' := [(1, .int x6), (0, .ref 39), (2, .int z2), (3, .int z3)]) rfl rfl ?_
      obtain ⟨x7, hx7, e⟩ := pn_some e
      refine gs_iinc1 (x1 := x7) (c := 1) (lv' := [(3, .int x7), (1, .int x6), (0, .ref 39), (2, .int z2)]) rfl rfl (by decide) hx7 rfl ?_
      refine gs_goto rfl ?_
      refine gs_drop [2, 1, 3, 0] rfl ?_
      exact ih x6 z2 x7 f w0 _ _ e K
set_option maxRecDepth 100000 in
set_option maxHeartbeats 4000000 in
theorem tl_X7_countKept_4 (L : Nat) : ∀ (n : Nat) (z1 : Int32) (z2 : Int32) (f : pd_M) (w0 : Int32) (r : Option Value) (h2 : ph_T), lp_X7_countKept_4 n z1 z2 f = some (w0) → pr_G L 1 mt_X7_countKept (48, [(1, .int w0)], [], hH f) r h2 → pr_G L 1 mt_X7_countKept (4, [(0, .ref 39), (1, .int z1), (2, .int z2)], [], hH f) r h2 := by
  intro n
  induction n with
  | zero => intro z1 z2 f w0 r h2 e; cases e
  | succ n ih =>
    intro z1 z2 f w0 r h2 e K
    unfold lp_X7_countKept_4 at e
    refine gs_iload_n rfl rfl ?_
    refine gs_iconst (x := 4) rfl (by decide) ?_
    refine gs_ge2 rfl (fun c1 => ?_) (fun c1 => ?_)
    · rw [if_pos c1] at e
      obtain rfl := inj1 e
      refine gs_drop [1] rfl ?_
      exact K
    · rw [if_neg c1] at e
      refine gs_iconst (x := 0) rfl (by decide) ?_
      refine gs_istore_n (lv' := [(3, .int 0), (0, .ref 39), (1, .int z1), (2, .int z2)]) rfl rfl ?_
      refine gs_drop [1, 2, 3, 0] rfl ?_
      obtain ⟨y8, el9, e⟩ := ob1_some e
      refine tl_X7_countKept_11 L 5000 z1 z2 0 f y8 _ _ el9 ?_
      obtain ⟨x10, hx10, e⟩ := pn_some e
      refine gs_iinc1 (x1 := x10) (c := 1) (lv' := [(2, .int x10), (0, .ref 39), (1, .int y8)]) rfl rfl (by decide) hx10 rfl ?_
      refine gs_goto rfl ?_
      refine gs_drop [1, 2, 0] rfl ?_
      exact ih y8 x10 f w0 _ _ e K
set_option maxRecDepth 100000 in
set_option maxHeartbeats 4000000 in
theorem th_X7_countKept (L : Nat)  (f : pd_M) (q : Int32) (e : fn_X7_countKept f = some q) : pr_C L 2 57 [.ref 39] (hH f) (some (.int q)) (hH f) := by
  refine pr_C.of (G := mt_X7_countKept) rfl rfl ?_
  show pr_G L 1 mt_X7_countKept (0, [(0, .ref 39)], [], hH f) _ _
  unfold fn_X7_countKept at e
  refine gs_iconst (x := 0) rfl (by decide) ?_
  refine gs_istore_n (lv' := [(1, .int 0), (0, .ref 39)]) rfl rfl ?_
  refine gs_iconst (x := 0) rfl (by decide) ?_
  refine gs_istore_n (lv' := [(2, .int 0), (1, .int 0), (0, .ref 39)]) rfl rfl ?_
  refine gs_drop [2, 1, 0] rfl ?_
  obtain ⟨y11, el12, e⟩ := ob1_some e
  refine tl_X7_countKept_4 L 5000 0 0 f y11 _ _ el12 ?_
  refine gs_iload_n rfl rfl ?_
  refine gs_callsI (st := []) rfl (pr_C_le (by decide) (th_J6_bitCount_0f7a4 L y11 f _ rfl)) rfl rfl rfl (by decide) ?_
  obtain rfl := inj1 e
  exact gs_iret rfl rfl rfl rfl rfl
def lp_X7_countWithin_4 : Nat → Int32 → Int32 → pd_M → Option (Int32)
  | 0, _, _, _ => none
  | n + 1, z1, z2, f =>
    if 4 ≤ z2 then
    some (z1)
    else
    if pa_in z2 4 = true then
    ob1 (if (f 43 z2.toNatClampNeg) = (-1000000) then
    some (z1)
    else
    pn (z1 + 1) fun x5 =>
    some (x5)) fun (y4 : Int32) =>
    pn (z2 + 1) fun x6 =>
    lp_X7_countWithin_4 n y4 x6 f
    else none
def fn_X7_countWithin (f : pd_M) : Option (Int32) :=
  ob1 (lp_X7_countWithin_4 5000 0 0 f) fun y7 =>
  some y7
set_option maxRecDepth 100000 in
set_option maxHeartbeats 4000000 in
theorem tl_X7_countWithin_4 (L : Nat) : ∀ (n : Nat) (z1 : Int32) (z2 : Int32) (f : pd_M) (w0 : Int32) (r : Option Value) (h2 : ph_T), lp_X7_countWithin_4 n z1 z2 f = some (w0) → pr_G L 0 mt_X7_countWithin (32, [(1, .int w0)], [], hH f) r h2 → pr_G L 0 mt_X7_countWithin (4, [(0, .ref 39), (1, .int z1), (2, .int z2)], [], hH f) r h2 := by
  intro n
  induction n with
  | zero => intro z1 z2 f w0 r h2 e; cases e
  | succ n ih =>
    intro z1 z2 f w0 r h2 e K
    unfold lp_X7_countWithin_4 at e
    refine gs_iload_n rfl rfl ?_
    refine gs_iconst (x := 4) rfl (by decide) ?_
    refine gs_ge2 rfl (fun c1 => ?_) (fun c1 => ?_)
    · rw [if_pos c1] at e
      obtain rfl := inj1 e
      refine gs_drop [1] rfl ?_
      exact K
    · rw [if_neg c1] at e
      refine gs_aload_n rfl rfl ?_
      refine gs_get rfl (gd_r (b := 40) rfl rfl rfl) ?_
      refine gs_get rfl (gd_r (b := 43) rfl rfl rfl) ?_
      refine gs_iload_n rfl rfl ?_
      by_cases hb2 : pa_in z2 4 = true
      case neg => rw [if_neg hb2] at e; cases e
      rw [if_pos hb2] at e
      refine gs_iald rfl (gd_ia (j := z2.toNatClampNeg) rfl hb2 rfl) ?_
      refine gs_ldc (x := (-1000000)) rfl (by decide) ?_
      obtain ⟨y4, ev26, e⟩ := ob1_some e
      have KJ26 : pr_G L 0 mt_X7_countWithin (26, [(0, .ref 39), (1, .int y4), (2, .int z2)], [], hH f) r h2 := by
        obtain ⟨x6, hx6, e⟩ := pn_some e
        refine gs_iinc1 (x1 := x6) (c := 1) (lv' := [(2, .int x6), (0, .ref 39), (1, .int y4)]) rfl rfl (by decide) hx6 rfl ?_
        refine gs_goto rfl ?_
        refine gs_drop [1, 2, 0] rfl ?_
        exact ih y4 x6 f w0 _ _ e K
      have e := ev26
      clear ev26
      refine gs_eq2 rfl (fun c3 => ?_) (fun c3 => ?_)
      · rw [if_pos c3] at e
        obtain rfl := inj1 e
        refine gs_drop [0, 1, 2] rfl ?_
        exact KJ26
      · rw [if_neg c3] at e
        obtain ⟨x5, hx5, e⟩ := pn_some e
        refine gs_iinc1 (x1 := x5) (c := 1) (lv' := [(1, .int x5), (0, .ref 39), (2, .int z2)]) rfl rfl (by decide) hx5 rfl ?_
        obtain rfl := inj1 e
        refine gs_drop [1, 0, 2] rfl ?_
        exact KJ26
set_option maxRecDepth 100000 in
set_option maxHeartbeats 4000000 in
theorem th_X7_countWithin (L : Nat)  (f : pd_M) (q : Int32) (e : fn_X7_countWithin f = some q) : pr_C L 1 58 [.ref 39] (hH f) (some (.int q)) (hH f) := by
  refine pr_C.of (G := mt_X7_countWithin) rfl rfl ?_
  show pr_G L 0 mt_X7_countWithin (0, [(0, .ref 39)], [], hH f) _ _
  unfold fn_X7_countWithin at e
  refine gs_iconst (x := 0) rfl (by decide) ?_
  refine gs_istore_n (lv' := [(1, .int 0), (0, .ref 39)]) rfl rfl ?_
  refine gs_iconst (x := 0) rfl (by decide) ?_
  refine gs_istore_n (lv' := [(2, .int 0), (1, .int 0), (0, .ref 39)]) rfl rfl ?_
  refine gs_drop [2, 1, 0] rfl ?_
  obtain ⟨y7, el8, e⟩ := ob1_some e
  refine tl_X7_countWithin_4 L 5000 0 0 f y7 _ _ el8 ?_
  refine gs_iload_n rfl rfl ?_
  obtain rfl := inj1 e
  exact gs_iret rfl rfl rfl rfl rfl
def fn_X8_well (p1 : Int32) (f : pd_M) : Option (Int32 × pd_M) :=
  pn ((pi_up f 17 8 0)) fun f1 =>
  some (p1, f1)
set_option maxRecDepth 100000 in
set_option maxHeartbeats 4000000 in
theorem th_X8_well (L : Nat) (p1 : Int32) (f : pd_M) (q : Int32) (g : pd_M) (e : fn_X8_well p1 f = some (q, g)) : pr_C L 1 87 [.ref 17, .int p1] (hH f) (some (.int q)) (hH g) := by
  refine pr_C.of (G := mt_X8_well) rfl rfl ?_
  show pr_G L 0 mt_X8_well (0, [(0, .ref 17), (1, .int p1)], [], hH f) _ _
  unfold fn_X8_well at e
  refine gs_aload_n rfl rfl ?_
  refine gs_iconst (x := 0) rfl (by decide) ?_
  refine gs_put rfl (gd_pi rfl rfl) ?_
  obtain ⟨f1, hf1, e⟩ := pn_some e
  refine gs_heap hf1 ?_
  refine gs_iload_n rfl rfl ?_
  obtain ⟨rfl, rfl⟩ := inj2 e
  exact gs_iret rfl rfl rfl rfl rfl
def fn_X8_found (p1 : Int32) (f : pd_M) : Option (Int32 × pd_M) :=
  pn ((pi_up f 17 8 p1)) fun f1 =>
  some (((-1000010) - p1), f1)
set_option maxRecDepth 100000 in
set_option maxHeartbeats 4000000 in
theorem th_X8_found (L : Nat) (p1 : Int32) (f : pd_M) (q : Int32) (g : pd_M) (e : fn_X8_found p1 f = some (q, g)) : pr_C L 1 86 [.ref 17, .int p1] (hH f) (some (.int q)) (hH g) := by
  refine pr_C.of (G := mt_X8_found) rfl rfl ?_
  show pr_G L 0 mt_X8_found (0, [(0, .ref 17), (1, .int p1)], [], hH f) _ _
  unfold fn_X8_found at e
  refine gs_aload_n rfl rfl ?_
  refine gs_iload_n rfl rfl ?_
  refine gs_put rfl (gd_pi rfl rfl) ?_
  obtain ⟨f1, hf1, e⟩ := pn_some e
  refine gs_heap hf1 ?_
  refine gs_ldc_w (x := (-1000010)) rfl (by decide) ?_
  refine gs_iload_n rfl rfl ?_
  refine gs_isub rfl ?_
  obtain ⟨rfl, rfl⟩ := inj2 e
  exact gs_iret rfl rfl rfl rfl rfl
def fn_X8_sheet (p1 : Int32) (p2 : Int32) (p3 : Int32) (f : pd_M) : Option (Int32 × pd_M) :=
  if (fn_X8_isBelow p1 8) = 0 then
  some ((-1000001), f)
  else
  if (fn_X8_isBelow p2 3) = 0 then
  some ((-1000001), f)
  else
  if p3 ≤ 40 then
  if 0 ≤ p3 then
  if pa_in p1 8 = true then
  ob1 (fn_X5_begin (19 + 2 * p1.toNatClampNeg) p2 p3 f) fun f6 =>
  ob2 (fn_X8_well p3 f6) fun r8 f9 =>
  some (r8, f9)
  else none
  else
  ob2 (fn_X8_found 4 f) fun r11 f12 =>
  some (r11, f12)
  else
  some ((-1000001), f)
set_option maxRecDepth 100000 in
set_option maxHeartbeats 4000000 in
theorem th_X8_sheet (L : Nat) (p1 : Int32) (p2 : Int32) (p3 : Int32) (f : pd_M) (q : Int32) (g : pd_M) (e : fn_X8_sheet p1 p2 p3 f = some (q, g)) : pr_C L 2 60 [.ref 17, .int p1, .int p2, .int p3] (hH f) (some (.int q)) (hH g) := by
  refine pr_C.of (G := mt_X8_sheet) rfl rfl ?_
  show pr_G L 1 mt_X8_sheet (0, [(0, .ref 17), (1, .int p1), (2, .int p2), (3, .int p3)], [], hH f) _ _
  unfold fn_X8_sheet at e
  refine gs_iload_n rfl rfl ?_
  refine gs_bipush (x := 8) rfl (by decide) ?_
  refine gs_callsI (st := []) rfl (pr_C_le (by decide) (th_X8_isBelow L p1 8 f _ rfl)) rfl rfl rfl (by decide) ?_
  refine gs_eq0 rfl (fun c1 => ?_) (fun c1 => ?_)
  · rw [if_pos c1] at e
    refine gs_ldc (x := (-1000001)) rfl (by decide) ?_
    obtain ⟨rfl, rfl⟩ := inj2 e
    exact gs_iret rfl rfl rfl rfl rfl
  · rw [if_neg c1] at e
    refine gs_iload_n rfl rfl ?_
    refine gs_iconst (x := 3) rfl (by decide) ?_
    refine gs_callsI (st := []) rfl (pr_C_le (by decide) (th_X8_isBelow L p2 3 f _ rfl)) rfl rfl rfl (by decide) ?_
    refine gs_eq0 rfl (fun c2 => ?_) (fun c2 => ?_)
    · rw [if_pos c2] at e
      refine gs_ldc (x := (-1000001)) rfl (by decide) ?_
      obtain ⟨rfl, rfl⟩ := inj2 e
      exact gs_iret rfl rfl rfl rfl rfl
    · rw [if_neg c2] at e
      refine gs_iload_n rfl rfl ?_
      refine gs_bipush (x := 40) rfl (by decide) ?_
      refine gs_le2 rfl (fun c3 => ?_) (fun c3 => ?_)
      · rw [if_pos c3] at e
        refine gs_iload_n rfl rfl ?_
        refine gs_ge0 rfl (fun c4 => ?_) (fun c4 => ?_)
        · rw [if_pos c4] at e
          refine gs_aload_n rfl rfl ?_
          refine gs_get rfl (gd_r (b := 18) rfl rfl rfl) ?_
          refine gs_iload_n rfl rfl ?_
          by_cases hb5 : pa_in p1 8 = true
          case neg => rw [if_neg hb5] at e; cases e
          rw [if_pos hb5] at e
          refine gs_aald rfl (gd_aa (b := (19 + 2 * p1.toNatClampNeg)) rfl (by decide) rfl hb5 rfl (arr_rf_18 (lt_of_in hb5))) ?_
          refine gs_iload_n rfl rfl ?_
          refine gs_iload_n rfl rfl ?_
          obtain ⟨f6, ec7, e⟩ := ob1_some e
          refine gs_callvV (st := []) rfl (pr_C_le (by decide) (th_X5_begin L (19 + 2 * p1.toNatClampNeg) p2 p3 f f6 ec7)) rfl rfl rfl (by decide) (by rw [(sh_of (arr_sh_18 (lt_of_in hb5)) (by decide))]; rfl) (Or.inr (by decide)) ?_
          refine gs_aload_n rfl rfl ?_
          refine gs_iload_n rfl rfl ?_
          obtain ⟨r8, f9, ec10, e⟩ := ob2_some e
          refine gs_callvI (st := []) rfl (pr_C_le (by decide) (th_X8_well L p3 f6 r8 f9 ec10)) rfl rfl rfl (by decide) rfl (Or.inr (by decide)) ?_
          obtain ⟨rfl, rfl⟩ := inj2 e
          exact gs_iret rfl rfl rfl rfl rfl
        · rw [if_neg c4] at e
          refine gs_aload_n rfl rfl ?_
          refine gs_iconst (x := 4) rfl (by decide) ?_
          obtain ⟨r11, f12, ec13, e⟩ := ob2_some e
          refine gs_callvI (st := []) rfl (pr_C_le (by decide) (th_X8_found L 4 f r11 f12 ec13)) rfl rfl rfl (by decide) rfl (Or.inr (by decide)) ?_
          obtain ⟨rfl, rfl⟩ := inj2 e
          exact gs_iret rfl rfl rfl rfl rfl
      · rw [if_neg c3] at e
        refine gs_ldc (x := (-1000001)) rfl (by decide) ?_
        obtain ⟨rfl, rfl⟩ := inj2 e
        exact gs_iret rfl rfl rfl rfl rfl
def fn_X8_set (p1 : Int32) (p2 : Int32) (p3 : Int32) (f : pd_M) : Option (Int32 × pd_M) :=
  if (fn_X8_isBelow p1 8) = 0 then
  some ((-1000001), f)
  else
  if pa_in p1 8 = true then
  if (f (19 + 2 * p1.toNatClampNeg) 1) = 0 then
  ob2 (fn_X8_found 1 f) fun r16 f17 =>
  some (r16, f17)
  else
  if (fn_X8_isBelow p2 (f (19 + 2 * p1.toNatClampNeg) 3)) = 0 then
  ob2 (fn_X8_found 2 f) fun r13 f14 =>
  some (r13, f14)
  else
  ob1 (fn_X5_cut (19 + 2 * p1.toNatClampNeg) p3 f) fun r5 =>
  if pa_in p2 40 = true then
  pn ((pi_up f ((19 + 2 * p1.toNatClampNeg) + 1) (p2.toNatClampNeg) r5)) fun f8 =>
  if pa_in p2 40 = true then
  ob2 (fn_X8_well (f8 ((19 + 2 * p1.toNatClampNeg) + 1) p2.toNatClampNeg) f8) fun r10 f11 =>
  some (r10, f11)
  else none
  else none
  else none
set_option maxRecDepth 100000 in
set_option maxHeartbeats 4000000 in
theorem th_X8_set (L : Nat) (p1 : Int32) (p2 : Int32) (p3 : Int32) (f : pd_M) (q : Int32) (g : pd_M) (e : fn_X8_set p1 p2 p3 f = some (q, g)) : pr_C L 2 61 [.ref 17, .int p1, .int p2, .int p3] (hH f) (some (.int q)) (hH g) := by
  refine pr_C.of (G := mt_X8_set) rfl rfl ?_
  show pr_G L 1 mt_X8_set (0, [(0, .ref 17), (1, .int p1), (2, .int p2), (3, .int p3)], [], hH f) _ _
  unfold fn_X8_set at e
  refine gs_iload_n rfl rfl ?_
  refine gs_bipush (x := 8) rfl (by decide) ?_
  refine gs_callsI (st := []) rfl (pr_C_le (by decide) (th_X8_isBelow L p1 8 f _ rfl)) rfl rfl rfl (by decide) ?_
  refine gs_ne0 rfl (fun c1 => ?_) (fun c1 => ?_)
  · rw [if_neg c1] at e
    refine gs_aload_n rfl rfl ?_
    refine gs_get rfl (gd_r (b := 18) rfl rfl rfl) ?_
    refine gs_iload_n rfl rfl ?_
    by_cases hb2 : pa_in p1 8 = true
    case neg => rw [if_neg hb2] at e; cases e
    rw [if_pos hb2] at e
    refine gs_aald rfl (gd_aa (b := (19 + 2 * p1.toNatClampNeg)) rfl (by decide) rfl hb2 rfl (arr_rf_18 (lt_of_in hb2))) ?_
    refine gs_astore (lv' := [(4, .ref (19 + 2 * p1.toNatClampNeg)), (0, .ref 17), (1, .int p1), (2, .int p2), (3, .int p3)]) rfl rfl ?_
    refine gs_aload rfl rfl ?_
    refine gs_get rfl (gd_i (sh_of (arr_sh_18 (lt_of_in hb2)) (by decide)) rfl) ?_
    refine gs_ne0 rfl (fun c3 => ?_) (fun c3 => ?_)
    · rw [if_neg c3] at e
      refine gs_iload_n rfl rfl ?_
      refine gs_aload rfl rfl ?_
      refine gs_get rfl (gd_i (sh_of (arr_sh_18 (lt_of_in hb2)) (by decide)) rfl) ?_
      refine gs_callsI (st := []) rfl (pr_C_le (by decide) (th_X8_isBelow L p2 (f (19 + 2 * p1.toNatClampNeg) 3) f _ rfl)) rfl rfl rfl (by decide) ?_
      refine gs_ne0 rfl (fun c4 => ?_) (fun c4 => ?_)
      · rw [if_neg c4] at e
        refine gs_aload rfl rfl ?_
        refine gs_get rfl (gd_r (b := ((19 + 2 * p1.toNatClampNeg) + 1)) (sh_of (arr_sh_18 (lt_of_in hb2)) (by decide)) rfl (ref_15_0 (arr_sh_18 (lt_of_in hb2)))) ?_
        refine gs_iload_n rfl rfl ?_
        refine gs_aload rfl rfl ?_
        refine gs_iload_n rfl rfl ?_
        obtain ⟨r5, ec6, e⟩ := ob1_some e
        refine gs_callvI (st := [.int p2, .ref ((19 + 2 * p1.toNatClampNeg) + 1)]) rfl (pr_C_le (by decide) (th_X5_cut L (19 + 2 * p1.toNatClampNeg) p3 f r5 ec6)) rfl rfl rfl (by decide) (by rw [(sh_of (arr_sh_18 (lt_of_in hb2)) (by decide))]; rfl) (Or.inr (by decide)) ?_
        by_cases hb7 : pa_in p2 40 = true
        case neg => rw [if_neg hb7] at e; cases e
        rw [if_pos hb7] at e
        refine gs_iast rfl (gd_si (j := p2.toNatClampNeg) (sh_of (fam_15_0 (arr_sh_18 (lt_of_in hb2))) (by decide)) (ge_of (fam_15_0 (arr_sh_18 (lt_of_in hb2))) (by decide)) hb7 rfl) ?_
        obtain ⟨f8, hf8, e⟩ := pn_some e
        refine gs_heap hf8 ?_
        refine gs_aload_n rfl rfl ?_
        refine gs_aload rfl rfl ?_
        refine gs_get rfl (gd_r (b := ((19 + 2 * p1.toNatClampNeg) + 1)) (sh_of (arr_sh_18 (lt_of_in hb2)) (by decide)) rfl (ref_15_0 (arr_sh_18 (lt_of_in hb2)))) ?_
        refine gs_iload_n rfl rfl ?_
        by_cases hb9 : pa_in p2 40 = true
        case neg => rw [if_neg hb9] at e; cases e
        rw [if_pos hb9] at e
        refine gs_iald rfl (gd_ia (j := p2.toNatClampNeg) (sh_of (fam_15_0 (arr_sh_18 (lt_of_in hb2))) (by decide)) hb9 rfl) ?_
        obtain ⟨r10, f11, ec12, e⟩ := ob2_some e
        refine gs_callvI (st := []) rfl (pr_C_le (by decide) (th_X8_well L (f8 ((19 + 2 * p1.toNatClampNeg) + 1) p2.toNatClampNeg) f8 r10 f11 ec12)) rfl rfl rfl (by decide) rfl (Or.inr (by decide)) ?_
        obtain ⟨rfl, rfl⟩ := inj2 e
        exact gs_iret rfl rfl rfl rfl rfl
      · rw [if_pos c4] at e
        refine gs_aload_n rfl rfl ?_
        refine gs_iconst (x := 2) rfl (by decide) ?_
        obtain ⟨r13, f14, ec15, e⟩ := ob2_some e
        refine gs_callvI (st := []) rfl (pr_C_le (by decide) (th_X8_found L 2 f r13 f14 ec15)) rfl rfl rfl (by decide) rfl (Or.inr (by decide)) ?_
        obtain ⟨rfl, rfl⟩ := inj2 e
        exact gs_iret rfl rfl rfl rfl rfl
    · rw [if_pos c3] at e
      refine gs_aload_n rfl rfl ?_
      refine gs_iconst (x := 1) rfl (by decide) ?_
      obtain ⟨r16, f17, ec18, e⟩ := ob2_some e
      refine gs_callvI (st := []) rfl (pr_C_le (by decide) (th_X8_found L 1 f r16 f17 ec18)) rfl rfl rfl (by decide) rfl (Or.inr (by decide)) ?_
      obtain ⟨rfl, rfl⟩ := inj2 e
      exact gs_iret rfl rfl rfl rfl rfl
  · rw [if_pos c1] at e
    refine gs_ldc (x := (-1000001)) rfl (by decide) ?_
    obtain ⟨rfl, rfl⟩ := inj2 e
    exact gs_iret rfl rfl rfl rfl rfl
def fn_X8_copy (p1 : Int32) (p2 : Int32) (p3 : Int32) (p4 : Int32) (p5 : Int32) (f : pd_M) : Option (Int32 × pd_M) :=
  if (fn_X8_isBelow p1 8) = 0 then
  some ((-1000001), f)
  else
  if (fn_X8_isBelow p3 8) = 0 then
  some ((-1000001), f)
  else
  if pa_in p1 8 = true then
  if pa_in p3 8 = true then
  if (f (19 + 2 * p1.toNatClampNeg) 1) = 0 then
  ob2 (fn_X8_found 1 f) fun r6 f7 =>
  some (r6, f7)
  else
  if (f (19 + 2 * p3.toNatClampNeg) 1) = 0 then
  ob2 (fn_X8_found 1 f) fun r31 f32 =>
  some (r31, f32)
  else
  if (f (19 + 2 * p1.toNatClampNeg) 2) = (f (19 + 2 * p3.toNatClampNeg) 2) then
  ob1 (fn_X5_reaches (19 + 2 * p1.toNatClampNeg) p2 p5 f) fun r11 =>
  if r11 = 0 then
  ob2 (fn_X8_found 2 f) fun r14 f15 =>
  some (r14, f15)
  else
  ob1 (fn_X5_reaches (19 + 2 * p3.toNatClampNeg) p4 p5 f) fun r17 =>
  if r17 = 0 then
  ob2 (fn_X8_found 2 f) fun r25 f26 =>
  some (r25, f26)
  else
  if pd_cp p2 p4 p5 40 40 = true then
  pn ((pi_row f ((19 + 2 * p3.toNatClampNeg) + 1) (va_cpy (f ((19 + 2 * p1.toNatClampNeg) + 1)) (f ((19 + 2 * p3.toNatClampNeg) + 1)) (p2).toNatClampNeg (p4).toNatClampNeg (p5).toNatClampNeg))) fun f21 =>
  ob2 (fn_X8_well p5 f21) fun r22 f23 =>
  some (r22, f23)
  else none
  else
  ob2 (fn_X8_found 5 f) fun r28 f29 =>
  some (r28, f29)
  else none
  else none
set_option maxRecDepth 100000 in
set_option maxHeartbeats 4000000 in
theorem th_X8_copy (L : Nat) (p1 : Int32) (p2 : Int32) (p3 : Int32) (p4 : Int32) (p5 : Int32) (f : pd_M) (q : Int32) (g : pd_M) (e : fn_X8_copy p1 p2 p3 p4 p5 f = some (q, g)) : pr_C L 2 62 [.ref 17, .int p1, .int p2, .int p3, .int p4, .int p5] (hH f) (some (.int q)) (hH g) := by
  refine pr_C.of (G := mt_X8_copy) rfl rfl ?_
  show pr_G L 1 mt_X8_copy (0, [(0, .ref 17), (1, .int p1), (2, .int p2), (3, .int p3), (4, .int p4), (5, .int p5)], [], hH f) _ _
  unfold fn_X8_copy at e
  refine gs_iload_n rfl rfl ?_
  refine gs_bipush (x := 8) rfl (by decide) ?_
  refine gs_callsI (st := []) rfl (pr_C_le (by decide) (th_X8_isBelow L p1 8 f _ rfl)) rfl rfl rfl (by decide) ?_
  refine gs_eq0 rfl (fun c1 => ?_) (fun c1 => ?_)
  · rw [if_pos c1] at e
    refine gs_ldc (x := (-1000001)) rfl (by decide) ?_
    obtain ⟨rfl, rfl⟩ := inj2 e
    exact gs_iret rfl rfl rfl rfl rfl
  · rw [if_neg c1] at e
    refine gs_iload_n rfl rfl ?_
    refine gs_bipush (x := 8) rfl (by decide) ?_
    refine gs_callsI (st := []) rfl (pr_C_le (by decide) (th_X8_isBelow L p3 8 f _ rfl)) rfl rfl rfl (by decide) ?_
    refine gs_ne0 rfl (fun c2 => ?_) (fun c2 => ?_)
    · rw [if_neg c2] at e
      refine gs_aload_n rfl rfl ?_
      refine gs_get rfl (gd_r (b := 18) rfl rfl rfl) ?_
      refine gs_iload_n rfl rfl ?_
      by_cases hb3 : pa_in p1 8 = true
      case neg => rw [if_neg hb3] at e; cases e
      rw [if_pos hb3] at e
      refine gs_aald rfl (gd_aa (b := (19 + 2 * p1.toNatClampNeg)) rfl (by decide) rfl hb3 rfl (arr_rf_18 (lt_of_in hb3))) ?_
      refine gs_astore (lv' := [(6, .ref (19 + 2 * p1.toNatClampNeg)), (0, .ref 17), (1, .int p1), (2, .int p2), (3, .int p3), (4, .int p4), (5, .int p5)]) rfl rfl ?_
      refine gs_aload_n rfl rfl ?_
      refine gs_get rfl (gd_r (b := 18) rfl rfl rfl) ?_
      refine gs_iload_n rfl rfl ?_
      by_cases hb4 : pa_in p3 8 = true
      case neg => rw [if_neg hb4] at e; cases e
      rw [if_pos hb4] at e
      refine gs_aald rfl (gd_aa (b := (19 + 2 * p3.toNatClampNeg)) rfl (by decide) rfl hb4 rfl (arr_rf_18 (lt_of_in hb4))) ?_
      refine gs_astore (lv' := [(7, .ref (19 + 2 * p3.toNatClampNeg)), (6, .ref (19 + 2 * p1.toNatClampNeg)), (0, .ref 17), (1, .int p1), (2, .int p2), (3, .int p3), (4, .int p4), (5, .int p5)]) rfl rfl ?_
      refine gs_aload rfl rfl ?_
      refine gs_get rfl (gd_i (sh_of (arr_sh_18 (lt_of_in hb3)) (by decide)) rfl) ?_
      refine gs_eq0 rfl (fun c5 => ?_) (fun c5 => ?_)
      · rw [if_pos c5] at e
        refine gs_aload_n rfl rfl ?_
        refine gs_iconst (x := 1) rfl (by decide) ?_
        obtain ⟨r6, f7, ec8, e⟩ := ob2_some e
        refine gs_callvI (st := []) rfl (pr_C_le (by decide) (th_X8_found L 1 f r6 f7 ec8)) rfl rfl rfl (by decide) rfl (Or.inr (by decide)) ?_
        obtain ⟨rfl, rfl⟩ := inj2 e
        exact gs_iret rfl rfl rfl rfl rfl
      · rw [if_neg c5] at e
        refine gs_aload rfl rfl ?_
        refine gs_get rfl (gd_i (sh_of (arr_sh_18 (lt_of_in hb4)) (by decide)) rfl) ?_
        refine gs_ne0 rfl (fun c9 => ?_) (fun c9 => ?_)
        · rw [if_neg c9] at e
          refine gs_aload rfl rfl ?_
          refine gs_get rfl (gd_i (sh_of (arr_sh_18 (lt_of_in hb3)) (by decide)) rfl) ?_
          refine gs_aload rfl rfl ?_
          refine gs_get rfl (gd_i (sh_of (arr_sh_18 (lt_of_in hb4)) (by decide)) rfl) ?_
          refine gs_eq2 rfl (fun c10 => ?_) (fun c10 => ?_)
          · rw [if_pos c10] at e
            refine gs_aload rfl rfl ?_
            refine gs_iload_n rfl rfl ?_
            refine gs_iload rfl rfl ?_
            obtain ⟨r11, ec12, e⟩ := ob1_some e
            refine gs_callvI (st := []) rfl (pr_C_le (by decide) (th_X5_reaches L (19 + 2 * p1.toNatClampNeg) p2 p5 f r11 ec12)) rfl rfl rfl (by decide) (by rw [(sh_of (arr_sh_18 (lt_of_in hb3)) (by decide))]; rfl) (Or.inr (by decide)) ?_
            refine gs_eq0 rfl (fun c13 => ?_) (fun c13 => ?_)
            · rw [if_pos c13] at e
              refine gs_aload_n rfl rfl ?_
              refine gs_iconst (x := 2) rfl (by decide) ?_
              obtain ⟨r14, f15, ec16, e⟩ := ob2_some e
              refine gs_callvI (st := []) rfl (pr_C_le (by decide) (th_X8_found L 2 f r14 f15 ec16)) rfl rfl rfl (by decide) rfl (Or.inr (by decide)) ?_
              obtain ⟨rfl, rfl⟩ := inj2 e
              exact gs_iret rfl rfl rfl rfl rfl
            · rw [if_neg c13] at e
              refine gs_aload rfl rfl ?_
              refine gs_iload rfl rfl ?_
              refine gs_iload rfl rfl ?_
              obtain ⟨r17, ec18, e⟩ := ob1_some e
              refine gs_callvI (st := []) rfl (pr_C_le (by decide) (th_X5_reaches L (19 + 2 * p3.toNatClampNeg) p4 p5 f r17 ec18)) rfl rfl rfl (by decide) (by rw [(sh_of (arr_sh_18 (lt_of_in hb4)) (by decide))]; rfl) (Or.inr (by decide)) ?_
              refine gs_ne0 rfl (fun c19 => ?_) (fun c19 => ?_)
              · rw [if_neg c19] at e
                refine gs_aload rfl rfl ?_
                refine gs_get rfl (gd_r (b := ((19 + 2 * p1.toNatClampNeg) + 1)) (sh_of (arr_sh_18 (lt_of_in hb3)) (by decide)) rfl (ref_15_0 (arr_sh_18 (lt_of_in hb3)))) ?_
                refine gs_iload_n rfl rfl ?_
                refine gs_aload rfl rfl ?_
                refine gs_get rfl (gd_r (b := ((19 + 2 * p3.toNatClampNeg) + 1)) (sh_of (arr_sh_18 (lt_of_in hb4)) (by decide)) rfl (ref_15_0 (arr_sh_18 (lt_of_in hb4)))) ?_
                refine gs_iload rfl rfl ?_
                refine gs_iload rfl rfl ?_
                by_cases hb20 : pd_cp p2 p4 p5 40 40 = true
                case neg => rw [if_neg hb20] at e; cases e
                rw [if_pos hb20] at e
                refine gs_cpy rfl (gd_cp (sh_of (fam_15_0 (arr_sh_18 (lt_of_in hb3))) (by decide)) (sh_of (fam_15_0 (arr_sh_18 (lt_of_in hb4))) (by decide)) (ge_of (fam_15_0 (arr_sh_18 (lt_of_in hb3))) (by decide)) (ge_of (fam_15_0 (arr_sh_18 (lt_of_in hb4))) (by decide)) hb20) ?_
                obtain ⟨f21, hf21, e⟩ := pn_some e
                refine gs_heap hf21 ?_
                refine gs_aload_n rfl rfl ?_
                refine gs_iload rfl rfl ?_
                obtain ⟨r22, f23, ec24, e⟩ := ob2_some e
                refine gs_callvI (st := []) rfl (pr_C_le (by decide) (th_X8_well L p5 f21 r22 f23 ec24)) rfl rfl rfl (by decide) rfl (Or.inr (by decide)) ?_
                obtain ⟨rfl, rfl⟩ := inj2 e
                exact gs_iret rfl rfl rfl rfl rfl
              · rw [if_pos c19] at e
                refine gs_aload_n rfl rfl ?_
                refine gs_iconst (x := 2) rfl (by decide) ?_
                obtain ⟨r25, f26, ec27, e⟩ := ob2_some e
                refine gs_callvI (st := []) rfl (pr_C_le (by decide) (th_X8_found L 2 f r25 f26 ec27)) rfl rfl rfl (by decide) rfl (Or.inr (by decide)) ?_
                obtain ⟨rfl, rfl⟩ := inj2 e
                exact gs_iret rfl rfl rfl rfl rfl
          · rw [if_neg c10] at e
            refine gs_aload_n rfl rfl ?_
            refine gs_iconst (x := 5) rfl (by decide) ?_
            obtain ⟨r28, f29, ec30, e⟩ := ob2_some e
            refine gs_callvI (st := []) rfl (pr_C_le (by decide) (th_X8_found L 5 f r28 f29 ec30)) rfl rfl rfl (by decide) rfl (Or.inr (by decide)) ?_
            obtain ⟨rfl, rfl⟩ := inj2 e
            exact gs_iret rfl rfl rfl rfl rfl
        · rw [if_pos c9] at e
          refine gs_aload_n rfl rfl ?_
          refine gs_iconst (x := 1) rfl (by decide) ?_
          obtain ⟨r31, f32, ec33, e⟩ := ob2_some e
          refine gs_callvI (st := []) rfl (pr_C_le (by decide) (th_X8_found L 1 f r31 f32 ec33)) rfl rfl rfl (by decide) rfl (Or.inr (by decide)) ?_
          obtain ⟨rfl, rfl⟩ := inj2 e
          exact gs_iret rfl rfl rfl rfl rfl
    · rw [if_pos c2] at e
      refine gs_ldc (x := (-1000001)) rfl (by decide) ?_
      obtain ⟨rfl, rfl⟩ := inj2 e
      exact gs_iret rfl rfl rfl rfl rfl
