def lp_X8_addHours_4_29 : Nat → Nat → Int32 → Int32 → Int32 → Int32 → pd_M → Option ((Int32) ⊕ (Int32))
  | 0, _, _, _, _, _, _ => none
  | n + 1, z0, z1, z2, z3, z4, f =>
    if sk z0 = (12, 5) then
    if 4 ≤ z4 then
    some (.inr (z3))
    else
    if pa_in z1 4 = true then
    if (((f (z0 + 4) z1.toNatClampNeg) >>> (z4 &&& 31)) &&& 1) = 0 then
    pn (z4 + 1) fun x9 =>
    lp_X8_addHours_4_29 n z0 z1 z2 z3 x9 f
    else
    ob1 (fn_X8_addHours_3 z0 z4 (z2 + 1) f) fun r10 =>
    if r10 = (-1000000) then
    some (.inl (-1000000))
    else
    pn ((z3 + r10)) fun x13 =>
    pn (z4 + 1) fun x14 =>
    lp_X8_addHours_4_29 n z0 z1 z2 x13 x14 f
    else none
    else none
def fn_X8_addHours_4 (p1 : Nat) (p2 : Int32) (p3 : Int32) (f : pd_M) : Option (Int32) :=
  if sk p1 = (12, 5) then
  if 4 ≤ p3 then
  some (-1000000)
  else
  if pa_in p2 4 = true then
  if (f (p1 + 3) p2.toNatClampNeg) = (-1000000) then
  some (-1000000)
  else
  if pa_in p2 4 = true then
  pn ((f (p1 + 3) p2.toNatClampNeg)) fun x5 =>
  os1 (lp_X8_addHours_4_29 5000 p1 p2 p3 x5 0 f) (fun q => some q) fun y15 =>
  some y15
  else none
  else none
  else none
set_option maxRecDepth 100000 in
set_option maxHeartbeats 4000000 in
theorem tl_X8_addHours_4_29 (L : Nat) : ∀ (n : Nat) (z0 : Nat) (z1 : Int32) (z2 : Int32) (z3 : Int32) (z4 : Int32) (f : pd_M) (o : (Int32) ⊕ (Int32)), lp_X8_addHours_4_29 n z0 z1 z2 z3 z4 f = some o → (∀ q, o = .inl q → pr_G L 4 mt_X8_addHours (29, [(0, .ref z0), (1, .int z1), (2, .int z2), (3, .int z3), (4, .int z4)], [], hH f) (some (.int q)) (hH f)) ∧ (∀ (w0 : Int32), o = .inr (w0) → ∀ (r : Option Value) (h2 : ph_T), pr_G L 4 mt_X8_addHours (81, [(3, .int w0)], [], hH f) r h2 → pr_G L 4 mt_X8_addHours (29, [(0, .ref z0), (1, .int z1), (2, .int z2), (3, .int z3), (4, .int z4)], [], hH f) r h2) := by
  intro n
  induction n with
  | zero => intro z0 z1 z2 z3 z4 f o e; cases e
  | succ n ih =>
    intro z0 z1 z2 z3 z4 f o e
    refine ⟨fun q hq => ?_, fun w0 hq r h2 K => ?_⟩
    · subst hq
      unfold lp_X8_addHours_4_29 at e
      by_cases hk0 : sk z0 = (12, 5)
      case neg => rw [if_neg hk0] at e; cases e
      rw [if_pos hk0] at e
      refine gs_iload rfl rfl ?_
      refine gs_iconst (x := 4) rfl (by decide) ?_
      refine gs_ge2 rfl (fun c6 => ?_) (fun c6 => ?_)
      · rw [if_pos c6] at e
        cases e
      · rw [if_neg c6] at e
        refine gs_aload_n rfl rfl ?_
        refine gs_get rfl (gd_r (b := (z0 + 4)) (sh_of hk0 (by decide)) rfl (ref_12_3 hk0)) ?_
        refine gs_iload_n rfl rfl ?_
        by_cases hb7 : pa_in z1 4 = true
        case neg => rw [if_neg hb7] at e; cases e
        rw [if_pos hb7] at e
        refine gs_iald rfl (gd_ia (j := z1.toNatClampNeg) (sh_of (fam_12_3 hk0) (by decide)) hb7 rfl) ?_
        refine gs_iload rfl rfl ?_
        refine gs_ishr rfl ?_
        refine gs_iconst (x := 1) rfl (by decide) ?_
        refine gs_iand rfl ?_
        refine gs_eq0 rfl (fun c8 => ?_) (fun c8 => ?_)
        · rw [if_pos c8] at e
          obtain ⟨x9, hx9, e⟩ := pn_some e
          refine gs_iinc1 (x1 := x9) (c := 1) (lv' := [(4, .int x9), (0, .ref z0), (1, .int z1), (2, .int z2), (3, .int z3)]) rfl rfl (by decide) hx9 rfl ?_
          refine gs_goto rfl ?_
          refine gs_drop [1, 2, 3, 4, 0] rfl ?_
          exact (ih z0 z1 z2 z3 x9 f _ e).1 _ rfl
        · rw [if_neg c8] at e
          refine gs_aload_n rfl rfl ?_
          refine gs_iload rfl rfl ?_
          refine gs_iload_n rfl rfl ?_
          refine gs_iconst (x := 1) rfl (by decide) ?_
          refine gs_iadd rfl ?_
          obtain ⟨r10, ec11, e⟩ := ob1_some e
          refine gs_callsI (st := []) rfl (pr_C_le (by decide) (th_X8_addHours_3 L z0 z4 (z2 + 1) f r10 ec11)) rfl rfl rfl (by decide) ?_
          refine gs_istore (lv' := [(5, .int r10), (0, .ref z0), (1, .int z1), (2, .int z2), (3, .int z3), (4, .int z4)]) rfl rfl ?_
          refine gs_iload rfl rfl ?_
          refine gs_ldc (x := (-1000000)) rfl (by decide) ?_
          refine gs_ne2 rfl (fun c12 => ?_) (fun c12 => ?_)
          · rw [if_neg c12] at e
            refine gs_iload_n rfl rfl ?_
            refine gs_iload rfl rfl ?_
            refine gs_iadd rfl ?_
            obtain ⟨x13, hx13, e⟩ := pn_some e
            refine gs_topi hx13 ?_
            refine gs_istore_n (lv' := [(3, .int x13), (5, .int r10), (0, .ref z0), (1, .int z1), (2, .int z2), (4, .int z4)]) rfl rfl ?_
            obtain ⟨x14, hx14, e⟩ := pn_some e
            refine gs_iinc1 (x1 := x14) (c := 1) (lv' := [(4, .int x14), (3, .int x13), (5, .int r10), (0, .ref z0), (1, .int z1), (2, .int z2)]) rfl rfl (by decide) hx14 rfl ?_
            refine gs_goto rfl ?_
            refine gs_drop [3, 4, 5, 1, 0] rfl ?_
            exact (ih z0 z1 z2 x13 x14 f _ e).1 _ rfl
          · rw [if_pos c12] at e
            refine gs_ldc (x := (-1000000)) rfl (by decide) ?_
            obtain rfl := injl e
            exact gs_iret rfl rfl rfl rfl rfl
    · subst hq
      unfold lp_X8_addHours_4_29 at e
      by_cases hk0 : sk z0 = (12, 5)
      case neg => rw [if_neg hk0] at e; cases e
      rw [if_pos hk0] at e
      refine gs_iload rfl rfl ?_
      refine gs_iconst (x := 4) rfl (by decide) ?_
      refine gs_ge2 rfl (fun c6 => ?_) (fun c6 => ?_)
      · rw [if_pos c6] at e
        obtain rfl := injr1 e
        refine gs_drop [3] rfl ?_
        exact K
      · rw [if_neg c6] at e
        refine gs_aload_n rfl rfl ?_
        refine gs_get rfl (gd_r (b := (z0 + 4)) (sh_of hk0 (by decide)) rfl (ref_12_3 hk0)) ?_
        refine gs_iload_n rfl rfl ?_
        by_cases hb7 : pa_in z1 4 = true
        case neg => rw [if_neg hb7] at e; cases e
        rw [if_pos hb7] at e
        refine gs_iald rfl (gd_ia (j := z1.toNatClampNeg) (sh_of (fam_12_3 hk0) (by decide)) hb7 rfl) ?_
        refine gs_iload rfl rfl ?_
        refine gs_ishr rfl ?_
        refine gs_iconst (x := 1) rfl (by decide) ?_
        refine gs_iand rfl ?_
        refine gs_eq0 rfl (fun c8 => ?_) (fun c8 => ?_)
        · rw [if_pos c8] at e
          obtain ⟨x9, hx9, e⟩ := pn_some e
          refine gs_iinc1 (x1 := x9) (c := 1) (lv' := [(4, .int x9), (0, .ref z0), (1, .int z1), (2, .int z2), (3, .int z3)]) rfl rfl (by decide) hx9 rfl ?_
          refine gs_goto rfl ?_
          refine gs_drop [1, 2, 3, 4, 0] rfl ?_
          exact (ih z0 z1 z2 z3 x9 f _ e).2 w0 rfl _ _ K
        · rw [if_neg c8] at e
          refine gs_aload_n rfl rfl ?_
          refine gs_iload rfl rfl ?_
          refine gs_iload_n rfl rfl ?_
          refine gs_iconst (x := 1) rfl (by decide) ?_
          refine gs_iadd rfl ?_
          obtain ⟨r10, ec11, e⟩ := ob1_some e
          refine gs_callsI (st := []) rfl (pr_C_le (by decide) (th_X8_addHours_3 L z0 z4 (z2 + 1) f r10 ec11)) rfl rfl rfl (by decide) ?_
          refine gs_istore (lv' := [(5, .int r10), (0, .ref z0), (1, .int z1), (2, .int z2), (3, .int z3), (4, .int z4)]) rfl rfl ?_
          refine gs_iload rfl rfl ?_
          refine gs_ldc (x := (-1000000)) rfl (by decide) ?_
          refine gs_ne2 rfl (fun c12 => ?_) (fun c12 => ?_)
          · rw [if_neg c12] at e
            refine gs_iload_n rfl rfl ?_
            refine gs_iload rfl rfl ?_
            refine gs_iadd rfl ?_
            obtain ⟨x13, hx13, e⟩ := pn_some e
            refine gs_topi hx13 ?_
            refine gs_istore_n (lv' := [(3, .int x13), (5, .int r10), (0, .ref z0), (1, .int z1), (2, .int z2), (4, .int z4)]) rfl rfl ?_
            obtain ⟨x14, hx14, e⟩ := pn_some e
            refine gs_iinc1 (x1 := x14) (c := 1) (lv' := [(4, .int x14), (3, .int x13), (5, .int r10), (0, .ref z0), (1, .int z1), (2, .int z2)]) rfl rfl (by decide) hx14 rfl ?_
            refine gs_goto rfl ?_
            refine gs_drop [3, 4, 5, 1, 0] rfl ?_
            exact (ih z0 z1 z2 x13 x14 f _ e).2 w0 rfl _ _ K
          · rw [if_pos c12] at e
            refine gs_ldc (x := (-1000000)) rfl (by decide) ?_
            cases e
set_option maxRecDepth 100000 in
set_option maxHeartbeats 4000000 in
theorem th_X8_addHours_4 (L : Nat) (p1 : Nat) (p2 : Int32) (p3 : Int32) (f : pd_M) (q : Int32) (e : fn_X8_addHours_4 p1 p2 p3 f = some q) : pr_C L 5 94 [.ref p1, .int p2, .int p3] (hH f) (some (.int q)) (hH f) := by
  refine pr_C.of (G := mt_X8_addHours) rfl rfl ?_
  show pr_G L 4 mt_X8_addHours (0, [(0, .ref p1), (1, .int p2), (2, .int p3)], [], hH f) _ _
  unfold fn_X8_addHours_4 at e
  by_cases hk1 : sk p1 = (12, 5)
  case neg => rw [if_neg hk1] at e; cases e
  rw [if_pos hk1] at e
  refine gs_iload_n rfl rfl ?_
  refine gs_iconst (x := 4) rfl (by decide) ?_
  refine gs_ge2 rfl (fun c1 => ?_) (fun c1 => ?_)
  · rw [if_pos c1] at e
    refine gs_ldc (x := (-1000000)) rfl (by decide) ?_
    obtain rfl := inj1 e
    exact gs_iret rfl rfl rfl rfl rfl
  · rw [if_neg c1] at e
    refine gs_aload_n rfl rfl ?_
    refine gs_get rfl (gd_r (b := (p1 + 3)) (sh_of hk1 (by decide)) rfl (ref_12_2 hk1)) ?_
    refine gs_iload_n rfl rfl ?_
    by_cases hb2 : pa_in p2 4 = true
    case neg => rw [if_neg hb2] at e; cases e
    rw [if_pos hb2] at e
    refine gs_iald rfl (gd_ia (j := p2.toNatClampNeg) (sh_of (fam_12_2 hk1) (by decide)) hb2 rfl) ?_
    refine gs_ldc (x := (-1000000)) rfl (by decide) ?_
    refine gs_ne2 rfl (fun c3 => ?_) (fun c3 => ?_)
    · rw [if_neg c3] at e
      refine gs_aload_n rfl rfl ?_
      refine gs_get rfl (gd_r (b := (p1 + 3)) (sh_of hk1 (by decide)) rfl (ref_12_2 hk1)) ?_
      refine gs_iload_n rfl rfl ?_
      by_cases hb4 : pa_in p2 4 = true
      case neg => rw [if_neg hb4] at e; cases e
      rw [if_pos hb4] at e
      refine gs_iald rfl (gd_ia (j := p2.toNatClampNeg) (sh_of (fam_12_2 hk1) (by decide)) hb4 rfl) ?_
      obtain ⟨x5, hx5, e⟩ := pn_some e
      refine gs_topi hx5 ?_
      refine gs_istore_n (lv' := [(3, .int x5), (0, .ref p1), (1, .int p2), (2, .int p3)]) rfl rfl ?_
      refine gs_iconst (x := 0) rfl (by decide) ?_
      refine gs_istore (lv' := [(4, .int 0), (3, .int x5), (0, .ref p1), (1, .int p2), (2, .int p3)]) rfl rfl ?_
      refine gs_drop [2, 3, 4, 1, 0] rfl ?_
      rcases os1_some e with ⟨q, el16, e⟩ | ⟨y15, el16, e⟩
      · skip
        obtain rfl := inj1 e
        exact (tl_X8_addHours_4_29 L 5000 p1 p2 p3 x5 0 f _ el16).1 _ rfl
      · refine (tl_X8_addHours_4_29 L 5000 p1 p2 p3 x5 0 f _ el16).2 y15 rfl _ _ ?_
        refine gs_iload_n rfl rfl ?_
        obtain rfl := inj1 e
        exact gs_iret rfl rfl rfl rfl rfl
    · rw [if_pos c3] at e
      refine gs_ldc (x := (-1000000)) rfl (by decide) ?_
      obtain rfl := inj1 e
      exact gs_iret rfl rfl rfl rfl rfl
def lp_X8_addHours_5_29 : Nat → Nat → Int32 → Int32 → Int32 → Int32 → pd_M → Option ((Int32) ⊕ (Int32))
  | 0, _, _, _, _, _, _ => none
  | n + 1, z0, z1, z2, z3, z4, f =>
    if sk z0 = (12, 5) then
    if 4 ≤ z4 then
    some (.inr (z3))
    else
    if pa_in z1 4 = true then
    if (((f (z0 + 4) z1.toNatClampNeg) >>> (z4 &&& 31)) &&& 1) = 0 then
    pn (z4 + 1) fun x9 =>
    lp_X8_addHours_5_29 n z0 z1 z2 z3 x9 f
    else
    ob1 (fn_X8_addHours_4 z0 z4 (z2 + 1) f) fun r10 =>
    if r10 = (-1000000) then
    some (.inl (-1000000))
    else
    pn ((z3 + r10)) fun x13 =>
    pn (z4 + 1) fun x14 =>
    lp_X8_addHours_5_29 n z0 z1 z2 x13 x14 f
    else none
    else none
def fn_X8_addHours_5 (p1 : Nat) (p2 : Int32) (p3 : Int32) (f : pd_M) : Option (Int32) :=
  if sk p1 = (12, 5) then
  if 4 ≤ p3 then
  some (-1000000)
  else
  if pa_in p2 4 = true then
  if (f (p1 + 3) p2.toNatClampNeg) = (-1000000) then
  some (-1000000)
  else
  if pa_in p2 4 = true then
  pn ((f (p1 + 3) p2.toNatClampNeg)) fun x5 =>
  os1 (lp_X8_addHours_5_29 5000 p1 p2 p3 x5 0 f) (fun q => some q) fun y15 =>
  some y15
  else none
  else none
  else none
set_option maxRecDepth 100000 in
set_option maxHeartbeats 4000000 in
theorem tl_X8_addHours_5_29 (L : Nat) : ∀ (n : Nat) (z0 : Nat) (z1 : Int32) (z2 : Int32) (z3 : Int32) (z4 : Int32) (f : pd_M) (o : (Int32) ⊕ (Int32)), lp_X8_addHours_5_29 n z0 z1 z2 z3 z4 f = some o → (∀ q, o = .inl q → pr_G L 5 mt_X8_addHours (29, [(0, .ref z0), (1, .int z1), (2, .int z2), (3, .int z3), (4, .int z4)], [], hH f) (some (.int q)) (hH f)) ∧ (∀ (w0 : Int32), o = .inr (w0) → ∀ (r : Option Value) (h2 : ph_T), pr_G L 5 mt_X8_addHours (81, [(3, .int w0)], [], hH f) r h2 → pr_G L 5 mt_X8_addHours (29, [(0, .ref z0), (1, .int z1), (2, .int z2), (3, .int z3), (4, .int z4)], [], hH f) r h2) := by
  intro n
  induction n with
  | zero => intro z0 z1 z2 z3 z4 f o e; cases e
  | succ n ih =>
    intro z0 z1 z2 z3 z4 f o e
    refine ⟨fun q hq => ?_, fun w0 hq r h2 K => ?_⟩
    · subst hq
      unfold lp_X8_addHours_5_29 at e
      by_cases hk0 : sk z0 = (12, 5)
      case neg => rw [if_neg hk0] at e; cases e
      rw [if_pos hk0] at e
      refine gs_iload rfl rfl ?_
      refine gs_iconst (x := 4) rfl (by decide) ?_
      refine gs_ge2 rfl (fun c6 => ?_) (fun c6 => ?_)
      · rw [if_pos c6] at e
        cases e
      · rw [if_neg c6] at e
        refine gs_aload_n rfl rfl ?_
        refine gs_get rfl (gd_r (b := (z0 + 4)) (sh_of hk0 (by decide)) rfl (ref_12_3 hk0)) ?_
        refine gs_iload_n rfl rfl ?_
        by_cases hb7 : pa_in z1 4 = true
        case neg => rw [if_neg hb7] at e; cases e
        rw [if_pos hb7] at e
        refine gs_iald rfl (gd_ia (j := z1.toNatClampNeg) (sh_of (fam_12_3 hk0) (by decide)) hb7 rfl) ?_
        refine gs_iload rfl rfl ?_
        refine gs_ishr rfl ?_
        refine gs_iconst (x := 1) rfl (by decide) ?_
        refine gs_iand rfl ?_
        refine gs_eq0 rfl (fun c8 => ?_) (fun c8 => ?_)
        · rw [if_pos c8] at e
          obtain ⟨x9, hx9, e⟩ := pn_some e
          refine gs_iinc1 (x1 := x9) (c := 1) (lv' := [(4, .int x9), (0, .ref z0), (1, .int z1), (2, .int z2), (3, .int z3)]) rfl rfl (by decide) hx9 rfl ?_
          refine gs_goto rfl ?_
          refine gs_drop [1, 2, 3, 4, 0] rfl ?_
          exact (ih z0 z1 z2 z3 x9 f _ e).1 _ rfl
        · rw [if_neg c8] at e
          refine gs_aload_n rfl rfl ?_
          refine gs_iload rfl rfl ?_
          refine gs_iload_n rfl rfl ?_
          refine gs_iconst (x := 1) rfl (by decide) ?_
          refine gs_iadd rfl ?_
          obtain ⟨r10, ec11, e⟩ := ob1_some e
          refine gs_callsI (st := []) rfl (pr_C_le (by decide) (th_X8_addHours_4 L z0 z4 (z2 + 1) f r10 ec11)) rfl rfl rfl (by decide) ?_
          refine gs_istore (lv' := [(5, .int r10), (0, .ref z0), (1, .int z1), (2, .int z2), (3, .int z3), (4, .int z4)]) rfl rfl ?_
          refine gs_iload rfl rfl ?_
          refine gs_ldc (x := (-1000000)) rfl (by decide) ?_
          refine gs_ne2 rfl (fun c12 => ?_) (fun c12 => ?_)
          · rw [if_neg c12] at e
            refine gs_iload_n rfl rfl ?_
            refine gs_iload rfl rfl ?_
            refine gs_iadd rfl ?_
            obtain ⟨x13, hx13, e⟩ := pn_some e
            refine gs_topi hx13 ?_
            refine gs_istore_n (lv' := [(3, .int x13), (5, .int r10), (0, .ref z0), (1, .int z1), (2, .int z2), (4, .int z4)]) rfl rfl ?_
            obtain ⟨x14, hx14, e⟩ := pn_some e
            refine gs_iinc1 (x1 := x14) (c := 1) (lv' := [(4, .int x14), (3, .int x13), (5, .int r10), (0, .ref z0), (1, .int z1), (2, .int z2)]) rfl rfl (by decide) hx14 rfl ?_
            refine gs_goto rfl ?_
            refine gs_drop [3, 4, 5, 1, 0] rfl ?_
            exact (ih z0 z1 z2 x13 x14 f _ e).1 _ rfl
          · rw [if_pos c12] at e
            refine gs_ldc (x := (-1000000)) rfl (by decide) ?_
            obtain rfl := injl e
            exact gs_iret rfl rfl rfl rfl rfl
    · subst hq
      unfold lp_X8_addHours_5_29 at e
      by_cases hk0 : sk z0 = (12, 5)
      case neg => rw [if_neg hk0] at e; cases e
      rw [if_pos hk0] at e
      refine gs_iload rfl rfl ?_
      refine gs_iconst (x := 4) rfl (by decide) ?_
      refine gs_ge2 rfl (fun c6 => ?_) (fun c6 => ?_)
      · rw [if_pos c6] at e
        obtain rfl := injr1 e
        refine gs_drop [3] rfl ?_
        exact K
      · rw [if_neg c6] at e
        refine gs_aload_n rfl rfl ?_
        refine gs_get rfl (gd_r (b := (z0 + 4)) (sh_of hk0 (by decide)) rfl (ref_12_3 hk0)) ?_
        refine gs_iload_n rfl rfl ?_
        by_cases hb7 : pa_in z1 4 = true
        case neg => rw [if_neg hb7] at e; cases e
        rw [if_pos hb7] at e
        refine gs_iald rfl (gd_ia (j := z1.toNatClampNeg) (sh_of (fam_12_3 hk0) (by decide)) hb7 rfl) ?_
        refine gs_iload rfl rfl ?_
        refine gs_ishr rfl ?_
        refine gs_iconst (x := 1) rfl (by decide) ?_
        refine gs_iand rfl ?_
        refine gs_eq0 rfl (fun c8 => ?_) (fun c8 => ?_)
        · rw [if_pos c8] at e
          obtain ⟨x9, hx9, e⟩ := pn_some e
          refine gs_iinc1 (x1 := x9) (c := 1) (lv' := [(4, .int x9), (0, .ref z0), (1, .int z1), (2, .int z2), (3, .int z3)]) rfl rfl (by decide) hx9 rfl ?_
          refine gs_goto rfl ?_
          refine gs_drop [1, 2, 3, 4, 0] rfl ?_
          exact (ih z0 z1 z2 z3 x9 f _ e).2 w0 rfl _ _ K
        · rw [if_neg c8] at e
          refine gs_aload_n rfl rfl ?_
          refine gs_iload rfl rfl ?_
          refine gs_iload_n rfl rfl ?_
          refine gs_iconst (x := 1) rfl (by decide) ?_
          refine gs_iadd rfl ?_
          obtain ⟨r10, ec11, e⟩ := ob1_some e
          refine gs_callsI (st := []) rfl (pr_C_le (by decide) (th_X8_addHours_4 L z0 z4 (z2 + 1) f r10 ec11)) rfl rfl rfl (by decide) ?_
          refine gs_istore (lv' := [(5, .int r10), (0, .ref z0), (1, .int z1), (2, .int z2), (3, .int z3), (4, .int z4)]) rfl rfl ?_
          refine gs_iload rfl rfl ?_
          refine gs_ldc (x := (-1000000)) rfl (by decide) ?_
          refine gs_ne2 rfl (fun c12 => ?_) (fun c12 => ?_)
          · rw [if_neg c12] at e
            refine gs_iload_n rfl rfl ?_
            refine gs_iload rfl rfl ?_
            refine gs_iadd rfl ?_
            obtain ⟨x13, hx13, e⟩ := pn_some e
            refine gs_topi hx13 ?_
            refine gs_istore_n (lv' := [(3, .int x13), (5, .int r10), (0, .ref z0), (1, .int z1), (2, .int z2), (4, .int z4)]) rfl rfl ?_
            obtain ⟨x14, hx14, e⟩ := pn_some e
            refine gs_iinc1 (x1 := x14) (c := 1) (lv' := [(4, .int x14), (3, .int x13), (5, .int r10), (0, .ref z0), (1, .int z1), (2, .int z2)]) rfl rfl (by decide) hx14 rfl ?_
            refine gs_goto rfl ?_
            refine gs_drop [3, 4, 5, 1, 0] rfl ?_
            exact (ih z0 z1 z2 x13 x14 f _ e).2 w0 rfl _ _ K
          · rw [if_pos c12] at e
            refine gs_ldc (x := (-1000000)) rfl (by decide) ?_
            cases e
set_option maxRecDepth 100000 in
set_option maxHeartbeats 4000000 in
theorem th_X8_addHours_5 (L : Nat) (p1 : Nat) (p2 : Int32) (p3 : Int32) (f : pd_M) (q : Int32) (e : fn_X8_addHours_5 p1 p2 p3 f = some q) : pr_C L 6 94 [.ref p1, .int p2, .int p3] (hH f) (some (.int q)) (hH f) := by
  refine pr_C.of (G := mt_X8_addHours) rfl rfl ?_
  show pr_G L 5 mt_X8_addHours (0, [(0, .ref p1), (1, .int p2), (2, .int p3)], [], hH f) _ _
  unfold fn_X8_addHours_5 at e
  by_cases hk1 : sk p1 = (12, 5)
  case neg => rw [if_neg hk1] at e; cases e
  rw [if_pos hk1] at e
  refine gs_iload_n rfl rfl ?_
  refine gs_iconst (x := 4) rfl (by decide) ?_
  refine gs_ge2 rfl (fun c1 => ?_) (fun c1 => ?_)
  · rw [if_pos c1] at e
    refine gs_ldc (x := (-1000000)) rfl (by decide) ?_
    obtain rfl := inj1 e
    exact gs_iret rfl rfl rfl rfl rfl
  · rw [if_neg c1] at e
    refine gs_aload_n rfl rfl ?_
    refine gs_get rfl (gd_r (b := (p1 + 3)) (sh_of hk1 (by decide)) rfl (ref_12_2 hk1)) ?_
    refine gs_iload_n rfl rfl ?_
    by_cases hb2 : pa_in p2 4 = true
    case neg => rw [if_neg hb2] at e; cases e
    rw [if_pos hb2] at e
    refine gs_iald rfl (gd_ia (j := p2.toNatClampNeg) (sh_of (fam_12_2 hk1) (by decide)) hb2 rfl) ?_
    refine gs_ldc (x := (-1000000)) rfl (by decide) ?_
    refine gs_ne2 rfl (fun c3 => ?_) (fun c3 => ?_)
    · rw [if_neg c3] at e
      refine gs_aload_n rfl rfl ?_
      refine gs_get rfl (gd_r (b := (p1 + 3)) (sh_of hk1 (by decide)) rfl (ref_12_2 hk1)) ?_
      refine gs_iload_n rfl rfl ?_
      by_cases hb4 : pa_in p2 4 = true
      case neg => rw [if_neg hb4] at e; cases e
      rw [if_pos hb4] at e
      refine gs_iald rfl (gd_ia (j := p2.toNatClampNeg) (sh_of (fam_12_2 hk1) (by decide)) hb4 rfl) ?_
      obtain ⟨x5, hx5, e⟩ := pn_some e
      refine gs_topi hx5 ?_
      refine gs_istore_n (lv' := [(3, .int x5), (0, .ref p1), (1, .int p2), (2, .int p3)]) rfl rfl ?_
      refine gs_iconst (x := 0) rfl (by decide) ?_
      refine gs_istore (lv' := [(4, .int 0), (3, .int x5), (0, .ref p1), (1, .int p2), (2, .int p3)]) rfl rfl ?_
      refine gs_drop [2, 3, 4, 1, 0] rfl ?_
      rcases os1_some e with ⟨q, el16, e⟩ | ⟨y15, el16, e⟩
      · skip
        obtain rfl := inj1 e
        exact (tl_X8_addHours_5_29 L 5000 p1 p2 p3 x5 0 f _ el16).1 _ rfl
      · refine (tl_X8_addHours_5_29 L 5000 p1 p2 p3 x5 0 f _ el16).2 y15 rfl _ _ ?_
        refine gs_iload_n rfl rfl ?_
        obtain rfl := inj1 e
        exact gs_iret rfl rfl rfl rfl rfl
    · rw [if_pos c3] at e
      refine gs_ldc (x := (-1000000)) rfl (by decide) ?_
      obtain rfl := inj1 e
      exact gs_iret rfl rfl rfl rfl rfl
def fn_X8_hours (p1 : Int32) (f : pd_M) : Option (Int32) :=
  if (fn_X8_isBelow p1 4) = 0 then
  some (-1000001)
  else
  ob1 (fn_X8_addHours_5 40 p1 0 f) fun r2 =>
  some r2
set_option maxRecDepth 100000 in
set_option maxHeartbeats 4000000 in
theorem th_X8_hours (L : Nat) (p1 : Int32) (f : pd_M) (q : Int32) (e : fn_X8_hours p1 f = some q) : pr_C L 7 79 [.ref 17, .int p1] (hH f) (some (.int q)) (hH f) := by
  refine pr_C.of (G := mt_X8_hours) rfl rfl ?_
  show pr_G L 6 mt_X8_hours (0, [(0, .ref 17), (1, .int p1)], [], hH f) _ _
  unfold fn_X8_hours at e
  refine gs_iload_n rfl rfl ?_
  refine gs_iconst (x := 4) rfl (by decide) ?_
  refine gs_callsI (st := []) rfl (pr_C_le (by decide) (th_X8_isBelow L p1 4 f _ rfl)) rfl rfl rfl (by decide) ?_
  refine gs_eq0 rfl (fun c1 => ?_) (fun c1 => ?_)
  · rw [if_pos c1] at e
    refine gs_ldc (x := (-1000001)) rfl (by decide) ?_
    obtain rfl := inj1 e
    exact gs_iret rfl rfl rfl rfl rfl
  · rw [if_neg c1] at e
    refine gs_aload_n rfl rfl ?_
    refine gs_get rfl (gd_r (b := 39) rfl rfl rfl) ?_
    refine gs_get rfl (gd_r (b := 40) rfl rfl rfl) ?_
    refine gs_iload_n rfl rfl ?_
    refine gs_iconst (x := 0) rfl (by decide) ?_
    obtain ⟨r2, ec3, e⟩ := ob1_some e
    refine gs_callsI (st := []) rfl (pr_C_le (by decide) (th_X8_addHours_5 L 40 p1 0 f r2 ec3)) rfl rfl rfl (by decide) ?_
    refine gs_goto rfl ?_
    obtain rfl := inj1 e
    exact gs_iret rfl rfl rfl rfl rfl
def fn_X8_kind (p1 : Int32) (f : pd_M) : Option (Int32) :=
  ob1 (fn_X7_hasSaying p1 f) fun r1 =>
  if r1 = 0 then
  some (-1000001)
  else
  ob1 (fn_X7_kindOf p1 f) fun r4 =>
  some r4
set_option maxRecDepth 100000 in
set_option maxHeartbeats 4000000 in
theorem th_X8_kind (L : Nat) (p1 : Int32) (f : pd_M) (q : Int32) (e : fn_X8_kind p1 f = some q) : pr_C L 3 80 [.ref 17, .int p1] (hH f) (some (.int q)) (hH f) := by
  refine pr_C.of (G := mt_X8_kind) rfl rfl ?_
  show pr_G L 2 mt_X8_kind (0, [(0, .ref 17), (1, .int p1)], [], hH f) _ _
  unfold fn_X8_kind at e
  refine gs_aload_n rfl rfl ?_
  refine gs_get rfl (gd_r (b := 39) rfl rfl rfl) ?_
  refine gs_iload_n rfl rfl ?_
  obtain ⟨r1, ec2, e⟩ := ob1_some e
  refine gs_callvI (st := []) rfl (pr_C_le (by decide) (th_X7_hasSaying L p1 f r1 ec2)) rfl rfl rfl (by decide) rfl (Or.inr (by decide)) ?_
  refine gs_eq0 rfl (fun c3 => ?_) (fun c3 => ?_)
  · rw [if_pos c3] at e
    refine gs_ldc (x := (-1000001)) rfl (by decide) ?_
    obtain rfl := inj1 e
    exact gs_iret rfl rfl rfl rfl rfl
  · rw [if_neg c3] at e
    refine gs_aload_n rfl rfl ?_
    refine gs_get rfl (gd_r (b := 39) rfl rfl rfl) ?_
    refine gs_iload_n rfl rfl ?_
    obtain ⟨r4, ec5, e⟩ := ob1_some e
    refine gs_callvI (st := []) rfl (pr_C_le (by decide) (th_X7_kindOf L p1 f r4 ec5)) rfl rfl rfl (by decide) rfl (Or.inr (by decide)) ?_
    refine gs_goto rfl ?_
    obtain rfl := inj1 e
    exact gs_iret rfl rfl rfl rfl rfl
def lp_X8_as_35 : Nat → Int32 → Int32 → Int32 → Int32 → pd_M → Option ((Int32 × pd_M) ⊕ (Unit))
  | 0, _, _, _, _, _ => none
  | n + 1, z1, z2, z3, z4, f =>
    if 6 ≤ z4 then
    some (.inr ())
    else
    if z3 = (-1000000) then
    some (.inr ())
    else
    if z3 = z2 then
    ob2 (fn_X8_well z1 f) fun r13 f14 =>
    some (.inl (r13, f14))
    else
    if pa_in z3 6 = true then
    pn ((f 1 z3.toNatClampNeg)) fun x11 =>
    pn (z4 + 1) fun x12 =>
    lp_X8_as_35 n z1 z2 x11 x12 f
    else none
def fn_X8_as (p1 : Int32) (p2 : Int32) (f : pd_M) : Option (Int32 × pd_M) :=
  ob1 (fn_X7_hasSaying p1 f) fun r1 =>
  if r1 = 0 then
  some ((-1000001), f)
  else
  if (fn_X8_isBelow p2 6) = 0 then
  some ((-1000001), f)
  else
  ob1 (fn_X7_kindOf p1 f) fun r5 =>
  os0 (lp_X8_as_35 5000 p1 p2 r5 0 f) (fun q => some q) (
  ob2 (fn_X8_found 3 f) fun r16 f17 =>
  some (r16, f17))
set_option maxRecDepth 100000 in
set_option maxHeartbeats 4000000 in
theorem tl_X8_as_35 (L : Nat) : ∀ (n : Nat) (z1 : Int32) (z2 : Int32) (z3 : Int32) (z4 : Int32) (f : pd_M) (o : (Int32 × pd_M) ⊕ (Unit)), lp_X8_as_35 n z1 z2 z3 z4 f = some o → (∀ q, o = .inl q → pr_G L 2 mt_X8_as (35, [(0, .ref 17), (1, .int z1), (2, .int z2), (3, .int z3), (4, .int z4)], [], hH f) (some (.int q.1)) (hH q.2)) ∧ (∀ (_ : Unit), o = .inr () → ∀ (r : Option Value) (h2 : ph_T), pr_G L 2 mt_X8_as (71, [(0, .ref 17)], [], hH f) r h2 → pr_G L 2 mt_X8_as (35, [(0, .ref 17), (1, .int z1), (2, .int z2), (3, .int z3), (4, .int z4)], [], hH f) r h2) := by
  intro n
  induction n with
  | zero => intro z1 z2 z3 z4 f o e; cases e
  | succ n ih =>
    intro z1 z2 z3 z4 f o e
    refine ⟨fun q hq => ?_, fun _ hq r h2 K => ?_⟩
    · subst hq
      unfold lp_X8_as_35 at e
      refine gs_iload rfl rfl ?_
      refine gs_bipush (x := 6) rfl (by decide) ?_
      refine gs_ge2 rfl (fun c7 => ?_) (fun c7 => ?_)
      · rw [if_pos c7] at e
        cases e
      · rw [if_neg c7] at e
        refine gs_iload_n rfl rfl ?_
        refine gs_ldc (x := (-1000000)) rfl (by decide) ?_
        refine gs_eq2 rfl (fun c8 => ?_) (fun c8 => ?_)
        · rw [if_pos c8] at e
          cases e
        · rw [if_neg c8] at e
          refine gs_iload_n rfl rfl ?_
          refine gs_iload_n rfl rfl ?_
          refine gs_ne2 rfl (fun c9 => ?_) (fun c9 => ?_)
          · rw [if_neg c9] at e
            refine gs_static1 (a := 1) rfl rfl ?_
            refine gs_iload_n rfl rfl ?_
            by_cases hb10 : pa_in z3 6 = true
            case neg => rw [if_neg hb10] at e; cases e
            rw [if_pos hb10] at e
            refine gs_iald rfl (gd_ia (j := z3.toNatClampNeg) rfl hb10 rfl) ?_
            obtain ⟨x11, hx11, e⟩ := pn_some e
            refine gs_topi hx11 ?_
            refine gs_istore_n (lv' := [(3, .int x11), (0, .ref 17), (1, .int z1), (2, .int z2), (4, .int z4)]) rfl rfl ?_
            obtain ⟨x12, hx12, e⟩ := pn_some e
            refine gs_iinc1 (x1 := x12) (c := 1) (lv' := [(4, .int x12), (3, .int x11), (0, .ref 17), (1, .int z1), (2, .int z2)]) rfl rfl (by decide) hx12 rfl ?_
            refine gs_goto rfl ?_
            refine gs_drop [2, 3, 4, 1, 0] rfl ?_
            exact (ih z1 z2 x11 x12 f _ e).1 _ rfl
          · rw [if_pos c9] at e
            refine gs_aload_n rfl rfl ?_
            refine gs_iload_n rfl rfl ?_
            obtain ⟨r13, f14, ec15, e⟩ := ob2_some e
            refine gs_callvI (st := []) rfl (pr_C_le (by decide) (th_X8_well L z1 f r13 f14 ec15)) rfl rfl rfl (by decide) rfl (Or.inr (by decide)) ?_
            obtain rfl := injl e
            exact gs_iret rfl rfl rfl rfl rfl
    · subst hq
      unfold lp_X8_as_35 at e
      refine gs_iload rfl rfl ?_
      refine gs_bipush (x := 6) rfl (by decide) ?_
      refine gs_ge2 rfl (fun c7 => ?_) (fun c7 => ?_)
      · rw [if_pos c7] at e
        refine gs_drop [0] rfl ?_
        exact K
      · rw [if_neg c7] at e
        refine gs_iload_n rfl rfl ?_
        refine gs_ldc (x := (-1000000)) rfl (by decide) ?_
        refine gs_eq2 rfl (fun c8 => ?_) (fun c8 => ?_)
        · rw [if_pos c8] at e
          refine gs_drop [0] rfl ?_
          exact K
        · rw [if_neg c8] at e
          refine gs_iload_n rfl rfl ?_
          refine gs_iload_n rfl rfl ?_
          refine gs_ne2 rfl (fun c9 => ?_) (fun c9 => ?_)
          · rw [if_neg c9] at e
            refine gs_static1 (a := 1) rfl rfl ?_
            refine gs_iload_n rfl rfl ?_
            by_cases hb10 : pa_in z3 6 = true
            case neg => rw [if_neg hb10] at e; cases e
            rw [if_pos hb10] at e
            refine gs_iald rfl (gd_ia (j := z3.toNatClampNeg) rfl hb10 rfl) ?_
            obtain ⟨x11, hx11, e⟩ := pn_some e
            refine gs_topi hx11 ?_
            refine gs_istore_n (lv' := [(3, .int x11), (0, .ref 17), (1, .int z1), (2, .int z2), (4, .int z4)]) rfl rfl ?_
            obtain ⟨x12, hx12, e⟩ := pn_some e
            refine gs_iinc1 (x1 := x12) (c := 1) (lv' := [(4, .int x12), (3, .int x11), (0, .ref 17), (1, .int z1), (2, .int z2)]) rfl rfl (by decide) hx12 rfl ?_
            refine gs_goto rfl ?_
            refine gs_drop [2, 3, 4, 1, 0] rfl ?_
            exact (ih z1 z2 x11 x12 f _ e).2 () rfl _ _ K
          · rw [if_pos c9] at e
            refine gs_aload_n rfl rfl ?_
            refine gs_iload_n rfl rfl ?_
            obtain ⟨r13, f14, ec15, e⟩ := ob2_some e
            refine gs_callvI (st := []) rfl (pr_C_le (by decide) (th_X8_well L z1 f r13 f14 ec15)) rfl rfl rfl (by decide) rfl (Or.inr (by decide)) ?_
            cases e
set_option maxRecDepth 100000 in
set_option maxHeartbeats 4000000 in
theorem th_X8_as (L : Nat) (p1 : Int32) (p2 : Int32) (f : pd_M) (q : Int32) (g : pd_M) (e : fn_X8_as p1 p2 f = some (q, g)) : pr_C L 3 81 [.ref 17, .int p1, .int p2] (hH f) (some (.int q)) (hH g) := by
  refine pr_C.of (G := mt_X8_as) rfl rfl ?_
  show pr_G L 2 mt_X8_as (0, [(0, .ref 17), (1, .int p1), (2, .int p2)], [], hH f) _ _
  unfold fn_X8_as at e
  refine gs_aload_n rfl rfl ?_
  refine gs_get rfl (gd_r (b := 39) rfl rfl rfl) ?_
  refine gs_iload_n rfl rfl ?_
  obtain ⟨r1, ec2, e⟩ := ob1_some e
  refine gs_callvI (st := []) rfl (pr_C_le (by decide) (th_X7_hasSaying L p1 f r1 ec2)) rfl rfl rfl (by decide) rfl (Or.inr (by decide)) ?_
  refine gs_eq0 rfl (fun c3 => ?_) (fun c3 => ?_)
  · rw [if_pos c3] at e
    refine gs_ldc (x := (-1000001)) rfl (by decide) ?_
    obtain ⟨rfl, rfl⟩ := inj2 e
    exact gs_iret rfl rfl rfl rfl rfl
  · rw [if_neg c3] at e
    refine gs_iload_n rfl rfl ?_
    refine gs_bipush (x := 6) rfl (by decide) ?_
    refine gs_callsI (st := []) rfl (pr_C_le (by decide) (th_X8_isBelow L p2 6 f _ rfl)) rfl rfl rfl (by decide) ?_
    refine gs_ne0 rfl (fun c4 => ?_) (fun c4 => ?_)
    · rw [if_neg c4] at e
      refine gs_aload_n rfl rfl ?_
      refine gs_get rfl (gd_r (b := 39) rfl rfl rfl) ?_
      refine gs_iload_n rfl rfl ?_
      obtain ⟨r5, ec6, e⟩ := ob1_some e
      refine gs_callvI (st := []) rfl (pr_C_le (by decide) (th_X7_kindOf L p1 f r5 ec6)) rfl rfl rfl (by decide) rfl (Or.inr (by decide)) ?_
      refine gs_istore_n (lv' := [(3, .int r5), (0, .ref 17), (1, .int p1), (2, .int p2)]) rfl rfl ?_
      refine gs_iconst (x := 0) rfl (by decide) ?_
      refine gs_istore (lv' := [(4, .int 0), (3, .int r5), (0, .ref 17), (1, .int p1), (2, .int p2)]) rfl rfl ?_
      refine gs_drop [2, 3, 4, 1, 0] rfl ?_
      rcases os0_some e with ⟨q, el19, e⟩ | ⟨el19, e⟩
      · skip
        obtain rfl := inj1 e
        exact (tl_X8_as_35 L 5000 p1 p2 r5 0 f _ el19).1 _ rfl
      · refine (tl_X8_as_35 L 5000 p1 p2 r5 0 f _ el19).2 () rfl _ _ ?_
        refine gs_aload_n rfl rfl ?_
        refine gs_iconst (x := 3) rfl (by decide) ?_
        obtain ⟨r16, f17, ec18, e⟩ := ob2_some e
        refine gs_callvI (st := []) rfl (pr_C_le (by decide) (th_X8_found L 3 f r16 f17 ec18)) rfl rfl rfl (by decide) rfl (Or.inr (by decide)) ?_
        obtain ⟨rfl, rfl⟩ := inj2 e
        exact gs_iret rfl rfl rfl rfl rfl
    · rw [if_pos c4] at e
      refine gs_ldc (x := (-1000001)) rfl (by decide) ?_
      obtain ⟨rfl, rfl⟩ := inj2 e
      exact gs_iret rfl rfl rfl rfl rfl
def fn_X8_leave (p1 : Int32) (f : pd_M) : Option (pd_M) :=
  if 16 ≤ (f 17 6) then
  some f
  else
  if pa_in (f 17 6) 16 = true then
  pn ((pi_up f 109 ((f 17 6).toNatClampNeg) p1)) fun f3 =>
  pn ((pi_up f3 17 6 ((f3 17 6) + 1))) fun f4 =>
  some f4
  else none
set_option maxRecDepth 100000 in
set_option maxHeartbeats 4000000 in
theorem th_X8_leave (L : Nat) (p1 : Int32) (f : pd_M) (g : pd_M) (e : fn_X8_leave p1 f = some g) : pr_C L 1 103 [.ref 17, .int p1] (hH f) none (hH g) := by
  refine pr_C.of (G := mt_X8_leave) rfl rfl ?_
  show pr_G L 0 mt_X8_leave (0, [(0, .ref 17), (1, .int p1)], [], hH f) _ _
  unfold fn_X8_leave at e
  refine gs_aload_n rfl rfl ?_
  refine gs_get rfl (gd_i rfl rfl) ?_
  refine gs_bipush (x := 16) rfl (by decide) ?_
  refine gs_ge2 rfl (fun c1 => ?_) (fun c1 => ?_)
  · rw [if_pos c1] at e
    obtain rfl := inj1 e
    exact gs_vret rfl rfl rfl rfl
  · rw [if_neg c1] at e
    refine gs_aload_n rfl rfl ?_
    refine gs_get rfl (gd_r (b := 109) rfl rfl rfl) ?_
    refine gs_aload_n rfl rfl ?_
    refine gs_get rfl (gd_i rfl rfl) ?_
    refine gs_iload_n rfl rfl ?_
    by_cases hb2 : pa_in (f 17 6) 16 = true
    case neg => rw [if_neg hb2] at e; cases e
    rw [if_pos hb2] at e
    refine gs_iast rfl (gd_si (j := (f 17 6).toNatClampNeg) rfl (by decide) hb2 rfl) ?_
    obtain ⟨f3, hf3, e⟩ := pn_some e
    refine gs_heap hf3 ?_
    refine gs_aload_n rfl rfl ?_
    refine gs_dup rfl rfl ?_
    refine gs_get rfl (gd_i rfl rfl) ?_
    refine gs_iconst (x := 1) rfl (by decide) ?_
    refine gs_iadd rfl ?_
    refine gs_put rfl (gd_pi rfl rfl) ?_
    obtain ⟨f4, hf4, e⟩ := pn_some e
    refine gs_heap hf4 ?_
    obtain rfl := inj1 e
    exact gs_vret rfl rfl rfl rfl
def fn_X8_markLent (p1 : Int32) (f : pd_M) : Option (Int32 × pd_M) :=
  ob1 (fn_X8_leave 20 f) fun f1 =>
  some (p1, f1)
set_option maxRecDepth 100000 in
set_option maxHeartbeats 4000000 in
theorem th_X8_markLent (L : Nat) (p1 : Int32) (f : pd_M) (q : Int32) (g : pd_M) (e : fn_X8_markLent p1 f = some (q, g)) : pr_C L 2 111 [.ref 17, .int p1] (hH f) (some (.int q)) (hH g) := by
  refine pr_C.of (G := mt_X8_markLent) rfl rfl ?_
  show pr_G L 1 mt_X8_markLent (0, [(0, .ref 17), (1, .int p1)], [], hH f) _ _
  unfold fn_X8_markLent at e
  refine gs_aload_n rfl rfl ?_
  refine gs_bipush (x := 20) rfl (by decide) ?_
  obtain ⟨f1, ec2, e⟩ := ob1_some e
  refine gs_callvV (st := []) rfl (pr_C_le (by decide) (th_X8_leave L 20 f f1 ec2)) rfl rfl rfl (by decide) rfl (Or.inr (by decide)) ?_
  refine gs_iload_n rfl rfl ?_
  obtain ⟨rfl, rfl⟩ := inj2 e
  exact gs_iret rfl rfl rfl rfl rfl
def fn_X8_markOfGiven (p1 : Int32) (f : pd_M) : Option (Int32 × pd_M) :=
  ob1 (fn_X8_leave 21 f) fun f1 =>
  ob2 (fn_X8_markLent p1 f1) fun r3 f4 =>
  some ((r3 + 100), f4)
set_option maxRecDepth 100000 in
set_option maxHeartbeats 4000000 in
theorem th_X8_markOfGiven (L : Nat) (p1 : Int32) (f : pd_M) (q : Int32) (g : pd_M) (e : fn_X8_markOfGiven p1 f = some (q, g)) : pr_C L 3 112 [.ref 17, .int p1] (hH f) (some (.int q)) (hH g) := by
  refine pr_C.of (G := mt_X8_markOfGiven) rfl rfl ?_
  show pr_G L 2 mt_X8_markOfGiven (0, [(0, .ref 17), (1, .int p1)], [], hH f) _ _
  unfold fn_X8_markOfGiven at e
  refine gs_aload_n rfl rfl ?_
  refine gs_bipush (x := 21) rfl (by decide) ?_
  obtain ⟨f1, ec2, e⟩ := ob1_some e
  refine gs_callvV (st := []) rfl (pr_C_le (by decide) (th_X8_leave L 21 f f1 ec2)) rfl rfl rfl (by decide) rfl (Or.inr (by decide)) ?_
  refine gs_aload_n rfl rfl ?_
  refine gs_iload_n rfl rfl ?_
  obtain ⟨r3, f4, ec5, e⟩ := ob2_some e
  refine gs_callvI (st := []) rfl (pr_C_le (by decide) (th_X8_markLent L p1 f1 r3 f4 ec5)) rfl rfl rfl (by decide) rfl (Or.inr (by decide)) ?_
  refine gs_bipush (x := 100) rfl (by decide) ?_
  refine gs_iadd rfl ?_
  obtain ⟨rfl, rfl⟩ := inj2 e
  exact gs_iret rfl rfl rfl rfl rfl
def fn_X8_sizeLent (p1 : Int32) (f : pd_M) : Option (Int32 × pd_M) :=
  ob1 (fn_X8_leave 10 f) fun f1 =>
  if pa_in p1 20 = true then
  some ((fn_J6_bitCount_0f7a4 (f1 (48 + p1.toNatClampNeg) 7)), f1)
  else none
set_option maxRecDepth 100000 in
set_option maxHeartbeats 4000000 in
theorem th_X8_sizeLent (L : Nat) (p1 : Int32) (f : pd_M) (q : Int32) (g : pd_M) (e : fn_X8_sizeLent p1 f = some (q, g)) : pr_C L 2 106 [.ref 17, .int p1] (hH f) (some (.int q)) (hH g) := by
  refine pr_C.of (G := mt_X8_sizeLent) rfl rfl ?_
  show pr_G L 1 mt_X8_sizeLent (0, [(0, .ref 17), (1, .int p1)], [], hH f) _ _
  unfold fn_X8_sizeLent at e
  refine gs_aload_n rfl rfl ?_
  refine gs_bipush (x := 10) rfl (by decide) ?_
  obtain ⟨f1, ec2, e⟩ := ob1_some e
  refine gs_callvV (st := []) rfl (pr_C_le (by decide) (th_X8_leave L 10 f f1 ec2)) rfl rfl rfl (by decide) rfl (Or.inr (by decide)) ?_
  refine gs_aload_n rfl rfl ?_
  refine gs_get rfl (gd_r (b := 39) rfl rfl rfl) ?_
  refine gs_get rfl (gd_r (b := 45) rfl rfl rfl) ?_
  refine gs_iload_n rfl rfl ?_
  by_cases hb3 : pa_in p1 20 = true
  case neg => rw [if_neg hb3] at e; cases e
  rw [if_pos hb3] at e
  refine gs_aald rfl (gd_aa (b := (48 + p1.toNatClampNeg)) rfl (by decide) rfl hb3 rfl (arr_rf_45 (lt_of_in hb3))) ?_
  refine gs_get rfl (gd_i (sh_of (arr_sh_45 (lt_of_in hb3)) (by decide)) rfl) ?_
  refine gs_callsI (st := []) rfl (pr_C_le (by decide) (th_J6_bitCount_0f7a4 L (f1 (48 + p1.toNatClampNeg) 7) f1 _ rfl)) rfl rfl rfl (by decide) ?_
  obtain ⟨rfl, rfl⟩ := inj2 e
  exact gs_iret rfl rfl rfl rfl rfl
def fn_X8_sizeOfGiven (p1 : Int32) (f : pd_M) : Option (Int32 × pd_M) :=
  ob1 (fn_X8_leave 11 f) fun f1 =>
  ob2 (fn_X8_sizeLent p1 f1) fun r3 f4 =>
  if pa_in p1 20 = true then
  some ((r3 + (fn_J6_bitCount_0f7a4 (f4 (48 + p1.toNatClampNeg) 6))), f4)
  else none
set_option maxRecDepth 100000 in
set_option maxHeartbeats 4000000 in
theorem th_X8_sizeOfGiven (L : Nat) (p1 : Int32) (f : pd_M) (q : Int32) (g : pd_M) (e : fn_X8_sizeOfGiven p1 f = some (q, g)) : pr_C L 3 107 [.ref 17, .int p1] (hH f) (some (.int q)) (hH g) := by
  refine pr_C.of (G := mt_X8_sizeOfGiven) rfl rfl ?_
  show pr_G L 2 mt_X8_sizeOfGiven (0, [(0, .ref 17), (1, .int p1)], [], hH f) _ _
  unfold fn_X8_sizeOfGiven at e
  refine gs_aload_n rfl rfl ?_
  refine gs_bipush (x := 11) rfl (by decide) ?_
  obtain ⟨f1, ec2, e⟩ := ob1_some e
  refine gs_callvV (st := []) rfl (pr_C_le (by decide) (th_X8_leave L 11 f f1 ec2)) rfl rfl rfl (by decide) rfl (Or.inr (by decide)) ?_
  refine gs_aload_n rfl rfl ?_
  refine gs_iload_n rfl rfl ?_
  obtain ⟨r3, f4, ec5, e⟩ := ob2_some e
  refine gs_callvI (st := []) rfl (pr_C_le (by decide) (th_X8_sizeLent L p1 f1 r3 f4 ec5)) rfl rfl rfl (by decide) rfl (Or.inr (by decide)) ?_
  refine gs_aload_n rfl rfl ?_
  refine gs_get rfl (gd_r (b := 39) rfl rfl rfl) ?_
  refine gs_get rfl (gd_r (b := 45) rfl rfl rfl) ?_
  refine gs_iload_n rfl rfl ?_
  by_cases hb6 : pa_in p1 20 = true
  case neg => rw [if_neg hb6] at e; cases e
  rw [if_pos hb6] at e
  refine gs_aald rfl (gd_aa (b := (48 + p1.toNatClampNeg)) rfl (by decide) rfl hb6 rfl (arr_rf_45 (lt_of_in hb6))) ?_
  refine gs_get rfl (gd_i (sh_of (arr_sh_45 (lt_of_in hb6)) (by decide)) rfl) ?_
  refine gs_callsI (st := [.int r3]) rfl (pr_C_le (by decide) (th_J6_bitCount_0f7a4 L (f4 (48 + p1.toNatClampNeg) 6) f4 _ rfl)) rfl rfl rfl (by decide) ?_
  refine gs_iadd rfl ?_
  obtain ⟨rfl, rfl⟩ := inj2 e
  exact gs_iret rfl rfl rfl rfl rfl
def fn_X8_markOfLoose_0 (p1 : Int32) (p2 : Int32) (p3 : Int32) (f : pd_M) : Option (Int32 × pd_M) :=
  ob1 (fn_X8_leave 22 f) fun f1 =>
  ob2 (fn_X8_markOfGiven p1 f1) fun r3 f4 =>
  none
set_option maxRecDepth 100000 in
set_option maxHeartbeats 4000000 in
theorem th_X8_markOfLoose_0 (L : Nat) (p1 : Int32) (p2 : Int32) (p3 : Int32) (f : pd_M) (q : Int32) (g : pd_M) (e : fn_X8_markOfLoose_0 p1 p2 p3 f = some (q, g)) : pr_C L 4 113 [.ref 17, .int p1, .int p2, .int p3] (hH f) (some (.int q)) (hH g) := by
  refine pr_C.of (G := mt_X8_markOfLoose) rfl rfl ?_
  show pr_G L 3 mt_X8_markOfLoose (0, [(0, .ref 17), (1, .int p1), (2, .int p2), (3, .int p3)], [], hH f) _ _
  unfold fn_X8_markOfLoose_0 at e
  refine gs_aload_n rfl rfl ?_
  refine gs_bipush (x := 22) rfl (by decide) ?_
  obtain ⟨f1, ec2, e⟩ := ob1_some e
  refine gs_callvV (st := []) rfl (pr_C_le (by decide) (th_X8_leave L 22 f f1 ec2)) rfl rfl rfl (by decide) rfl (Or.inr (by decide)) ?_
  refine gs_aload_n rfl rfl ?_
  refine gs_iload_n rfl rfl ?_
  obtain ⟨r3, f4, ec5, e⟩ := ob2_some e
  refine gs_callvI (st := []) rfl (pr_C_le (by decide) (th_X8_markOfGiven L p1 f1 r3 f4 ec5)) rfl rfl rfl (by decide) rfl (Or.inr (by decide)) ?_
  refine gs_istore (lv' := [(4, .int r3), (0, .ref 17), (1, .int p1), (2, .int p2), (3, .int p3)]) rfl rfl ?_
  refine gs_iload rfl rfl ?_
  refine gs_aload_n rfl rfl ?_
  refine gs_iload_n rfl rfl ?_
  refine gs_iload_n rfl rfl ?_
  refine gs_iload_n rfl rfl ?_
  refine gs_iconst (x := 1) rfl (by decide) ?_
  refine gs_iadd rfl ?_
  cases e
def fn_X8_markOfQuarrel (p1 : Int32) (f : pd_M) : Option (Int32 × pd_M) :=
  ob1 (fn_X8_leave 23 f) fun f1 =>
  ob2 (fn_X8_markLent p1 f1) fun r3 f4 =>
  some ((r3 + 1000), f4)
set_option maxRecDepth 100000 in
set_option maxHeartbeats 4000000 in
theorem th_X8_markOfQuarrel (L : Nat) (p1 : Int32) (f : pd_M) (q : Int32) (g : pd_M) (e : fn_X8_markOfQuarrel p1 f = some (q, g)) : pr_C L 3 114 [.ref 17, .int p1] (hH f) (some (.int q)) (hH g) := by
  refine pr_C.of (G := mt_X8_markOfQuarrel) rfl rfl ?_
  show pr_G L 2 mt_X8_markOfQuarrel (0, [(0, .ref 17), (1, .int p1)], [], hH f) _ _
  unfold fn_X8_markOfQuarrel at e
  refine gs_aload_n rfl rfl ?_
  refine gs_bipush (x := 23) rfl (by decide) ?_
  obtain ⟨f1, ec2, e⟩ := ob1_some e
  refine gs_callvV (st := []) rfl (pr_C_le (by decide) (th_X8_leave L 23 f f1 ec2)) rfl rfl rfl (by decide) rfl (Or.inr (by decide)) ?_
  refine gs_aload_n rfl rfl ?_
  refine gs_iload_n rfl rfl ?_
  obtain ⟨r3, f4, ec5, e⟩ := ob2_some e
  refine gs_callvI (st := []) rfl (pr_C_le (by decide) (th_X8_markLent L p1 f1 r3 f4 ec5)) rfl rfl rfl (by decide) rfl (Or.inr (by decide)) ?_
  refine gs_sipush (x := 1000) rfl (by decide) ?_
  refine gs_iadd rfl ?_
  obtain ⟨rfl, rfl⟩ := inj2 e
  exact gs_iret rfl rfl rfl rfl rfl
def fn_X8_askMark_0 (p1 : Int32) (p2 : Int32) (p3 : Int32) (f : pd_M) : Option (Int32 × pd_M) :=
  if p3 ≤ 4 then
  if p2 = 1 then
  ob2 (fn_X8_markOfGiven p1 f) fun r3 f4 =>
  some (r3, f4)
  else
  if p2 = 2 then
  ob2 (fn_X8_markLent p1 f) fun r7 f8 =>
  some (r7, f8)
  else
  if p2 = 3 then
  ob2 (fn_X8_markOfGiven p1 f) fun r11 f12 =>
  some (r11, f12)
  else
  if p2 = 4 then
  ob2 (fn_X8_markOfLoose_0 p1 p2 p3 f) fun r15 f16 =>
  some (r15, f16)
  else
  if p2 = 5 then
  ob2 (fn_X8_markOfQuarrel p1 f) fun r19 f20 =>
  some (r19, f20)
  else
  ob2 (fn_X8_markLent p1 f) fun r22 f23 =>
  some (r22, f23)
  else
  some (0, f)
set_option maxRecDepth 100000 in
set_option maxHeartbeats 4000000 in
theorem th_X8_askMark_0 (L : Nat) (p1 : Int32) (p2 : Int32) (p3 : Int32) (f : pd_M) (q : Int32) (g : pd_M) (e : fn_X8_askMark_0 p1 p2 p3 f = some (q, g)) : pr_C L 5 105 [.ref 17, .int p1, .int p2, .int p3] (hH f) (some (.int q)) (hH g) := by
  refine pr_C.of (G := mt_X8_askMark) rfl rfl ?_
  show pr_G L 4 mt_X8_askMark (0, [(0, .ref 17), (1, .int p1), (2, .int p2), (3, .int p3)], [], hH f) _ _
  unfold fn_X8_askMark_0 at e
  refine gs_iload_n rfl rfl ?_
  refine gs_iconst (x := 4) rfl (by decide) ?_
  refine gs_le2 rfl (fun c1 => ?_) (fun c1 => ?_)
  · rw [if_pos c1] at e
    refine gs_iload_n rfl rfl ?_
    by_cases c2 : p2 = 1
    · rw [if_pos c2] at e
      refine gs_switch (t := 44) rfl (by rw [c2]; decide) ?_
      refine gs_aload_n rfl rfl ?_
      refine gs_iload_n rfl rfl ?_
      obtain ⟨r3, f4, ec5, e⟩ := ob2_some e
      refine gs_callvI (st := []) rfl (pr_C_le (by decide) (th_X8_markOfGiven L p1 f r3 f4 ec5)) rfl rfl rfl (by decide) rfl (Or.inr (by decide)) ?_
      obtain ⟨rfl, rfl⟩ := inj2 e
      exact gs_iret rfl rfl rfl rfl rfl
    · rw [if_neg c2] at e
      by_cases c6 : p2 = 2
      · rw [if_pos c6] at e
        refine gs_switch (t := 64) rfl (by rw [c6]; decide) ?_
        refine gs_aload_n rfl rfl ?_
        refine gs_iload_n rfl rfl ?_
        obtain ⟨r7, f8, ec9, e⟩ := ob2_some e
        refine gs_callvI (st := []) rfl (pr_C_le (by decide) (th_X8_markLent L p1 f r7 f8 ec9)) rfl rfl rfl (by decide) rfl (Or.inr (by decide)) ?_
        obtain ⟨rfl, rfl⟩ := inj2 e
        exact gs_iret rfl rfl rfl rfl rfl
      · rw [if_neg c6] at e
        by_cases c10 : p2 = 3
        · rw [if_pos c10] at e
          refine gs_switch (t := 44) rfl (by rw [c10]; decide) ?_
          refine gs_aload_n rfl rfl ?_
          refine gs_iload_n rfl rfl ?_
          obtain ⟨r11, f12, ec13, e⟩ := ob2_some e
          refine gs_callvI (st := []) rfl (pr_C_le (by decide) (th_X8_markOfGiven L p1 f r11 f12 ec13)) rfl rfl rfl (by decide) rfl (Or.inr (by decide)) ?_
          obtain ⟨rfl, rfl⟩ := inj2 e
          exact gs_iret rfl rfl rfl rfl rfl
        · rw [if_neg c10] at e
          by_cases c14 : p2 = 4
          · rw [if_pos c14] at e
            refine gs_switch (t := 50) rfl (by rw [c14]; decide) ?_
            refine gs_aload_n rfl rfl ?_
            refine gs_iload_n rfl rfl ?_
            refine gs_iload_n rfl rfl ?_
            refine gs_iload_n rfl rfl ?_
            obtain ⟨r15, f16, ec17, e⟩ := ob2_some e
            refine gs_callvI (st := []) rfl (pr_C_le (by decide) (th_X8_markOfLoose_0 L p1 p2 p3 f r15 f16 ec17)) rfl rfl rfl (by decide) rfl (Or.inr (by decide)) ?_
            obtain ⟨rfl, rfl⟩ := inj2 e
            exact gs_iret rfl rfl rfl rfl rfl
          · rw [if_neg c14] at e
            by_cases c18 : p2 = 5
            · rw [if_pos c18] at e
              refine gs_switch (t := 58) rfl (by rw [c18]; decide) ?_
              refine gs_aload_n rfl rfl ?_
              refine gs_iload_n rfl rfl ?_
              obtain ⟨r19, f20, ec21, e⟩ := ob2_some e
              refine gs_callvI (st := []) rfl (pr_C_le (by decide) (th_X8_markOfQuarrel L p1 f r19 f20 ec21)) rfl rfl rfl (by decide) rfl (Or.inr (by decide)) ?_
              obtain ⟨rfl, rfl⟩ := inj2 e
              exact gs_iret rfl rfl rfl rfl rfl
            · rw [if_neg c18] at e
              refine gs_switch (t := 64) rfl (sw_out (lo := 1) (hi := 5) (by decide) (fun k hk => by
                rcases (by omega : k = 1 ∨ k = 2 ∨ k = 3 ∨ k = 4 ∨ k = 5) with rfl | rfl | rfl | rfl | rfl
                · exact fun z => c2 (z.trans (by decide))
                · exact fun z => c6 (z.trans (by decide))
                · exact fun z => c10 (z.trans (by decide))
                · exact fun z => c14 (z.trans (by decide))
                · exact fun z => c18 (z.trans (by decide))) (by decide)) ?_
              refine gs_aload_n rfl rfl ?_
              refine gs_iload_n rfl rfl ?_
              obtain ⟨r22, f23, ec24, e⟩ := ob2_some e
              refine gs_callvI (st := []) rfl (pr_C_le (by decide) (th_X8_markLent L p1 f r22 f23 ec24)) rfl rfl rfl (by decide) rfl (Or.inr (by decide)) ?_
              obtain ⟨rfl, rfl⟩ := inj2 e
              exact gs_iret rfl rfl rfl rfl rfl
  · rw [if_neg c1] at e
    refine gs_iconst (x := 0) rfl (by decide) ?_
    obtain ⟨rfl, rfl⟩ := inj2 e
    exact gs_iret rfl rfl rfl rfl rfl
