def fn_X8_status (f : pd_M) : Int32 :=
  (f 17 8)
set_option maxRecDepth 100000 in
set_option maxHeartbeats 4000000 in
theorem th_X8_status (L : Nat)  (f : pd_M) (q : Int32) (e : fn_X8_status f = q) : pr_C L 1 85 [.ref 17] (hH f) (some (.int q)) (hH f) := by
  refine pr_C.of (G := mt_X8_status) rfl rfl ?_
  show pr_G L 0 mt_X8_status (0, [(0, .ref 17)], [], hH f) _ _
  unfold fn_X8_status at e
  refine gs_aload_n rfl rfl ?_
  refine gs_get rfl (gd_i rfl rfl) ?_
  subst e
  exact gs_iret rfl rfl rfl rfl rfl
def lp_X8_addHours_29 : Nat → Nat → Int32 → Int32 → Int32 → Int32 → pd_M → Option ((Int32) ⊕ (Int32))
  | 0, _, _, _, _, _, _ => none
  | n + 1, z0, z1, z2, z3, z4, f =>
    if sk z0 = (12, 5) then
    if 4 ≤ z4 then
    some (.inr (z3))
    else
    if pa_in z1 4 = true then
    if (((f (z0 + 4) z1.toNatClampNeg) >>> (z4 &&& 31)) &&& 1) = 0 then
    pn (z4 + 1) fun x9 =>
    lp_X8_addHours_29 n z0 z1 z2 z3 x9 f
    else
    ob1 (fn_X8_addHours_4 z0 z4 (z2 + 1) f) fun r10 =>
    if r10 = (-1000000) then
    some (.inl (-1000000))
    else
    pn ((z3 + r10)) fun x13 =>
    pn (z4 + 1) fun x14 =>
    lp_X8_addHours_29 n z0 z1 z2 x13 x14 f
    else none
    else none
def fn_X8_addHours (p1 : Nat) (p2 : Int32) (p3 : Int32) (f : pd_M) : Option (Int32) :=
  if sk p1 = (12, 5) then
  if 4 ≤ p3 then
  some (-1000000)
  else
  if pa_in p2 4 = true then
  if (f (p1 + 3) p2.toNatClampNeg) = (-1000000) then
  some (-1000000)
  else
  if pa_in p2 4 = true then
  pn ((f (p1 + 3) p2.toNatClampNeg)) fun x5 =>
  os1 (lp_X8_addHours_29 5000 p1 p2 p3 x5 0 f) (fun q => some q) fun y15 =>
  some y15
  else none
  else none
  else none
set_option maxRecDepth 100000 in
set_option maxHeartbeats 4000000 in
theorem tl_X8_addHours_29 (L : Nat) : ∀ (n : Nat) (z0 : Nat) (z1 : Int32) (z2 : Int32) (z3 : Int32) (z4 : Int32) (f : pd_M) (o : (Int32) ⊕ (Int32)), lp_X8_addHours_29 n z0 z1 z2 z3 z4 f = some o → (∀ q, o = .inl q → pr_G L 5 mt_X8_addHours (29, [(0, .ref z0), (1, .int z1), (2, .int z2), (3, .int z3), (4, .int z4)], [], hH f) (some (.int q)) (hH f)) ∧ (∀ (w0 : Int32), o = .inr (w0) → ∀ (r : Option Value) (h2 : ph_T), pr_G L 5 mt_X8_addHours (81, [(3, .int w0)], [], hH f) r h2 → pr_G L 5 mt_X8_addHours (29, [(0, .ref z0), (1, .int z1), (2, .int z2), (3, .int z3), (4, .int z4)], [], hH f) r h2) := by
  intro n
  induction n with
  | zero => intro z0 z1 z2 z3 z4 f o e; cases e
  | succ n ih =>
    intro z0 z1 z2 z3 z4 f o e
    refine ⟨fun q hq => ?_, fun w0 hq r h2 K => ?_⟩
    · subst hq
      unfold lp_X8_addHours_29 at e
      by_cases hk0 : sk z0 = (12, 5)
      case neg => rw [if_neg hk0] at e; cases e
      rw [if_pos hk0] at e
      refine gs_iload rfl rfl ?_
      refine gs_iconst (x := 4) rfl (by decide) ?_
      refine gs_ge2 rfl (fun c6 => ?_) (fun c6 => ?_)
      · rw [if_pos c6] at e
        cases e
      · rw [if_neg c6] at e
        refine gs_aload_n rfl rfl ?_
        refine gs_get rfl (gd_r (b := (z0 + 4)) (sh_of hk0 (by decide)) rfl (ref_12_3 hk0)) ?_
        refine gs_iload_n rfl rfl ?_
        by_cases hb7 : pa_in z1 4 = true
        case neg => rw [if_neg hb7] at e; cases e
        rw [if_pos hb7] at e
        refine gs_iald rfl (gd_ia (j := z1.toNatClampNeg) (sh_of (fam_12_3 hk0) (by decide)) hb7 rfl) ?_
        refine gs_iload rfl rfl ?_
        refine gs_ishr rfl ?_
        refine gs_iconst (x := 1) rfl (by decide) ?_
        refine gs_iand rfl ?_
        refine gs_eq0 rfl (fun c8 => ?_) (fun c8 => ?_)
        · rw [if_pos c8] at e
          obtain ⟨x9, hx9, e⟩ := pn_some e
          refine gs_iinc1 (x1 := x9) (c := 1) (lv' := [(4, .int x9), (0, .ref z0), (1, .int z1), (2, .int z2), (3, .int z3)]) rfl rfl (by decide) hx9 rfl ?_
          refine gs_goto rfl ?_
          refine gs_drop [1, 2, 3, 4, 0] rfl ?_
          exact (ih z0 z1 z2 z3 x9 f _ e).1 _ rfl
        · rw [if_neg c8] at e
          refine gs_aload_n rfl rfl ?_
          refine gs_iload rfl rfl ?_
          refine gs_iload_n rfl rfl ?_
          refine gs_iconst (x := 1) rfl (by decide) ?_
          refine gs_iadd rfl ?_
          obtain ⟨r10, ec11, e⟩ := ob1_some e
          refine gs_callsI (st := []) rfl (pr_C_le (by decide) (th_X8_addHours_4 L z0 z4 (z2 + 1) f r10 ec11)) rfl rfl rfl (by decide) ?_
          refine gs_istore (lv' := [(5, .int r10), (0, .ref z0), (1, .int z1), (2, .int z2), (3, .int z3), (4, .int z4)]) rfl rfl ?_
          refine gs_iload rfl rfl ?_
          refine gs_ldc (x := (-1000000)) rfl (by decide) ?_
          refine gs_ne2 rfl (fun c12 => ?_) (fun c12 => ?_)
          · rw [if_neg c12] at e
            refine gs_iload_n rfl rfl ?_
            refine gs_iload rfl rfl ?_
            refine gs_iadd rfl ?_
            obtain ⟨x13, hx13, e⟩ := pn_some e
            refine gs_topi hx13 ?_
            refine gs_istore_n (lv' := [(3, .int x13), (5, .int r10), (0, .ref z0), (1, .int z1), (2, .int z2), (4, .int z4)]) rfl rfl ?_
            obtain ⟨x14, hx14, e⟩ := pn_some e
            refine gs_iinc1 (x1 := x14) (c := 1) (lv' := [(4, .int x14), (3, .int x13), (5, .int r10), (0, .ref z0), (1, .int z1), (2, .int z2)]) rfl rfl (by decide) hx14 rfl ?_
            refine gs_goto rfl ?_
            refine gs_drop [3, 4, 5, 1, 0] rfl ?_
            exact (ih z0 z1 z2 x13 x14 f _ e).1 _ rfl
          · rw [if_pos c12] at e
            refine gs_ldc (x := (-1000000)) rfl (by decide) ?_
            obtain rfl := injl e
            exact gs_iret rfl rfl rfl rfl rfl
    · subst hq
      unfold lp_X8_addHours_29 at e
      by_cases hk0 : sk z0 = (12, 5)
      case neg => rw [if_neg hk0] at e; cases e
      rw [if_pos hk0] at e
      refine gs_iload rfl rfl ?_
      refine gs_iconst (x := 4) rfl (by decide) ?_
      refine gs_ge2 rfl (fun c6 => ?_) (fun c6 => ?_)
      · rw [if_pos c6] at e
        obtain rfl := injr1 e
        refine gs_drop [3] rfl ?_
        exact K
      · rw [if_neg c6] at e
        refine gs_aload_n rfl rfl ?_
        refine gs_get rfl (gd_r (b := (z0 + 4)) (sh_of hk0 (by decide)) rfl (ref_12_3 hk0)) ?_
        refine gs_iload_n rfl rfl ?_
        by_cases hb7 : pa_in z1 4 = true
        case neg => rw [if_neg hb7] at e; cases e
        rw [if_pos hb7] at e
        refine gs_iald rfl (gd_ia (j := z1.toNatClampNeg) (sh_of (fam_12_3 hk0) (by decide)) hb7 rfl) ?_
        refine gs_iload rfl rfl ?_
        refine gs_ishr rfl ?_
        refine gs_iconst (x := 1) rfl (by decide) ?_
        refine gs_iand rfl ?_
        refine gs_eq0 rfl (fun c8 => ?_) (fun c8 => ?_)
        · rw [if_pos c8] at e
          obtain ⟨x9, hx9, e⟩ := pn_some e
          refine gs_iinc1 (x1 := x9) (c := 1) (lv' := [(4, .int x9), (0, .ref z0), (1, .int z1), (2, .int z2), (3, .int z3)]) rfl rfl (by decide) hx9 rfl ?_
          refine gs_goto rfl ?_
          refine gs_drop [1, 2, 3, 4, 0] rfl ?_
          exact (ih z0 z1 z2 z3 x9 f _ e).2 w0 rfl _ _ K
        · rw [if_neg c8] at e
          refine gs_aload_n rfl rfl ?_
          refine gs_iload rfl rfl ?_
          refine gs_iload_n rfl rfl ?_
          refine gs_iconst (x := 1) rfl (by decide) ?_
          refine gs_iadd rfl ?_
          obtain ⟨r10, ec11, e⟩ := ob1_some e
          refine gs_callsI (st := []) rfl (pr_C_le (by decide) (th_X8_addHours_4 L z0 z4 (z2 + 1) f r10 ec11)) rfl rfl rfl (by decide) ?_
          refine gs_istore (lv' := [(5, .int r10), (0, .ref z0), (1, .int z1), (2, .int z2), (3, .int z3), (4, .int z4)]) rfl rfl ?_
          refine gs_iload rfl rfl ?_
          refine gs_ldc (x := (-1000000)) rfl (by decide) ?_
          refine gs_ne2 rfl (fun c12 => ?_) (fun c12 => ?_)
          · rw [if_neg c12] at e
            refine gs_iload_n rfl rfl ?_
            refine gs_iload rfl rfl ?_
            refine gs_iadd rfl ?_
            obtain ⟨x13, hx13, e⟩ := pn_some e
            refine gs_topi hx13 ?_
            refine gs_istore_n (lv' := [(3, .int x13), (5, .int r10), (0, .ref z0), (1, .int z1), (2, .int z2), (4, .int z4)]) rfl rfl ?_
            obtain ⟨x14, hx14, e⟩ := pn_some e
            refine gs_iinc1 (x1 := x14) (c := 1) (lv' := [(4, .int x14), (3, .int x13), (5, .int r10), (0, .ref z0), (1, .int z1), (2, .int z2)]) rfl rfl (by decide) hx14 rfl ?_
            refine gs_goto rfl ?_
            refine gs_drop [3, 4, 5, 1, 0] rfl ?_
            exact (ih z0 z1 z2 x13 x14 f _ e).2 w0 rfl _ _ K
          · rw [if_pos c12] at e
            refine gs_ldc (x := (-1000000)) rfl (by decide) ?_
            cases e
set_option maxRecDepth 100000 in
set_option maxHeartbeats 4000000 in
theorem th_X8_addHours (L : Nat) (p1 : Nat) (p2 : Int32) (p3 : Int32) (f : pd_M) (q : Int32) (e : fn_X8_addHours p1 p2 p3 f = some q) : pr_C L 6 94 [.ref p1, .int p2, .int p3] (hH f) (some (.int q)) (hH f) := by
  refine pr_C.of (G := mt_X8_addHours) rfl rfl ?_
  show pr_G L 5 mt_X8_addHours (0, [(0, .ref p1), (1, .int p2), (2, .int p3)], [], hH f) _ _
  unfold fn_X8_addHours at e
  by_cases hk1 : sk p1 = (12, 5)
  case neg => rw [if_neg hk1] at e; cases e
  rw [if_pos hk1] at e
  refine gs_iload_n rfl rfl ?_
  refine gs_iconst (x := 4) rfl (by decide) ?_
  refine gs_ge2 rfl (fun c1 => ?_) (fun c1 => ?_)
  · rw [if_pos c1] at e
    refine gs_ldc (x := (-1000000)) rfl (by decide) ?_
    obtain rfl := inj1 e
    exact gs_iret rfl rfl rfl rfl rfl
  · rw [if_neg c1] at e
    refine gs_aload_n rfl rfl ?_
    refine gs_get rfl (gd_r (b := (p1 + 3)) (sh_of hk1 (by decide)) rfl (ref_12_2 hk1)) ?_
    refine gs_iload_n rfl rfl ?_
    by_cases hb2 : pa_in p2 4 = true
    case neg => rw [if_neg hb2] at e; cases e
    rw [if_pos hb2] at e
    refine gs_iald rfl (gd_ia (j := p2.toNatClampNeg) (sh_of (fam_12_2 hk1) (by decide)) hb2 rfl) ?_
    refine gs_ldc (x := (-1000000)) rfl (by decide) ?_
    refine gs_ne2 rfl (fun c3 => ?_) (fun c3 => ?_)
    · rw [if_neg c3] at e
      refine gs_aload_n rfl rfl ?_
      refine gs_get rfl (gd_r (b := (p1 + 3)) (sh_of hk1 (by decide)) rfl (ref_12_2 hk1)) ?_
      refine gs_iload_n rfl rfl ?_
      by_cases hb4 : pa_in p2 4 = true
      case neg => rw [if_neg hb4] at e; cases e
      rw [if_pos hb4] at e
      refine gs_iald rfl (gd_ia (j := p2.toNatClampNeg) (sh_of (fam_12_2 hk1) (by decide)) hb4 rfl) ?_
      obtain ⟨x5, hx5, e⟩ := pn_some e
      refine gs_topi hx5 ?_
      refine gs_istore_n (lv' := [(3, .int x5), (0, .ref p1), (1, .int p2), (2, .int p3)]) rfl rfl ?_
      refine gs_iconst (x := 0) rfl (by decide) ?_
      refine gs_istore (lv' := [(4, .int 0), (3, .int x5), (0, .ref p1), (1, .int p2), (2, .int p3)]) rfl rfl ?_
      refine gs_drop [2, 3, 4, 1, 0] rfl ?_
      rcases os1_some e with ⟨q, el16, e⟩ | ⟨y15, el16, e⟩
      · skip
        obtain rfl := inj1 e
        exact (tl_X8_addHours_29 L 5000 p1 p2 p3 x5 0 f _ el16).1 _ rfl
      · refine (tl_X8_addHours_29 L 5000 p1 p2 p3 x5 0 f _ el16).2 y15 rfl _ _ ?_
        refine gs_iload_n rfl rfl ?_
        obtain rfl := inj1 e
        exact gs_iret rfl rfl rfl rfl rfl
    · rw [if_pos c3] at e
      refine gs_ldc (x := (-1000000)) rfl (by decide) ?_
      obtain rfl := inj1 e
      exact gs_iret rfl rfl rfl rfl rfl
def fn_X8_askSize (p1 : Int32) (p2 : Int32) (p3 : Int32) (f : pd_M) : Option (Int32 × pd_M) :=
  if p3 ≤ 4 then
  if p2 = 1 then
  ob2 (fn_X8_sizeOfGiven p1 f) fun r3 f4 =>
  some (r3, f4)
  else
  if p2 = 2 then
  ob2 (fn_X8_sizeOfRefuses_2 p1 p2 p3 f) fun r7 f8 =>
  some (r7, f8)
  else
  if p2 = 3 then
  ob2 (fn_X8_sizeOfBefore p1 f) fun r11 f12 =>
  some (r11, f12)
  else
  if p2 = 4 then
  ob2 (fn_X8_sizeOfGiven p1 f) fun r15 f16 =>
  some (r15, f16)
  else
  if p2 = 5 then
  ob2 (fn_X8_sizeOfQuarrel p1 f) fun r19 f20 =>
  some (r19, f20)
  else
  ob2 (fn_X8_sizeLent p1 f) fun r22 f23 =>
  some (r22, f23)
  else
  some (0, f)
set_option maxRecDepth 100000 in
set_option maxHeartbeats 4000000 in
theorem th_X8_askSize (L : Nat) (p1 : Int32) (p2 : Int32) (p3 : Int32) (f : pd_M) (q : Int32) (g : pd_M) (e : fn_X8_askSize p1 p2 p3 f = some (q, g)) : pr_C L 9 104 [.ref 17, .int p1, .int p2, .int p3] (hH f) (some (.int q)) (hH g) := by
  refine pr_C.of (G := mt_X8_askSize) rfl rfl ?_
  show pr_G L 8 mt_X8_askSize (0, [(0, .ref 17), (1, .int p1), (2, .int p2), (3, .int p3)], [], hH f) _ _
  unfold fn_X8_askSize at e
  refine gs_iload_n rfl rfl ?_
  refine gs_iconst (x := 4) rfl (by decide) ?_
  refine gs_le2 rfl (fun c1 => ?_) (fun c1 => ?_)
  · rw [if_pos c1] at e
    refine gs_iload_n rfl rfl ?_
    by_cases c2 : p2 = 1
    · rw [if_pos c2] at e
      refine gs_switch (t := 44) rfl (by rw [c2]; decide) ?_
      refine gs_aload_n rfl rfl ?_
      refine gs_iload_n rfl rfl ?_
      obtain ⟨r3, f4, ec5, e⟩ := ob2_some e
      refine gs_callvI (st := []) rfl (pr_C_le (by decide) (th_X8_sizeOfGiven L p1 f r3 f4 ec5)) rfl rfl rfl (by decide) rfl (Or.inr (by decide)) ?_
      obtain ⟨rfl, rfl⟩ := inj2 e
      exact gs_iret rfl rfl rfl rfl rfl
    · rw [if_neg c2] at e
      by_cases c6 : p2 = 2
      · rw [if_pos c6] at e
        refine gs_switch (t := 56) rfl (by rw [c6]; decide) ?_
        refine gs_aload_n rfl rfl ?_
        refine gs_iload_n rfl rfl ?_
        refine gs_iload_n rfl rfl ?_
        refine gs_iload_n rfl rfl ?_
        obtain ⟨r7, f8, ec9, e⟩ := ob2_some e
        refine gs_callvI (st := []) rfl (pr_C_le (by decide) (th_X8_sizeOfRefuses_2 L p1 p2 p3 f r7 f8 ec9)) rfl rfl rfl (by decide) rfl (Or.inr (by decide)) ?_
        obtain ⟨rfl, rfl⟩ := inj2 e
        exact gs_iret rfl rfl rfl rfl rfl
      · rw [if_neg c6] at e
        by_cases c10 : p2 = 3
        · rw [if_pos c10] at e
          refine gs_switch (t := 50) rfl (by rw [c10]; decide) ?_
          refine gs_aload_n rfl rfl ?_
          refine gs_iload_n rfl rfl ?_
          obtain ⟨r11, f12, ec13, e⟩ := ob2_some e
          refine gs_callvI (st := []) rfl (pr_C_le (by decide) (th_X8_sizeOfBefore L p1 f r11 f12 ec13)) rfl rfl rfl (by decide) rfl (Or.inr (by decide)) ?_
          obtain ⟨rfl, rfl⟩ := inj2 e
          exact gs_iret rfl rfl rfl rfl rfl
        · rw [if_neg c10] at e
          by_cases c14 : p2 = 4
          · rw [if_pos c14] at e
            refine gs_switch (t := 44) rfl (by rw [c14]; decide) ?_
            refine gs_aload_n rfl rfl ?_
            refine gs_iload_n rfl rfl ?_
            obtain ⟨r15, f16, ec17, e⟩ := ob2_some e
            refine gs_callvI (st := []) rfl (pr_C_le (by decide) (th_X8_sizeOfGiven L p1 f r15 f16 ec17)) rfl rfl rfl (by decide) rfl (Or.inr (by decide)) ?_
            obtain ⟨rfl, rfl⟩ := inj2 e
            exact gs_iret rfl rfl rfl rfl rfl
          · rw [if_neg c14] at e
            by_cases c18 : p2 = 5
            · rw [if_pos c18] at e
              refine gs_switch (t := 64) rfl (by rw [c18]; decide) ?_
              refine gs_aload_n rfl rfl ?_
              refine gs_iload_n rfl rfl ?_
              obtain ⟨r19, f20, ec21, e⟩ := ob2_some e
              refine gs_callvI (st := []) rfl (pr_C_le (by decide) (th_X8_sizeOfQuarrel L p1 f r19 f20 ec21)) rfl rfl rfl (by decide) rfl (Or.inr (by decide)) ?_
              obtain ⟨rfl, rfl⟩ := inj2 e
              exact gs_iret rfl rfl rfl rfl rfl
            · rw [if_neg c18] at e
              refine gs_switch (t := 70) rfl (sw_out (lo := 1) (hi := 5) (by decide) (fun k hk => by
                rcases (by omega : k = 1 ∨ k = 2 ∨ k = 3 ∨ k = 4 ∨ k = 5) with rfl | rfl | rfl | rfl | rfl
                · exact fun z => c2 (z.trans (by decide))
                · exact fun z => c6 (z.trans (by decide))
                · exact fun z => c10 (z.trans (by decide))
                · exact fun z => c14 (z.trans (by decide))
                · exact fun z => c18 (z.trans (by decide))) (by decide)) ?_
              refine gs_aload_n rfl rfl ?_
              refine gs_iload_n rfl rfl ?_
              obtain ⟨r22, f23, ec24, e⟩ := ob2_some e
              refine gs_callvI (st := []) rfl (pr_C_le (by decide) (th_X8_sizeLent L p1 f r22 f23 ec24)) rfl rfl rfl (by decide) rfl (Or.inr (by decide)) ?_
              obtain ⟨rfl, rfl⟩ := inj2 e
              exact gs_iret rfl rfl rfl rfl rfl
  · rw [if_neg c1] at e
    refine gs_iconst (x := 0) rfl (by decide) ?_
    obtain ⟨rfl, rfl⟩ := inj2 e
    exact gs_iret rfl rfl rfl rfl rfl
def fn_X8_askMark (p1 : Int32) (p2 : Int32) (p3 : Int32) (f : pd_M) : Option (Int32 × pd_M) :=
  if p3 ≤ 4 then
  if p2 = 1 then
  ob2 (fn_X8_markOfGiven p1 f) fun r3 f4 =>
  some (r3, f4)
  else
  if p2 = 2 then
  ob2 (fn_X8_markLent p1 f) fun r7 f8 =>
  some (r7, f8)
  else
  if p2 = 3 then
  ob2 (fn_X8_markOfGiven p1 f) fun r11 f12 =>
  some (r11, f12)
  else
  if p2 = 4 then
  ob2 (fn_X8_markOfLoose_2 p1 p2 p3 f) fun r15 f16 =>
  some (r15, f16)
  else
  if p2 = 5 then
  ob2 (fn_X8_markOfQuarrel p1 f) fun r19 f20 =>
  some (r19, f20)
  else
  ob2 (fn_X8_markLent p1 f) fun r22 f23 =>
  some (r22, f23)
  else
  some (0, f)
set_option maxRecDepth 100000 in
set_option maxHeartbeats 4000000 in
theorem th_X8_askMark (L : Nat) (p1 : Int32) (p2 : Int32) (p3 : Int32) (f : pd_M) (q : Int32) (g : pd_M) (e : fn_X8_askMark p1 p2 p3 f = some (q, g)) : pr_C L 9 105 [.ref 17, .int p1, .int p2, .int p3] (hH f) (some (.int q)) (hH g) := by
  refine pr_C.of (G := mt_X8_askMark) rfl rfl ?_
  show pr_G L 8 mt_X8_askMark (0, [(0, .ref 17), (1, .int p1), (2, .int p2), (3, .int p3)], [], hH f) _ _
  unfold fn_X8_askMark at e
  refine gs_iload_n rfl rfl ?_
  refine gs_iconst (x := 4) rfl (by decide) ?_
  refine gs_le2 rfl (fun c1 => ?_) (fun c1 => ?_)
  · rw [if_pos c1] at e
    refine gs_iload_n rfl rfl ?_
    by_cases c2 : p2 = 1
    · rw [if_pos c2] at e
      refine gs_switch (t := 44) rfl (by rw [c2]; decide) ?_
      refine gs_aload_n rfl rfl ?_
      refine gs_iload_n rfl rfl ?_
      obtain ⟨r3, f4, ec5, e⟩ := ob2_some e
      refine gs_callvI (st := []) rfl (pr_C_le (by decide) (th_X8_markOfGiven L p1 f r3 f4 ec5)) rfl rfl rfl (by decide) rfl (Or.inr (by decide)) ?_
      obtain ⟨rfl, rfl⟩ := inj2 e
      exact gs_iret rfl rfl rfl rfl rfl
    · rw [if_neg c2] at e
      by_cases c6 : p2 = 2
      · rw [if_pos c6] at e
        refine gs_switch (t := 64) rfl (by rw [c6]; decide) ?_
        refine gs_aload_n rfl rfl ?_
        refine gs_iload_n rfl rfl ?_
        obtain ⟨r7, f8, ec9, e⟩ := ob2_some e
        refine gs_callvI (st := []) rfl (pr_C_le (by decide) (th_X8_markLent L p1 f r7 f8 ec9)) rfl rfl rfl (by decide) rfl (Or.inr (by decide)) ?_
        obtain ⟨rfl, rfl⟩ := inj2 e
        exact gs_iret rfl rfl rfl rfl rfl
      · rw [if_neg c6] at e
        by_cases c10 : p2 = 3
        · rw [if_pos c10] at e
          refine gs_switch (t := 44) rfl (by rw [c10]; decide) ?_
          refine gs_aload_n rfl rfl ?_
          refine gs_iload_n rfl rfl ?_
          obtain ⟨r11, f12, ec13, e⟩ := ob2_some e
          refine gs_callvI (st := []) rfl (pr_C_le (by decide) (th_X8_markOfGiven L p1 f r11 f12 ec13)) rfl rfl rfl (by decide) rfl (Or.inr (by decide)) ?_
          obtain ⟨rfl, rfl⟩ := inj2 e
          exact gs_iret rfl rfl rfl rfl rfl
        · rw [if_neg c10] at e
          by_cases c14 : p2 = 4
          · rw [if_pos c14] at e
            refine gs_switch (t := 50) rfl (by rw [c14]; decide) ?_
            refine gs_aload_n rfl rfl ?_
            refine gs_iload_n rfl rfl ?_
            refine gs_iload_n rfl rfl ?_
            refine gs_iload_n rfl rfl ?_
            obtain ⟨r15, f16, ec17, e⟩ := ob2_some e
            refine gs_callvI (st := []) rfl (pr_C_le (by decide) (th_X8_markOfLoose_2 L p1 p2 p3 f r15 f16 ec17)) rfl rfl rfl (by decide) rfl (Or.inr (by decide)) ?_
            obtain ⟨rfl, rfl⟩ := inj2 e
            exact gs_iret rfl rfl rfl rfl rfl
          · rw [if_neg c14] at e
            by_cases c18 : p2 = 5
            · rw [if_pos c18] at e
              refine gs_switch (t := 58) rfl (by rw [c18]; decide) ?_
              refine gs_aload_n rfl rfl ?_
              refine gs_iload_n rfl rfl ?_
              obtain ⟨r19, f20, ec21, e⟩ := ob2_some e
              refine gs_callvI (st := []) rfl (pr_C_le (by decide) (th_X8_markOfQuarrel L p1 f r19 f20 ec21)) rfl rfl rfl (by decide) rfl (Or.inr (by decide)) ?_
              obtain ⟨rfl, rfl⟩ := inj2 e
              exact gs_iret rfl rfl rfl rfl rfl
            · rw [if_neg c18] at e
              refine gs_switch (t := 64) rfl (sw_out (lo := 1) (hi := 5) (by decide) (fun k hk => by
                rcases (by omega : k = 1 ∨ k = 2 ∨ k = 3 ∨ k = 4 ∨ k = 5) with rfl | rfl | rfl | rfl | rfl
                · exact fun z => c2 (z.trans (by decide))
                · exact fun z => c6 (z.trans (by decide))
                · exact fun z => c10 (z.trans (by decide))
                · exact fun z => c14 (z.trans (by decide))
                · exact fun z => c18 (z.trans (by decide))) (by decide)) ?_
              refine gs_aload_n rfl rfl ?_
              refine gs_iload_n rfl rfl ?_
              obtain ⟨r22, f23, ec24, e⟩ := ob2_some e
              refine gs_callvI (st := []) rfl (pr_C_le (by decide) (th_X8_markLent L p1 f r22 f23 ec24)) rfl rfl rfl (by decide) rfl (Or.inr (by decide)) ?_
              obtain ⟨rfl, rfl⟩ := inj2 e
              exact gs_iret rfl rfl rfl rfl rfl
  · rw [if_neg c1] at e
    refine gs_iconst (x := 0) rfl (by decide) ?_
    obtain ⟨rfl, rfl⟩ := inj2 e
    exact gs_iret rfl rfl rfl rfl rfl
def fn_X8_sizeOfRefuses (p1 : Int32) (p2 : Int32) (p3 : Int32) (f : pd_M) : Option (Int32 × pd_M) :=
  ob1 (fn_X8_leave 13 f) fun f1 =>
  ob2 (fn_X8_sizeLent p1 f1) fun r3 f4 =>
  ob2 (fn_X8_askMark_1 p1 p2 (p3 + 1) f4) fun r6 f7 =>
  some ((r3 - r6), f7)
set_option maxRecDepth 100000 in
set_option maxHeartbeats 4000000 in
theorem th_X8_sizeOfRefuses (L : Nat) (p1 : Int32) (p2 : Int32) (p3 : Int32) (f : pd_M) (q : Int32) (g : pd_M) (e : fn_X8_sizeOfRefuses p1 p2 p3 f = some (q, g)) : pr_C L 8 109 [.ref 17, .int p1, .int p2, .int p3] (hH f) (some (.int q)) (hH g) := by
  refine pr_C.of (G := mt_X8_sizeOfRefuses) rfl rfl ?_
  show pr_G L 7 mt_X8_sizeOfRefuses (0, [(0, .ref 17), (1, .int p1), (2, .int p2), (3, .int p3)], [], hH f) _ _
  unfold fn_X8_sizeOfRefuses at e
  refine gs_aload_n rfl rfl ?_
  refine gs_bipush (x := 13) rfl (by decide) ?_
  obtain ⟨f1, ec2, e⟩ := ob1_some e
  refine gs_callvV (st := []) rfl (pr_C_le (by decide) (th_X8_leave L 13 f f1 ec2)) rfl rfl rfl (by decide) rfl (Or.inr (by decide)) ?_
  refine gs_aload_n rfl rfl ?_
  refine gs_iload_n rfl rfl ?_
  obtain ⟨r3, f4, ec5, e⟩ := ob2_some e
  refine gs_callvI (st := []) rfl (pr_C_le (by decide) (th_X8_sizeLent L p1 f1 r3 f4 ec5)) rfl rfl rfl (by decide) rfl (Or.inr (by decide)) ?_
  refine gs_istore (lv' := [(4, .int r3), (0, .ref 17), (1, .int p1), (2, .int p2), (3, .int p3)]) rfl rfl ?_
  refine gs_iload rfl rfl ?_
  refine gs_aload_n rfl rfl ?_
  refine gs_iload_n rfl rfl ?_
  refine gs_iload_n rfl rfl ?_
  refine gs_iload_n rfl rfl ?_
  refine gs_iconst (x := 1) rfl (by decide) ?_
  refine gs_iadd rfl ?_
  obtain ⟨r6, f7, ec8, e⟩ := ob2_some e
  refine gs_callvI (st := [.int r3]) rfl (pr_C_le (by decide) (th_X8_askMark_1 L p1 p2 (p3 + 1) f4 r6 f7 ec8)) rfl rfl rfl (by decide) rfl (Or.inr (by decide)) ?_
  refine gs_isub rfl ?_
  obtain ⟨rfl, rfl⟩ := inj2 e
  exact gs_iret rfl rfl rfl rfl rfl
def fn_X8_markOfLoose (p1 : Int32) (p2 : Int32) (p3 : Int32) (f : pd_M) : Option (Int32 × pd_M) :=
  ob1 (fn_X8_leave 22 f) fun f1 =>
  ob2 (fn_X8_markOfGiven p1 f1) fun r3 f4 =>
  ob2 (fn_X8_askSize_1 p1 p2 (p3 + 1) f4) fun r6 f7 =>
  some ((r3 + r6), f7)
set_option maxRecDepth 100000 in
set_option maxHeartbeats 4000000 in
theorem th_X8_markOfLoose (L : Nat) (p1 : Int32) (p2 : Int32) (p3 : Int32) (f : pd_M) (q : Int32) (g : pd_M) (e : fn_X8_markOfLoose p1 p2 p3 f = some (q, g)) : pr_C L 8 113 [.ref 17, .int p1, .int p2, .int p3] (hH f) (some (.int q)) (hH g) := by
  refine pr_C.of (G := mt_X8_markOfLoose) rfl rfl ?_
  show pr_G L 7 mt_X8_markOfLoose (0, [(0, .ref 17), (1, .int p1), (2, .int p2), (3, .int p3)], [], hH f) _ _
  unfold fn_X8_markOfLoose at e
  refine gs_aload_n rfl rfl ?_
  refine gs_bipush (x := 22) rfl (by decide) ?_
  obtain ⟨f1, ec2, e⟩ := ob1_some e
  refine gs_callvV (st := []) rfl (pr_C_le (by decide) (th_X8_leave L 22 f f1 ec2)) rfl rfl rfl (by decide) rfl (Or.inr (by decide)) ?_
  refine gs_aload_n rfl rfl ?_
  refine gs_iload_n rfl rfl ?_
  obtain ⟨r3, f4, ec5, e⟩ := ob2_some e
  refine gs_callvI (st := []) rfl (pr_C_le (by decide) (th_X8_markOfGiven L p1 f1 r3 f4 ec5)) rfl rfl rfl (by decide) rfl (Or.inr (by decide)) ?_
  refine gs_istore (lv' := [(4, .int r3), (0, .ref 17), (1, .int p1), (2, .int p2), (3, .int p3)]) rfl rfl ?_
  refine gs_iload rfl rfl ?_
  refine gs_aload_n rfl rfl ?_
  refine gs_iload_n rfl rfl ?_
  refine gs_iload_n rfl rfl ?_
  refine gs_iload_n rfl rfl ?_
  refine gs_iconst (x := 1) rfl (by decide) ?_
  refine gs_iadd rfl ?_
  obtain ⟨r6, f7, ec8, e⟩ := ob2_some e
  refine gs_callvI (st := [.int r3]) rfl (pr_C_le (by decide) (th_X8_askSize_1 L p1 p2 (p3 + 1) f4 r6 f7 ec8)) rfl rfl rfl (by decide) rfl (Or.inr (by decide)) ?_
  refine gs_iadd rfl ?_
  obtain ⟨rfl, rfl⟩ := inj2 e
  exact gs_iret rfl rfl rfl rfl rfl
def fn_X9_in (p1 : Int64) (p2 : Int64) (p3 : Int64) : Int32 :=
  if (lg_cmp p1 p2) < 0 then
  0
  else
  if 0 < (lg_cmp p1 p3) then
  0
  else
  1
set_option maxRecDepth 100000 in
set_option maxHeartbeats 4000000 in
theorem th_X9_in (L : Nat) (p1 : Int64) (p2 : Int64) (p3 : Int64) (f : pd_M) (q : Int32) (e : fn_X9_in p1 p2 p3 = q) : pr_C L 1 116 [.long p1, .long p2, .long p3] (hH f) (some (.int q)) (hH f) := by
  refine pr_C.of (G := mt_X9_in) rfl rfl ?_
  show pr_G L 0 mt_X9_in (0, [(0, .long p1), (2, .long p2), (4, .long p3)], [], hH f) _ _
  unfold fn_X9_in at e
  refine gs_lload_n rfl rfl ?_
  refine gs_lload_n rfl rfl ?_
  refine gs_lcmp rfl ?_
  refine gs_lt0 rfl (fun c1 => ?_) (fun c1 => ?_)
  · rw [if_pos c1] at e
    refine gs_iconst (x := 0) rfl (by decide) ?_
    subst e
    exact gs_iret rfl rfl (by decide) rfl rfl
  · rw [if_neg c1] at e
    refine gs_lload_n rfl rfl ?_
    refine gs_lload rfl rfl ?_
    refine gs_lcmp rfl ?_
    refine gs_gt0 rfl (fun c2 => ?_) (fun c2 => ?_)
    · rw [if_pos c2] at e
      refine gs_iconst (x := 0) rfl (by decide) ?_
      subst e
      exact gs_iret rfl rfl (by decide) rfl rfl
    · rw [if_neg c2] at e
      refine gs_iconst (x := 1) rfl (by decide) ?_
      refine gs_goto rfl ?_
      subst e
      exact gs_iret rfl rfl (by decide) rfl rfl
def fn_X9_finding (p1 : Int32) (f : pd_M) : Option (Int32 × pd_M) :=
  pn ((pi_up f 110 1 p1)) fun f1 =>
  some (((-1000010) - p1), f1)
set_option maxRecDepth 100000 in
set_option maxHeartbeats 4000000 in
theorem th_X9_finding (L : Nat) (p1 : Int32) (f : pd_M) (q : Int32) (g : pd_M) (e : fn_X9_finding p1 f = some (q, g)) : pr_C L 1 117 [.ref 110, .int p1] (hH f) (some (.int q)) (hH g) := by
  refine pr_C.of (G := mt_X9_finding) rfl rfl ?_
  show pr_G L 0 mt_X9_finding (0, [(0, .ref 110), (1, .int p1)], [], hH f) _ _
  unfold fn_X9_finding at e
  refine gs_aload_n rfl rfl ?_
  refine gs_iload_n rfl rfl ?_
  refine gs_put rfl (gd_pi rfl rfl) ?_
  obtain ⟨f1, hf1, e⟩ := pn_some e
  refine gs_heap hf1 ?_
  refine gs_ldc (x := (-1000010)) rfl (by decide) ?_
  refine gs_iload_n rfl rfl ?_
  refine gs_isub rfl ?_
  obtain ⟨rfl, rfl⟩ := inj2 e
  exact gs_iret rfl rfl rfl rfl rfl
def fn_X9_isSheet (p1 : Int32) : Option (Int32) :=
  if (fn_X9_in (p1.toInt64) 0 7) = 0 ∨ (fn_X9_in (p1.toInt64) 0 7) = 1 then some (fn_X9_in (p1.toInt64) 0 7) else none
set_option maxRecDepth 100000 in
set_option maxHeartbeats 4000000 in
theorem th_X9_isSheet (L : Nat) (p1 : Int32) (f : pd_M) (q : Int32) (e : fn_X9_isSheet p1 = some q) : pr_C L 2 118 [.int p1] (hH f) (some (.int q)) (hH f) := by
  refine pr_C.of (G := mt_X9_isSheet) rfl rfl ?_
  show pr_G L 1 mt_X9_isSheet (0, [(0, .int p1)], [], hH f) _ _
  unfold fn_X9_isSheet at e
  refine gs_iload_n rfl rfl ?_
  refine gs_i2l rfl ?_
  refine gs_lconst (w := 0) rfl (by decide) ?_
  refine gs_ldc2 (w := 7) rfl (by decide) ?_
  refine gs_callsI (st := []) rfl (pr_C_le (by decide) (th_X9_in L (p1.toInt64) 0 7 f _ rfl)) rfl rfl rfl (by decide) ?_
  by_cases hz : (fn_X9_in (p1.toInt64) 0 7) = 0 ∨ (fn_X9_in (p1.toInt64) 0 7) = 1
  · rw [if_pos hz] at e
    obtain rfl := inj1 e
    exact gs_iret rfl rfl (nar_z hz) rfl rfl
  · rw [if_neg hz] at e
    cases e
def lp_X9_sheet_65 : Nat → Int32 → Int32 → Int32 → pd_M → Option (pd_M)
  | 0, _, _, _, _ => none
  | n + 1, z1, z3, z4, f =>
    if 40 ≤ z4 then
    some (f)
    else
    if pa_in ((40 * z1) + z4) 320 = true then
    pn ((pi_up f 113 (((40 * z1) + z4).toNatClampNeg) 0)) fun f15 =>
    pn (z4 + 1) fun x16 =>
    lp_X9_sheet_65 n z1 z3 x16 f15
    else none
def fn_X9_sheet (p1 : Int32) (p2 : Int32) (p3 : Int32) (f : pd_M) : Option (Int32 × pd_M) :=
  pn ((pi_up f 110 0 0)) fun f1 =>
  ob1 (fn_X9_isSheet p1) fun r2 =>
  if r2 = 0 then
  some ((-1000001), f1)
  else
  if (fn_X9_in (p2.toInt64) 0 2) = 0 then
  some ((-1000001), f1)
  else
  if p3 ≤ 40 then
  pn ((pi_up f1 110 1 0)) fun f7 =>
  if 0 ≤ p3 then
  if pa_in p1 8 = true then
  pn ((pi_up f7 111 (p1.toNatClampNeg) p2)) fun f10 =>
  if pa_in p1 8 = true then
  pn ((pi_up f10 112 (p1.toNatClampNeg) p3)) fun f12 =>
  ob1 (lp_X9_sheet_65 5000 p1 p3 0 f12) fun f17 =>
  some (p3, f17)
  else none
  else none
  else
  ob2 (fn_X9_finding 4 f7) fun r19 f20 =>
  some (r19, f20)
  else
  some ((-1000001), f1)
set_option maxRecDepth 100000 in
set_option maxHeartbeats 4000000 in
theorem tl_X9_sheet_65 (L : Nat) : ∀ (n : Nat) (z1 : Int32) (z3 : Int32) (z4 : Int32) (f : pd_M) (w0 : pd_M) (r : Option Value) (h2 : ph_T), lp_X9_sheet_65 n z1 z3 z4 f = some (w0) → pr_G L 2 mt_X9_sheet (91, [(3, .int z3)], [], hH w0) r h2 → pr_G L 2 mt_X9_sheet (65, [(0, .ref 110), (1, .int z1), (3, .int z3), (4, .int z4)], [], hH f) r h2 := by
  intro n
  induction n with
  | zero => intro z1 z3 z4 f w0 r h2 e; cases e
  | succ n ih =>
    intro z1 z3 z4 f w0 r h2 e K
    unfold lp_X9_sheet_65 at e
    refine gs_iload rfl rfl ?_
    refine gs_bipush (x := 40) rfl (by decide) ?_
    refine gs_ge2 rfl (fun c13 => ?_) (fun c13 => ?_)
    · rw [if_pos c13] at e
      obtain rfl := inj1 e
      refine gs_drop [2] rfl ?_
      exact K
    · rw [if_neg c13] at e
      refine gs_aload_n rfl rfl ?_
      refine gs_get rfl (gd_r (b := 113) rfl rfl rfl) ?_
      refine gs_bipush (x := 40) rfl (by decide) ?_
      refine gs_iload_n rfl rfl ?_
      refine gs_imul rfl ?_
      refine gs_iload rfl rfl ?_
      refine gs_iadd rfl ?_
      refine gs_iconst (x := 0) rfl (by decide) ?_
      by_cases hb14 : pa_in ((40 * z1) + z4) 320 = true
      case neg => rw [if_neg hb14] at e; cases e
      rw [if_pos hb14] at e
      refine gs_iast rfl (gd_si (j := ((40 * z1) + z4).toNatClampNeg) rfl (by decide) hb14 rfl) ?_
      obtain ⟨f15, hf15, e⟩ := pn_some e
      refine gs_heap hf15 ?_
      obtain ⟨x16, hx16, e⟩ := pn_some e
      refine gs_iinc1 (x1 := x16) (c := 1) (lv' := [(4, .int x16), (0, .ref 110), (1, .int z1), (3, .int z3)]) rfl rfl (by decide) hx16 rfl ?_
      refine gs_goto rfl ?_
      refine gs_drop [1, 2, 3, 0] rfl ?_
      exact ih z1 z3 x16 f15 w0 _ _ e K
set_option maxRecDepth 100000 in
set_option maxHeartbeats 4000000 in
theorem th_X9_sheet (L : Nat) (p1 : Int32) (p2 : Int32) (p3 : Int32) (f : pd_M) (q : Int32) (g : pd_M) (e : fn_X9_sheet p1 p2 p3 f = some (q, g)) : pr_C L 3 119 [.ref 110, .int p1, .int p2, .int p3] (hH f) (some (.int q)) (hH g) := by
  refine pr_C.of (G := mt_X9_sheet) rfl rfl ?_
  show pr_G L 2 mt_X9_sheet (0, [(0, .ref 110), (1, .int p1), (2, .int p2), (3, .int p3)], [], hH f) _ _
  unfold fn_X9_sheet at e
  refine gs_aload_n rfl rfl ?_
  refine gs_iconst (x := 0) rfl (by decide) ?_
  refine gs_put rfl (gd_pi rfl rfl) ?_
  obtain ⟨f1, hf1, e⟩ := pn_some e
  refine gs_heap hf1 ?_
  refine gs_iload_n rfl rfl ?_
  obtain ⟨r2, ec3, e⟩ := ob1_some e
  refine gs_callsI (st := []) rfl (pr_C_le (by decide) (th_X9_isSheet L p1 f1 r2 ec3)) rfl rfl rfl (by decide) ?_
  refine gs_eq0 rfl (fun c4 => ?_) (fun c4 => ?_)
  · rw [if_pos c4] at e
    refine gs_ldc (x := (-1000001)) rfl (by decide) ?_
    obtain ⟨rfl, rfl⟩ := inj2 e
    exact gs_iret rfl rfl rfl rfl rfl
  · rw [if_neg c4] at e
    refine gs_iload_n rfl rfl ?_
    refine gs_i2l rfl ?_
    refine gs_lconst (w := 0) rfl (by decide) ?_
    refine gs_ldc2 (w := 2) rfl (by decide) ?_
    refine gs_callsI (st := []) rfl (pr_C_le (by decide) (th_X9_in L (p2.toInt64) 0 2 f1 _ rfl)) rfl rfl rfl (by decide) ?_
    refine gs_eq0 rfl (fun c5 => ?_) (fun c5 => ?_)
    · rw [if_pos c5] at e
      refine gs_ldc (x := (-1000001)) rfl (by decide) ?_
      obtain ⟨rfl, rfl⟩ := inj2 e
      exact gs_iret rfl rfl rfl rfl rfl
    · rw [if_neg c5] at e
      refine gs_iload_n rfl rfl ?_
      refine gs_bipush (x := 40) rfl (by decide) ?_
      refine gs_le2 rfl (fun c6 => ?_) (fun c6 => ?_)
      · rw [if_pos c6] at e
        refine gs_aload_n rfl rfl ?_
        refine gs_iconst (x := 0) rfl (by decide) ?_
        refine gs_put rfl (gd_pi rfl rfl) ?_
        obtain ⟨f7, hf7, e⟩ := pn_some e
        refine gs_heap hf7 ?_
        refine gs_iload_n rfl rfl ?_
        refine gs_ge0 rfl (fun c8 => ?_) (fun c8 => ?_)
        · rw [if_pos c8] at e
          refine gs_aload_n rfl rfl ?_
          refine gs_get rfl (gd_r (b := 111) rfl rfl rfl) ?_
          refine gs_iload_n rfl rfl ?_
          refine gs_iload_n rfl rfl ?_
          by_cases hb9 : pa_in p1 8 = true
          case neg => rw [if_neg hb9] at e; cases e
          rw [if_pos hb9] at e
          refine gs_iast rfl (gd_si (j := p1.toNatClampNeg) rfl (by decide) hb9 rfl) ?_
          obtain ⟨f10, hf10, e⟩ := pn_some e
          refine gs_heap hf10 ?_
          refine gs_aload_n rfl rfl ?_
          refine gs_get rfl (gd_r (b := 112) rfl rfl rfl) ?_
          refine gs_iload_n rfl rfl ?_
          refine gs_iload_n rfl rfl ?_
          by_cases hb11 : pa_in p1 8 = true
          case neg => rw [if_neg hb11] at e; cases e
          rw [if_pos hb11] at e
          refine gs_iast rfl (gd_si (j := p1.toNatClampNeg) rfl (by decide) hb11 rfl) ?_
          obtain ⟨f12, hf12, e⟩ := pn_some e
          refine gs_heap hf12 ?_
          refine gs_iconst (x := 0) rfl (by decide) ?_
          refine gs_istore (lv' := [(4, .int 0), (0, .ref 110), (1, .int p1), (2, .int p2), (3, .int p3)]) rfl rfl ?_
          refine gs_drop [1, 2, 4, 0] rfl ?_
          obtain ⟨f17, el18, e⟩ := ob1_some e
          refine tl_X9_sheet_65 L 5000 p1 p3 0 f12 f17 _ _ el18 ?_
          refine gs_iload_n rfl rfl ?_
          obtain ⟨rfl, rfl⟩ := inj2 e
          exact gs_iret rfl rfl rfl rfl rfl
        · rw [if_neg c8] at e
          refine gs_aload_n rfl rfl ?_
          refine gs_iconst (x := 4) rfl (by decide) ?_
          obtain ⟨r19, f20, ec21, e⟩ := ob2_some e
          refine gs_callvI (st := []) rfl (pr_C_le (by decide) (th_X9_finding L 4 f7 r19 f20 ec21)) rfl rfl rfl (by decide) rfl (Or.inr (by decide)) ?_
          obtain ⟨rfl, rfl⟩ := inj2 e
          exact gs_iret rfl rfl rfl rfl rfl
      · rw [if_neg c6] at e
        refine gs_ldc (x := (-1000001)) rfl (by decide) ?_
        obtain ⟨rfl, rfl⟩ := inj2 e
        exact gs_iret rfl rfl rfl rfl rfl
def fn_X9_set (p1 : Int32) (p2 : Int32) (p3 : Int32) (f : pd_M) : Option (Int32 × pd_M) :=
  pn ((pi_up f 110 0 0)) fun f1 =>
  ob1 (fn_X9_isSheet p1) fun r2 =>
  if r2 = 0 then
  some ((-1000001), f1)
  else
  pn ((pi_up f1 110 1 0)) fun f5 =>
  if pa_in p1 8 = true then
  if 0 ≤ (f5 111 p1.toNatClampNeg) then
  if pa_in p1 8 = true then
  if (fn_X9_in (p2.toInt64) 0 (((f5 112 p1.toNatClampNeg) - 1).toInt64)) = 0 then
  ob2 (fn_X9_finding 2 f5) fun r18 f19 =>
  some (r18, f19)
  else
  if pa_in p1 8 = true then
  ob1 (if (f5 111 p1.toNatClampNeg) = 0 then
  some (p3.toInt8.toInt32)
  else
  if pa_in p1 8 = true then
  if (f5 111 p1.toNatClampNeg) = 1 then
  some (p3.toInt16.toInt32)
  else
  some (p3)
  else none) fun (v12 : Int32) =>
  if pa_in ((40 * p1) + p2) 320 = true then
  pn ((pi_up f5 113 (((40 * p1) + p2).toNatClampNeg) v12)) fun f16 =>
  if pa_in ((40 * p1) + p2) 320 = true then
  some ((f16 113 ((40 * p1) + p2).toNatClampNeg), f16)
  else none
  else none
  else none
  else none
  else
  ob2 (fn_X9_finding 1 f5) fun r21 f22 =>
  some (r21, f22)
  else none
set_option maxRecDepth 100000 in
set_option maxHeartbeats 4000000 in
theorem th_X9_set (L : Nat) (p1 : Int32) (p2 : Int32) (p3 : Int32) (f : pd_M) (q : Int32) (g : pd_M) (e : fn_X9_set p1 p2 p3 f = some (q, g)) : pr_C L 3 120 [.ref 110, .int p1, .int p2, .int p3] (hH f) (some (.int q)) (hH g) := by
  refine pr_C.of (G := mt_X9_set) rfl rfl ?_
  show pr_G L 2 mt_X9_set (0, [(0, .ref 110), (1, .int p1), (2, .int p2), (3, .int p3)], [], hH f) _ _
  unfold fn_X9_set at e
  refine gs_aload_n rfl rfl ?_
  refine gs_iconst (x := 0) rfl (by decide) ?_
  refine gs_put rfl (gd_pi rfl rfl) ?_
  obtain ⟨f1, hf1, e⟩ := pn_some e
  refine gs_heap hf1 ?_
  refine gs_iload_n rfl rfl ?_
  obtain ⟨r2, ec3, e⟩ := ob1_some e
  refine gs_callsI (st := []) rfl (pr_C_le (by decide) (th_X9_isSheet L p1 f1 r2 ec3)) rfl rfl rfl (by decide) ?_
  refine gs_ne0 rfl (fun c4 => ?_) (fun c4 => ?_)
  · rw [if_neg c4] at e
    refine gs_aload_n rfl rfl ?_
    refine gs_iconst (x := 0) rfl (by decide) ?_
    refine gs_put rfl (gd_pi rfl rfl) ?_
    obtain ⟨f5, hf5, e⟩ := pn_some e
    refine gs_heap hf5 ?_
    refine gs_aload_n rfl rfl ?_
    refine gs_get rfl (gd_r (b := 111) rfl rfl rfl) ?_
    refine gs_iload_n rfl rfl ?_
    by_cases hb6 : pa_in p1 8 = true
    case neg => rw [if_neg hb6] at e; cases e
    rw [if_pos hb6] at e
    refine gs_iald rfl (gd_ia (j := p1.toNatClampNeg) rfl hb6 rfl) ?_
    refine gs_ge0 rfl (fun c7 => ?_) (fun c7 => ?_)
    · rw [if_pos c7] at e
      refine gs_iload_n rfl rfl ?_
      refine gs_i2l rfl ?_
      refine gs_lconst (w := 0) rfl (by decide) ?_
      refine gs_aload_n rfl rfl ?_
      refine gs_get rfl (gd_r (b := 112) rfl rfl rfl) ?_
      refine gs_iload_n rfl rfl ?_
      by_cases hb8 : pa_in p1 8 = true
      case neg => rw [if_neg hb8] at e; cases e
      rw [if_pos hb8] at e
      refine gs_iald rfl (gd_ia (j := p1.toNatClampNeg) rfl hb8 rfl) ?_
      refine gs_iconst (x := 1) rfl (by decide) ?_
      refine gs_isub rfl ?_
      refine gs_i2l rfl ?_
      refine gs_callsI (st := []) rfl (pr_C_le (by decide) (th_X9_in L (p2.toInt64) 0 (((f5 112 p1.toNatClampNeg) - 1).toInt64) f5 _ rfl)) rfl rfl rfl (by decide) ?_
      refine gs_ne0 rfl (fun c9 => ?_) (fun c9 => ?_)
      · rw [if_neg c9] at e
        refine gs_aload_n rfl rfl ?_
        refine gs_get rfl (gd_r (b := 113) rfl rfl rfl) ?_
        refine gs_bipush (x := 40) rfl (by decide) ?_
        refine gs_iload_n rfl rfl ?_
        refine gs_imul rfl ?_
        refine gs_iload_n rfl rfl ?_
        refine gs_iadd rfl ?_
        refine gs_aload_n rfl rfl ?_
        refine gs_get rfl (gd_r (b := 111) rfl rfl rfl) ?_
        refine gs_iload_n rfl rfl ?_
        by_cases hb10 : pa_in p1 8 = true
        case neg => rw [if_neg hb10] at e; cases e
        rw [if_pos hb10] at e
        refine gs_iald rfl (gd_ia (j := p1.toNatClampNeg) rfl hb10 rfl) ?_
        obtain ⟨v12, ev99, e⟩ := ob1_some e
        have KJ99 : pr_G L 2 mt_X9_set (99, [(0, .ref 110), (1, .int p1), (2, .int p2)], [.int v12, .int ((40 * p1) + p2), .ref 113], hH f5) (some (.int q)) (hH g) := by
          by_cases hb15 : pa_in ((40 * p1) + p2) 320 = true
          case neg => rw [if_neg hb15] at e; cases e
          rw [if_pos hb15] at e
          refine gs_iast rfl (gd_si (j := ((40 * p1) + p2).toNatClampNeg) rfl (by decide) hb15 rfl) ?_
          obtain ⟨f16, hf16, e⟩ := pn_some e
          refine gs_heap hf16 ?_
          refine gs_aload_n rfl rfl ?_
          refine gs_get rfl (gd_r (b := 113) rfl rfl rfl) ?_
          refine gs_bipush (x := 40) rfl (by decide) ?_
          refine gs_iload_n rfl rfl ?_
          refine gs_imul rfl ?_
          refine gs_iload_n rfl rfl ?_
          refine gs_iadd rfl ?_
          by_cases hb17 : pa_in ((40 * p1) + p2) 320 = true
          case neg => rw [if_neg hb17] at e; cases e
          rw [if_pos hb17] at e
          refine gs_iald rfl (gd_ia (j := ((40 * p1) + p2).toNatClampNeg) rfl hb17 rfl) ?_
          obtain ⟨rfl, rfl⟩ := inj2 e
          exact gs_iret rfl rfl rfl rfl rfl
        have e := ev99
        clear ev99
        refine gs_ne0 rfl (fun c11 => ?_) (fun c11 => ?_)
        · rw [if_neg c11] at e
          refine gs_aload_n rfl rfl ?_
          refine gs_get rfl (gd_r (b := 111) rfl rfl rfl) ?_
          refine gs_iload_n rfl rfl ?_
          by_cases hb13 : pa_in p1 8 = true
          case neg => rw [if_neg hb13] at e; cases e
          rw [if_pos hb13] at e
          refine gs_iald rfl (gd_ia (j := p1.toNatClampNeg) rfl hb13 rfl) ?_
          refine gs_iconst (x := 1) rfl (by decide) ?_
          refine gs_ne2 rfl (fun c14 => ?_) (fun c14 => ?_)
          · rw [if_neg c14] at e
            refine gs_iload_n rfl rfl ?_
            obtain rfl := inj1 e
            refine gs_drop [0, 1, 2] rfl ?_
            exact KJ99
          · rw [if_pos c14] at e
            refine gs_iload_n rfl rfl ?_
            refine gs_i2s rfl ?_
            refine gs_goto rfl ?_
            obtain rfl := inj1 e
            refine gs_drop [0, 1, 2] rfl ?_
            exact KJ99
        · rw [if_pos c11] at e
          refine gs_iload_n rfl rfl ?_
          refine gs_i2b rfl ?_
          refine gs_goto rfl ?_
          obtain rfl := inj1 e
          refine gs_drop [0, 1, 2] rfl ?_
          exact KJ99
      · rw [if_pos c9] at e
        refine gs_aload_n rfl rfl ?_
        refine gs_iconst (x := 2) rfl (by decide) ?_
        obtain ⟨r18, f19, ec20, e⟩ := ob2_some e
        refine gs_callvI (st := []) rfl (pr_C_le (by decide) (th_X9_finding L 2 f5 r18 f19 ec20)) rfl rfl rfl (by decide) rfl (Or.inr (by decide)) ?_
        obtain ⟨rfl, rfl⟩ := inj2 e
        exact gs_iret rfl rfl rfl rfl rfl
    · rw [if_neg c7] at e
      refine gs_aload_n rfl rfl ?_
      refine gs_iconst (x := 1) rfl (by decide) ?_
      obtain ⟨r21, f22, ec23, e⟩ := ob2_some e
      refine gs_callvI (st := []) rfl (pr_C_le (by decide) (th_X9_finding L 1 f5 r21 f22 ec23)) rfl rfl rfl (by decide) rfl (Or.inr (by decide)) ?_
      obtain ⟨rfl, rfl⟩ := inj2 e
      exact gs_iret rfl rfl rfl rfl rfl
  · rw [if_pos c4] at e
    refine gs_ldc (x := (-1000001)) rfl (by decide) ?_
    obtain ⟨rfl, rfl⟩ := inj2 e
    exact gs_iret rfl rfl rfl rfl rfl
def lp_X9_copy_143 : Nat → Int32 → Int32 → Int32 → Int32 → Int32 → Int32 → Int32 → pd_M → Option (pd_M)
  | 0, _, _, _, _, _, _, _, _ => none
  | n + 1, z1, z2, z3, z4, z5, z6, z7, f =>
    if z5 ≤ z7 then
    some (f)
    else
    ob1 (if z6 = 0 then
    some (((z5 - 1) - z7))
    else
    some (z7)) fun (v42 : Int32) =>
    if pa_in (((40 * z1) + z2) + v42) 320 = true then
    if pa_in (((40 * z3) + z4) + v42) 320 = true then
    pn ((pi_up f 113 ((((40 * z3) + z4) + v42).toNatClampNeg) (f 113 (((40 * z1) + z2) + v42).toNatClampNeg))) fun f45 =>
    pn (z7 + 1) fun x46 =>
    lp_X9_copy_143 n z1 z2 z3 z4 z5 z6 x46 f45
    else none
    else none
def fn_X9_copy (p1 : Int32) (p2 : Int32) (p3 : Int32) (p4 : Int32) (p5 : Int32) (f : pd_M) : Option (Int32 × pd_M) :=
  pn ((pi_up f 110 0 0)) fun f1 =>
  ob1 (fn_X9_isSheet p1) fun r2 =>
  if r2 = 0 then
  some ((-1000001), f1)
  else
  ob1 (fn_X9_isSheet p3) fun r5 =>
  if r5 = 0 then
  some ((-1000001), f1)
  else
  pn ((pi_up f1 110 1 0)) fun f8 =>
  if pa_in p1 8 = true then
  if (f8 111 p1.toNatClampNeg) < 0 then
  ob2 (fn_X9_finding 1 f8) fun r11 f12 =>
  some (r11, f12)
  else
  if pa_in p3 8 = true then
  if 0 ≤ (f8 111 p3.toNatClampNeg) then
  if pa_in p1 8 = true then
  if pa_in p3 8 = true then
  if (f8 111 p1.toNatClampNeg) = (f8 111 p3.toNatClampNeg) then
  if p2 < 0 then
  ob2 (fn_X9_finding 2 f8) fun r20 f21 =>
  some (r20, f21)
  else
  if p4 < 0 then
  ob2 (fn_X9_finding 2 f8) fun r24 f25 =>
  some (r24, f25)
  else
  if p5 < 0 then
  ob2 (fn_X9_finding 2 f8) fun r28 f29 =>
  some (r28, f29)
  else
  if pa_in p1 8 = true then
  if 0 < (lg_cmp (p2.toInt64 + p5.toInt64) (f8 112 p1.toNatClampNeg).toInt64) then
  ob2 (fn_X9_finding 2 f8) fun r33 f34 =>
  some (r33, f34)
  else
  if pa_in p3 8 = true then
  if (lg_cmp (p4.toInt64 + p5.toInt64) (f8 112 p3.toNatClampNeg).toInt64) ≤ 0 then
  ob1 (if p2 < p4 then
  some (0)
  else
  some (1)) fun (v39 : Int32) =>
  ob1 (lp_X9_copy_143 5000 p1 p2 p3 p4 p5 v39 0 f8) fun f47 =>
  some (p5, f47)
  else
  ob2 (fn_X9_finding 2 f8) fun r49 f50 =>
  some (r49, f50)
  else none
  else none
  else
  ob2 (fn_X9_finding 5 f8) fun r52 f53 =>
  some (r52, f53)
  else none
  else none
  else
  ob2 (fn_X9_finding 1 f8) fun r55 f56 =>
  some (r55, f56)
  else none
  else none
set_option maxRecDepth 100000 in
set_option maxHeartbeats 4000000 in
theorem tl_X9_copy_143 (L : Nat) : ∀ (n : Nat) (z1 : Int32) (z2 : Int32) (z3 : Int32) (z4 : Int32) (z5 : Int32) (z6 : Int32) (z7 : Int32) (f : pd_M) (w0 : pd_M) (r : Option Value) (h2 : ph_T), lp_X9_copy_143 n z1 z2 z3 z4 z5 z6 z7 f = some (w0) → pr_G L 2 mt_X9_copy (204, [(5, .int z5)], [], hH w0) r h2 → pr_G L 2 mt_X9_copy (143, [(0, .ref 110), (1, .int z1), (2, .int z2), (3, .int z3), (4, .int z4), (5, .int z5), (6, .int z6), (7, .int z7)], [], hH f) r h2 := by
  intro n
  induction n with
  | zero => intro z1 z2 z3 z4 z5 z6 z7 f w0 r h2 e; cases e
  | succ n ih =>
    intro z1 z2 z3 z4 z5 z6 z7 f w0 r h2 e K
    unfold lp_X9_copy_143 at e
    refine gs_iload rfl rfl ?_
    refine gs_iload rfl rfl ?_
    refine gs_ge2 rfl (fun c40 => ?_) (fun c40 => ?_)
    · rw [if_pos c40] at e
      obtain rfl := inj1 e
      refine gs_drop [5] rfl ?_
      exact K
    · rw [if_neg c40] at e
      refine gs_iload rfl rfl ?_
      obtain ⟨v42, ev167, e⟩ := ob1_some e
      have KJ167 : pr_G L 2 mt_X9_copy (167, [(0, .ref 110), (1, .int z1), (2, .int z2), (3, .int z3), (4, .int z4), (5, .int z5), (6, .int z6), (7, .int z7)], [.int v42], hH f) r h2 := by
        refine gs_istore (lv' := [(8, .int v42), (0, .ref 110), (1, .int z1), (2, .int z2), (3, .int z3), (4, .int z4), (5, .int z5), (6, .int z6), (7, .int z7)]) rfl rfl ?_
        refine gs_aload_n rfl rfl ?_
        refine gs_get rfl (gd_r (b := 113) rfl rfl rfl) ?_
        refine gs_bipush (x := 40) rfl (by decide) ?_
        refine gs_iload_n rfl rfl ?_
        refine gs_imul rfl ?_
        refine gs_iload rfl rfl ?_
        refine gs_iadd rfl ?_
        refine gs_iload rfl rfl ?_
        refine gs_iadd rfl ?_
        refine gs_aload_n rfl rfl ?_
        refine gs_get rfl (gd_r (b := 113) rfl rfl rfl) ?_
        refine gs_bipush (x := 40) rfl (by decide) ?_
        refine gs_iload_n rfl rfl ?_
        refine gs_imul rfl ?_
        refine gs_iload_n rfl rfl ?_
        refine gs_iadd rfl ?_
        refine gs_iload rfl rfl ?_
        refine gs_iadd rfl ?_
        by_cases hb43 : pa_in (((40 * z1) + z2) + v42) 320 = true
        case neg => rw [if_neg hb43] at e; cases e
        rw [if_pos hb43] at e
        refine gs_iald rfl (gd_ia (j := (((40 * z1) + z2) + v42).toNatClampNeg) rfl hb43 rfl) ?_
        by_cases hb44 : pa_in (((40 * z3) + z4) + v42) 320 = true
        case neg => rw [if_neg hb44] at e; cases e
        rw [if_pos hb44] at e
        refine gs_iast rfl (gd_si (j := (((40 * z3) + z4) + v42).toNatClampNeg) rfl (by decide) hb44 rfl) ?_
        obtain ⟨f45, hf45, e⟩ := pn_some e
        refine gs_heap hf45 ?_
        obtain ⟨x46, hx46, e⟩ := pn_some e
        refine gs_iinc1 (x1 := x46) (c := 1) (lv' := [(7, .int x46), (8, .int v42), (0, .ref 110), (1, .int z1), (2, .int z2), (3, .int z3), (4, .int z4), (5, .int z5), (6, .int z6)]) rfl rfl (by decide) hx46 rfl ?_
        refine gs_goto rfl ?_
        refine gs_drop [2, 3, 4, 5, 6, 7, 8, 0] rfl ?_
        exact ih z1 z2 z3 z4 z5 z6 x46 f45 w0 _ _ e K
      have e := ev167
      clear ev167
      refine gs_eq0 rfl (fun c41 => ?_) (fun c41 => ?_)
      · rw [if_pos c41] at e
        refine gs_iload rfl rfl ?_
        refine gs_iconst (x := 1) rfl (by decide) ?_
        refine gs_isub rfl ?_
        refine gs_iload rfl rfl ?_
        refine gs_isub rfl ?_
        obtain rfl := inj1 e
        refine gs_drop [0, 1, 2, 3, 4, 5, 6, 7] rfl ?_
        exact KJ167
      · rw [if_neg c41] at e
        refine gs_iload rfl rfl ?_
        refine gs_goto rfl ?_
        obtain rfl := inj1 e
        refine gs_drop [0, 1, 2, 3, 4, 5, 6, 7] rfl ?_
        exact KJ167
set_option maxRecDepth 100000 in
set_option maxHeartbeats 4000000 in
theorem th_X9_copy (L : Nat) (p1 : Int32) (p2 : Int32) (p3 : Int32) (p4 : Int32) (p5 : Int32) (f : pd_M) (q : Int32) (g : pd_M) (e : fn_X9_copy p1 p2 p3 p4 p5 f = some (q, g)) : pr_C L 3 121 [.ref 110, .int p1, .int p2, .int p3, .int p4, .int p5] (hH f) (some (.int q)) (hH g) := by
  refine pr_C.of (G := mt_X9_copy) rfl rfl ?_
  show pr_G L 2 mt_X9_copy (0, [(0, .ref 110), (1, .int p1), (2, .int p2), (3, .int p3), (4, .int p4), (5, .int p5)], [], hH f) _ _
  unfold fn_X9_copy at e
  refine gs_aload_n rfl rfl ?_
  refine gs_iconst (x := 0) rfl (by decide) ?_
  refine gs_put rfl (gd_pi rfl rfl) ?_
  obtain ⟨f1, hf1, e⟩ := pn_some e
  refine gs_heap hf1 ?_
  refine gs_iload_n rfl rfl ?_
  obtain ⟨r2, ec3, e⟩ := ob1_some e
  refine gs_callsI (st := []) rfl (pr_C_le (by decide) (th_X9_isSheet L p1 f1 r2 ec3)) rfl rfl rfl (by decide) ?_
  refine gs_eq0 rfl (fun c4 => ?_) (fun c4 => ?_)
  · rw [if_pos c4] at e
    refine gs_ldc (x := (-1000001)) rfl (by decide) ?_
    obtain ⟨rfl, rfl⟩ := inj2 e
    exact gs_iret rfl rfl rfl rfl rfl
  · rw [if_neg c4] at e
    refine gs_iload_n rfl rfl ?_
    obtain ⟨r5, ec6, e⟩ := ob1_some e
    refine gs_callsI (st := []) rfl (pr_C_le (by decide) (th_X9_isSheet L p3 f1 r5 ec6)) rfl rfl rfl (by decide) ?_
    refine gs_ne0 rfl (fun c7 => ?_) (fun c7 => ?_)
    · rw [if_neg c7] at e
      refine gs_aload_n rfl rfl ?_
      refine gs_iconst (x := 0) rfl (by decide) ?_
      refine gs_put rfl (gd_pi rfl rfl) ?_
      obtain ⟨f8, hf8, e⟩ := pn_some e
      refine gs_heap hf8 ?_
      refine gs_aload_n rfl rfl ?_
      refine gs_get rfl (gd_r (b := 111) rfl rfl rfl) ?_
      refine gs_iload_n rfl rfl ?_
      by_cases hb9 : pa_in p1 8 = true
      case neg => rw [if_neg hb9] at e; cases e
      rw [if_pos hb9] at e
      refine gs_iald rfl (gd_ia (j := p1.toNatClampNeg) rfl hb9 rfl) ?_
      refine gs_lt0 rfl (fun c10 => ?_) (fun c10 => ?_)
      · rw [if_pos c10] at e
        refine gs_aload_n rfl rfl ?_
        refine gs_iconst (x := 1) rfl (by decide) ?_
        obtain ⟨r11, f12, ec13, e⟩ := ob2_some e
        refine gs_callvI (st := []) rfl (pr_C_le (by decide) (th_X9_finding L 1 f8 r11 f12 ec13)) rfl rfl rfl (by decide) rfl (Or.inr (by decide)) ?_
        obtain ⟨rfl, rfl⟩ := inj2 e
        exact gs_iret rfl rfl rfl rfl rfl
      · rw [if_neg c10] at e
        refine gs_aload_n rfl rfl ?_
        refine gs_get rfl (gd_r (b := 111) rfl rfl rfl) ?_
        refine gs_iload_n rfl rfl ?_
        by_cases hb14 : pa_in p3 8 = true
        case neg => rw [if_neg hb14] at e; cases e
        rw [if_pos hb14] at e
        refine gs_iald rfl (gd_ia (j := p3.toNatClampNeg) rfl hb14 rfl) ?_
        refine gs_ge0 rfl (fun c15 => ?_) (fun c15 => ?_)
        · rw [if_pos c15] at e
          refine gs_aload_n rfl rfl ?_
          refine gs_get rfl (gd_r (b := 111) rfl rfl rfl) ?_
          refine gs_iload_n rfl rfl ?_
          by_cases hb16 : pa_in p1 8 = true
          case neg => rw [if_neg hb16] at e; cases e
          rw [if_pos hb16] at e
          refine gs_iald rfl (gd_ia (j := p1.toNatClampNeg) rfl hb16 rfl) ?_
          refine gs_aload_n rfl rfl ?_
          refine gs_get rfl (gd_r (b := 111) rfl rfl rfl) ?_
          refine gs_iload_n rfl rfl ?_
          by_cases hb17 : pa_in p3 8 = true
          case neg => rw [if_neg hb17] at e; cases e
          rw [if_pos hb17] at e
          refine gs_iald rfl (gd_ia (j := p3.toNatClampNeg) rfl hb17 rfl) ?_
          refine gs_eq2 rfl (fun c18 => ?_) (fun c18 => ?_)
          · rw [if_pos c18] at e
            refine gs_iload_n rfl rfl ?_
            refine gs_lt0 rfl (fun c19 => ?_) (fun c19 => ?_)
            · rw [if_pos c19] at e
              refine gs_aload_n rfl rfl ?_
              refine gs_iconst (x := 2) rfl (by decide) ?_
              obtain ⟨r20, f21, ec22, e⟩ := ob2_some e
              refine gs_callvI (st := []) rfl (pr_C_le (by decide) (th_X9_finding L 2 f8 r20 f21 ec22)) rfl rfl rfl (by decide) rfl (Or.inr (by decide)) ?_
              obtain ⟨rfl, rfl⟩ := inj2 e
              exact gs_iret rfl rfl rfl rfl rfl
            · rw [if_neg c19] at e
              refine gs_iload rfl rfl ?_
              refine gs_lt0 rfl (fun c23 => ?_) (fun c23 => ?_)
              · rw [if_pos c23] at e
                refine gs_aload_n rfl rfl ?_
                refine gs_iconst (x := 2) rfl (by decide) ?_
                obtain ⟨r24, f25, ec26, e⟩ := ob2_some e
                refine gs_callvI (st := []) rfl (pr_C_le (by decide) (th_X9_finding L 2 f8 r24 f25 ec26)) rfl rfl rfl (by decide) rfl (Or.inr (by decide)) ?_
                obtain ⟨rfl, rfl⟩ := inj2 e
                exact gs_iret rfl rfl rfl rfl rfl
              · rw [if_neg c23] at e
                refine gs_iload rfl rfl ?_
                refine gs_lt0 rfl (fun c27 => ?_) (fun c27 => ?_)
                · rw [if_pos c27] at e
                  refine gs_aload_n rfl rfl ?_
                  refine gs_iconst (x := 2) rfl (by decide) ?_
                  obtain ⟨r28, f29, ec30, e⟩ := ob2_some e
                  refine gs_callvI (st := []) rfl (pr_C_le (by decide) (th_X9_finding L 2 f8 r28 f29 ec30)) rfl rfl rfl (by decide) rfl (Or.inr (by decide)) ?_
                  obtain ⟨rfl, rfl⟩ := inj2 e
                  exact gs_iret rfl rfl rfl rfl rfl
                · rw [if_neg c27] at e
                  refine gs_iload_n rfl rfl ?_
                  refine gs_i2l rfl ?_
                  refine gs_iload rfl rfl ?_
                  refine gs_i2l rfl ?_
                  refine gs_ladd rfl ?_
                  refine gs_aload_n rfl rfl ?_
                  refine gs_get rfl (gd_r (b := 112) rfl rfl rfl) ?_
                  refine gs_iload_n rfl rfl ?_
                  by_cases hb31 : pa_in p1 8 = true
                  case neg => rw [if_neg hb31] at e; cases e
                  rw [if_pos hb31] at e
                  refine gs_iald rfl (gd_ia (j := p1.toNatClampNeg) rfl hb31 rfl) ?_
                  refine gs_i2l rfl ?_
                  refine gs_lcmp rfl ?_
                  refine gs_gt0 rfl (fun c32 => ?_) (fun c32 => ?_)
                  · rw [if_pos c32] at e
                    refine gs_aload_n rfl rfl ?_
                    refine gs_iconst (x := 2) rfl (by decide) ?_
                    obtain ⟨r33, f34, ec35, e⟩ := ob2_some e
                    refine gs_callvI (st := []) rfl (pr_C_le (by decide) (th_X9_finding L 2 f8 r33 f34 ec35)) rfl rfl rfl (by decide) rfl (Or.inr (by decide)) ?_
                    obtain ⟨rfl, rfl⟩ := inj2 e
                    exact gs_iret rfl rfl rfl rfl rfl
                  · rw [if_neg c32] at e
                    refine gs_iload rfl rfl ?_
                    refine gs_i2l rfl ?_
                    refine gs_iload rfl rfl ?_
                    refine gs_i2l rfl ?_
                    refine gs_ladd rfl ?_
                    refine gs_aload_n rfl rfl ?_
                    refine gs_get rfl (gd_r (b := 112) rfl rfl rfl) ?_
                    refine gs_iload_n rfl rfl ?_
                    by_cases hb36 : pa_in p3 8 = true
                    case neg => rw [if_neg hb36] at e; cases e
                    rw [if_pos hb36] at e
                    refine gs_iald rfl (gd_ia (j := p3.toNatClampNeg) rfl hb36 rfl) ?_
                    refine gs_i2l rfl ?_
                    refine gs_lcmp rfl ?_
                    refine gs_le0 rfl (fun c37 => ?_) (fun c37 => ?_)
                    · rw [if_pos c37] at e
                      refine gs_iload_n rfl rfl ?_
                      refine gs_iload rfl rfl ?_
                      obtain ⟨v39, ev138, e⟩ := ob1_some e
                      have KJ138 : pr_G L 2 mt_X9_copy (138, [(0, .ref 110), (1, .int p1), (2, .int p2), (3, .int p3), (4, .int p4), (5, .int p5)], [.int v39], hH f8) (some (.int q)) (hH g) := by
                        refine gs_istore (lv' := [(6, .int v39), (0, .ref 110), (1, .int p1), (2, .int p2), (3, .int p3), (4, .int p4), (5, .int p5)]) rfl rfl ?_
                        refine gs_iconst (x := 0) rfl (by decide) ?_
                        refine gs_istore (lv' := [(7, .int 0), (6, .int v39), (0, .ref 110), (1, .int p1), (2, .int p2), (3, .int p3), (4, .int p4), (5, .int p5)]) rfl rfl ?_
                        refine gs_drop [2, 3, 4, 5, 6, 7, 1, 0] rfl ?_
                        obtain ⟨f47, el48, e⟩ := ob1_some e
                        refine tl_X9_copy_143 L 5000 p1 p2 p3 p4 p5 v39 0 f8 f47 _ _ el48 ?_
                        refine gs_iload rfl rfl ?_
                        obtain ⟨rfl, rfl⟩ := inj2 e
                        exact gs_iret rfl rfl rfl rfl rfl
                      have e := ev138
                      clear ev138
                      refine gs_lt2 rfl (fun c38 => ?_) (fun c38 => ?_)
                      · rw [if_pos c38] at e
                        refine gs_iconst (x := 0) rfl (by decide) ?_
                        obtain rfl := inj1 e
                        refine gs_drop [0, 1, 2, 3, 4, 5] rfl ?_
                        exact KJ138
                      · rw [if_neg c38] at e
                        refine gs_iconst (x := 1) rfl (by decide) ?_
                        refine gs_goto rfl ?_
                        obtain rfl := inj1 e
                        refine gs_drop [0, 1, 2, 3, 4, 5] rfl ?_
                        exact KJ138
                    · rw [if_neg c37] at e
                      refine gs_aload_n rfl rfl ?_
                      refine gs_iconst (x := 2) rfl (by decide) ?_
                      obtain ⟨r49, f50, ec51, e⟩ := ob2_some e
                      refine gs_callvI (st := []) rfl (pr_C_le (by decide) (th_X9_finding L 2 f8 r49 f50 ec51)) rfl rfl rfl (by decide) rfl (Or.inr (by decide)) ?_
                      obtain ⟨rfl, rfl⟩ := inj2 e
                      exact gs_iret rfl rfl rfl rfl rfl
          · rw [if_neg c18] at e
            refine gs_aload_n rfl rfl ?_
            refine gs_iconst (x := 5) rfl (by decide) ?_
            obtain ⟨r52, f53, ec54, e⟩ := ob2_some e
            refine gs_callvI (st := []) rfl (pr_C_le (by decide) (th_X9_finding L 5 f8 r52 f53 ec54)) rfl rfl rfl (by decide) rfl (Or.inr (by decide)) ?_
            obtain ⟨rfl, rfl⟩ := inj2 e
            exact gs_iret rfl rfl rfl rfl rfl
        · rw [if_neg c15] at e
          refine gs_aload_n rfl rfl ?_
          refine gs_iconst (x := 1) rfl (by decide) ?_
          obtain ⟨r55, f56, ec57, e⟩ := ob2_some e
          refine gs_callvI (st := []) rfl (pr_C_le (by decide) (th_X9_finding L 1 f8 r55 f56 ec57)) rfl rfl rfl (by decide) rfl (Or.inr (by decide)) ?_
          obtain ⟨rfl, rfl⟩ := inj2 e
          exact gs_iret rfl rfl rfl rfl rfl
    · rw [if_pos c7] at e
      refine gs_ldc (x := (-1000001)) rfl (by decide) ?_
      obtain ⟨rfl, rfl⟩ := inj2 e
      exact gs_iret rfl rfl rfl rfl rfl
