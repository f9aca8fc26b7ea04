def fn_X8_right (p1 : Int32) (f : pd_M) : Option (Int32) :=
  ob1 (fn_X7_hasSaying p1 f) fun r1 =>
  if r1 = 0 then
  some (-1000001)
  else
  if pa_in p1 20 = true then
  if pa_in (((f (48 + p1.toNatClampNeg) 0) * 4) + (f (48 + p1.toNatClampNeg) 1)) 16 = true then
  some ((f (48 + p1.toNatClampNeg) 6) &&& ((f 42 (((f (48 + p1.toNatClampNeg) 0) * 4) + (f (48 + p1.toNatClampNeg) 1)).toNatClampNeg) ^^^ (-1)))
  else none
  else none
set_option maxRecDepth 100000 in
set_option maxHeartbeats 4000000 in
theorem th_X8_right (L : Nat) (p1 : Int32) (f : pd_M) (q : Int32) (e : fn_X8_right p1 f = some q) : pr_C L 3 76 [.ref 17, .int p1] (hH f) (some (.int q)) (hH f) := by
  refine pr_C.of (G := mt_X8_right) rfl rfl ?_
  show pr_G L 2 mt_X8_right (0, [(0, .ref 17), (1, .int p1)], [], hH f) _ _
  unfold fn_X8_right at e
  refine gs_aload_n rfl rfl ?_
  refine gs_get rfl (gd_r (b := 39) rfl rfl rfl) ?_
  refine gs_iload_n rfl rfl ?_
  obtain ⟨r1, ec2, e⟩ := ob1_some e
  refine gs_callvI (st := []) rfl (pr_C_le (by decide) (th_X7_hasSaying L p1 f r1 ec2)) rfl rfl rfl (by decide) rfl (Or.inr (by decide)) ?_
  refine gs_ne0 rfl (fun c3 => ?_) (fun c3 => ?_)
  · rw [if_neg c3] at e
    refine gs_aload_n rfl rfl ?_
    refine gs_get rfl (gd_r (b := 39) rfl rfl rfl) ?_
    refine gs_get rfl (gd_r (b := 45) rfl rfl rfl) ?_
    refine gs_iload_n rfl rfl ?_
    by_cases hb4 : pa_in p1 20 = true
    case neg => rw [if_neg hb4] at e; cases e
    rw [if_pos hb4] at e
    refine gs_aald rfl (gd_aa (b := (48 + p1.toNatClampNeg)) rfl (by decide) rfl hb4 rfl (arr_rf_45 (lt_of_in hb4))) ?_
    refine gs_astore_n (lv' := [(2, .ref (48 + p1.toNatClampNeg)), (0, .ref 17), (1, .int p1)]) rfl rfl ?_
    refine gs_aload_n rfl rfl ?_
    refine gs_get rfl (gd_i (sh_of (arr_sh_45 (lt_of_in hb4)) (by decide)) rfl) ?_
    refine gs_aload_n rfl rfl ?_
    refine gs_get rfl (gd_r (b := 39) rfl rfl rfl) ?_
    refine gs_get rfl (gd_r (b := 40) rfl rfl rfl) ?_
    refine gs_get rfl (gd_r (b := 42) rfl rfl rfl) ?_
    refine gs_aload_n rfl rfl ?_
    refine gs_get rfl (gd_i (sh_of (arr_sh_45 (lt_of_in hb4)) (by decide)) rfl) ?_
    refine gs_iconst (x := 4) rfl (by decide) ?_
    refine gs_imul rfl ?_
    refine gs_aload_n rfl rfl ?_
    refine gs_get rfl (gd_i (sh_of (arr_sh_45 (lt_of_in hb4)) (by decide)) rfl) ?_
    refine gs_iadd rfl ?_
    by_cases hb5 : pa_in (((f (48 + p1.toNatClampNeg) 0) * 4) + (f (48 + p1.toNatClampNeg) 1)) 16 = true
    case neg => rw [if_neg hb5] at e; cases e
    rw [if_pos hb5] at e
    refine gs_iald rfl (gd_ia (j := (((f (48 + p1.toNatClampNeg) 0) * 4) + (f (48 + p1.toNatClampNeg) 1)).toNatClampNeg) rfl hb5 rfl) ?_
    refine gs_iconst (x := (-1)) rfl (by decide) ?_
    refine gs_ixor rfl ?_
    refine gs_iand rfl ?_
    obtain rfl := inj1 e
    exact gs_iret rfl rfl rfl rfl rfl
  · rw [if_pos c3] at e
    refine gs_ldc (x := (-1000001)) rfl (by decide) ?_
    obtain rfl := inj1 e
    exact gs_iret rfl rfl rfl rfl rfl
def fn_X8_house (p1 : Int32) (p2 : Int32) (f : pd_M) : Option (Int32) :=
  ob1 (fn_X1_isThere p1 f) fun r1 =>
  if r1 = 0 then
  some (-1000001)
  else
  if (fn_X8_isBelow p2 2) = 0 then
  some (-1000001)
  else
  ob1 (fn_X1_leastBroken p1 f) fun r5 =>
  if p2 = 0 then
  if r5 = (-1000000) then
  some 1
  else
  some 0
  else
  some r5
set_option maxRecDepth 100000 in
set_option maxHeartbeats 4000000 in
theorem th_X8_house (L : Nat) (p1 : Int32) (p2 : Int32) (f : pd_M) (q : Int32) (e : fn_X8_house p1 p2 f = some q) : pr_C L 3 77 [.ref 17, .int p1, .int p2] (hH f) (some (.int q)) (hH f) := by
  refine pr_C.of (G := mt_X8_house) rfl rfl ?_
  show pr_G L 2 mt_X8_house (0, [(0, .ref 17), (1, .int p1), (2, .int p2)], [], hH f) _ _
  unfold fn_X8_house at e
  refine gs_aload_n rfl rfl ?_
  refine gs_get rfl (gd_r (b := 106) rfl rfl rfl) ?_
  refine gs_iload_n rfl rfl ?_
  obtain ⟨r1, ec2, e⟩ := ob1_some e
  refine gs_callvI (st := []) rfl (pr_C_le (by decide) (th_X1_isThere L p1 f r1 ec2)) rfl rfl rfl (by decide) rfl (Or.inr (by decide)) ?_
  refine gs_eq0 rfl (fun c3 => ?_) (fun c3 => ?_)
  · rw [if_pos c3] at e
    refine gs_ldc (x := (-1000001)) rfl (by decide) ?_
    obtain rfl := inj1 e
    exact gs_iret rfl rfl rfl rfl rfl
  · rw [if_neg c3] at e
    refine gs_iload_n rfl rfl ?_
    refine gs_iconst (x := 2) rfl (by decide) ?_
    refine gs_callsI (st := []) rfl (pr_C_le (by decide) (th_X8_isBelow L p2 2 f _ rfl)) rfl rfl rfl (by decide) ?_
    refine gs_ne0 rfl (fun c4 => ?_) (fun c4 => ?_)
    · rw [if_neg c4] at e
      refine gs_aload_n rfl rfl ?_
      refine gs_get rfl (gd_r (b := 106) rfl rfl rfl) ?_
      refine gs_iload_n rfl rfl ?_
      obtain ⟨r5, ec6, e⟩ := ob1_some e
      refine gs_callvI (st := []) rfl (pr_C_le (by decide) (th_X1_leastBroken L p1 f r5 ec6)) rfl rfl rfl (by decide) rfl (Or.inr (by decide)) ?_
      refine gs_istore_n (lv' := [(3, .int r5), (0, .ref 17), (1, .int p1), (2, .int p2)]) rfl rfl ?_
      refine gs_iload_n rfl rfl ?_
      refine gs_ne0 rfl (fun c7 => ?_) (fun c7 => ?_)
      · rw [if_neg c7] at e
        refine gs_iload_n rfl rfl ?_
        obtain rfl := inj1 e
        exact gs_iret rfl rfl rfl rfl rfl
      · rw [if_pos c7] at e
        refine gs_iload_n rfl rfl ?_
        refine gs_ldc (x := (-1000000)) rfl (by decide) ?_
        refine gs_ne2 rfl (fun c8 => ?_) (fun c8 => ?_)
        · rw [if_neg c8] at e
          refine gs_iconst (x := 0) rfl (by decide) ?_
          obtain rfl := inj1 e
          exact gs_iret rfl rfl rfl rfl rfl
        · rw [if_pos c8] at e
          refine gs_iconst (x := 1) rfl (by decide) ?_
          refine gs_goto rfl ?_
          obtain rfl := inj1 e
          exact gs_iret rfl rfl rfl rfl rfl
    · rw [if_pos c4] at e
      refine gs_ldc (x := (-1000001)) rfl (by decide) ?_
      obtain rfl := inj1 e
      exact gs_iret rfl rfl rfl rfl rfl
def fn_X8_letOut (p1 : Int32) (p2 : Int32) (p3 : Int32) (f : pd_M) : Option (Int32 × pd_M) :=
  ob1 (fn_X1_isThere p1 f) fun r1 =>
  if r1 = 0 then
  some ((-1000001), f)
  else
  ob1 (fn_X1_isThere p2 f) fun r4 =>
  if r4 = 0 then
  some ((-1000001), f)
  else
  if (fn_X8_isBelow p3 2) = 0 then
  some ((-1000001), f)
  else
  ob1 (fn_X1_measureWaysTo p2 f) fun f8 =>
  if p3 = 0 then
  ob1 (fn_X1_stepsFrom p1 f8) fun r13 =>
  some (r13, f8)
  else
  ob1 (fn_X1_firstFrom p1 f8) fun r11 =>
  some (r11, f8)
set_option maxRecDepth 100000 in
set_option maxHeartbeats 4000000 in
theorem th_X8_letOut (L : Nat) (p1 : Int32) (p2 : Int32) (p3 : Int32) (f : pd_M) (q : Int32) (g : pd_M) (e : fn_X8_letOut p1 p2 p3 f = some (q, g)) : pr_C L 6 78 [.ref 17, .int p1, .int p2, .int p3] (hH f) (some (.int q)) (hH g) := by
  refine pr_C.of (G := mt_X8_letOut) rfl rfl ?_
  show pr_G L 5 mt_X8_letOut (0, [(0, .ref 17), (1, .int p1), (2, .int p2), (3, .int p3)], [], hH f) _ _
  unfold fn_X8_letOut at e
  refine gs_aload_n rfl rfl ?_
  refine gs_get rfl (gd_r (b := 106) rfl rfl rfl) ?_
  refine gs_iload_n rfl rfl ?_
  obtain ⟨r1, ec2, e⟩ := ob1_some e
  refine gs_callvI (st := []) rfl (pr_C_le (by decide) (th_X1_isThere L p1 f r1 ec2)) rfl rfl rfl (by decide) rfl (Or.inr (by decide)) ?_
  refine gs_eq0 rfl (fun c3 => ?_) (fun c3 => ?_)
  · rw [if_pos c3] at e
    refine gs_ldc (x := (-1000001)) rfl (by decide) ?_
    obtain ⟨rfl, rfl⟩ := inj2 e
    exact gs_iret rfl rfl rfl rfl rfl
  · rw [if_neg c3] at e
    refine gs_aload_n rfl rfl ?_
    refine gs_get rfl (gd_r (b := 106) rfl rfl rfl) ?_
    refine gs_iload_n rfl rfl ?_
    obtain ⟨r4, ec5, e⟩ := ob1_some e
    refine gs_callvI (st := []) rfl (pr_C_le (by decide) (th_X1_isThere L p2 f r4 ec5)) rfl rfl rfl (by decide) rfl (Or.inr (by decide)) ?_
    refine gs_eq0 rfl (fun c6 => ?_) (fun c6 => ?_)
    · rw [if_pos c6] at e
      refine gs_ldc (x := (-1000001)) rfl (by decide) ?_
      obtain ⟨rfl, rfl⟩ := inj2 e
      exact gs_iret rfl rfl rfl rfl rfl
    · rw [if_neg c6] at e
      refine gs_iload_n rfl rfl ?_
      refine gs_iconst (x := 2) rfl (by decide) ?_
      refine gs_callsI (st := []) rfl (pr_C_le (by decide) (th_X8_isBelow L p3 2 f _ rfl)) rfl rfl rfl (by decide) ?_
      refine gs_ne0 rfl (fun c7 => ?_) (fun c7 => ?_)
      · rw [if_neg c7] at e
        refine gs_aload_n rfl rfl ?_
        refine gs_get rfl (gd_r (b := 106) rfl rfl rfl) ?_
        refine gs_iload_n rfl rfl ?_
        obtain ⟨f8, ec9, e⟩ := ob1_some e
        refine gs_callvV (st := []) rfl (pr_C_le (by decide) (th_X1_measureWaysTo L p2 f f8 ec9)) rfl rfl rfl (by decide) rfl (Or.inr (by decide)) ?_
        refine gs_iload_n rfl rfl ?_
        refine gs_ne0 rfl (fun c10 => ?_) (fun c10 => ?_)
        · rw [if_neg c10] at e
          refine gs_aload_n rfl rfl ?_
          refine gs_get rfl (gd_r (b := 106) rfl rfl rfl) ?_
          refine gs_iload_n rfl rfl ?_
          obtain ⟨r11, ec12, e⟩ := ob1_some e
          refine gs_callvI (st := []) rfl (pr_C_le (by decide) (th_X1_firstFrom L p1 f8 r11 ec12)) rfl rfl rfl (by decide) rfl (Or.inr (by decide)) ?_
          obtain ⟨rfl, rfl⟩ := inj2 e
          exact gs_iret rfl rfl rfl rfl rfl
        · rw [if_pos c10] at e
          refine gs_aload_n rfl rfl ?_
          refine gs_get rfl (gd_r (b := 106) rfl rfl rfl) ?_
          refine gs_iload_n rfl rfl ?_
          obtain ⟨r13, ec14, e⟩ := ob1_some e
          refine gs_callvI (st := []) rfl (pr_C_le (by decide) (th_X1_stepsFrom L p1 f8 r13 ec14)) rfl rfl rfl (by decide) rfl (Or.inr (by decide)) ?_
          refine gs_goto rfl ?_
          obtain ⟨rfl, rfl⟩ := inj2 e
          exact gs_iret rfl rfl rfl rfl rfl
      · rw [if_pos c7] at e
        refine gs_ldc (x := (-1000001)) rfl (by decide) ?_
        obtain ⟨rfl, rfl⟩ := inj2 e
        exact gs_iret rfl rfl rfl rfl rfl
def lp_X8_addHours_0_29 : Nat → Nat → Int32 → Int32 → Int32 → Int32 → pd_M → Option ((Int32) ⊕ (Int32))
  | 0, _, _, _, _, _, _ => none
  | n + 1, z0, z1, z2, z3, z4, f =>
    if sk z0 = (12, 5) then
    if 4 ≤ z4 then
    some (.inr (z3))
    else
    if pa_in z1 4 = true then
    if (((f (z0 + 4) z1.toNatClampNeg) >>> (z4 &&& 31)) &&& 1) = 0 then
    pn (z4 + 1) fun x9 =>
    lp_X8_addHours_0_29 n z0 z1 z2 z3 x9 f
    else
    none
    else none
    else none
def fn_X8_addHours_0 (p1 : Nat) (p2 : Int32) (p3 : Int32) (f : pd_M) : Option (Int32) :=
  if sk p1 = (12, 5) then
  if 4 ≤ p3 then
  some (-1000000)
  else
  if pa_in p2 4 = true then
  if (f (p1 + 3) p2.toNatClampNeg) = (-1000000) then
  some (-1000000)
  else
  if pa_in p2 4 = true then
  pn ((f (p1 + 3) p2.toNatClampNeg)) fun x5 =>
  os1 (lp_X8_addHours_0_29 5000 p1 p2 p3 x5 0 f) (fun q => some q) fun y10 =>
  some y10
  else none
  else none
  else none
set_option maxRecDepth 100000 in
set_option maxHeartbeats 4000000 in
theorem tl_X8_addHours_0_29 (L : Nat) : ∀ (n : Nat) (z0 : Nat) (z1 : Int32) (z2 : Int32) (z3 : Int32) (z4 : Int32) (f : pd_M) (o : (Int32) ⊕ (Int32)), lp_X8_addHours_0_29 n z0 z1 z2 z3 z4 f = some o → (∀ q, o = .inl q → pr_G L 0 mt_X8_addHours (29, [(0, .ref z0), (1, .int z1), (2, .int z2), (3, .int z3), (4, .int z4)], [], hH f) (some (.int q)) (hH f)) ∧ (∀ (w0 : Int32), o = .inr (w0) → ∀ (r : Option Value) (h2 : ph_T), pr_G L 0 mt_X8_addHours (81, [(3, .int w0)], [], hH f) r h2 → pr_G L 0 mt_X8_addHours (29, [(0, .ref z0), (1, .int z1), (2, .int z2), (3, .int z3), (4, .int z4)], [], hH f) r h2) := by
  intro n
  induction n with
  | zero => intro z0 z1 z2 z3 z4 f o e; cases e
  | succ n ih =>
    intro z0 z1 z2 z3 z4 f o e
    refine ⟨fun q hq => ?_, fun w0 hq r h2 K => ?_⟩
    · subst hq
      unfold lp_X8_addHours_0_29 at e
      by_cases hk0 : sk z0 = (12, 5)
      case neg => rw [if_neg hk0] at e; cases e
      rw [if_pos hk0] at e
      refine gs_iload rfl rfl ?_
      refine gs_iconst (x := 4) rfl (by decide) ?_
      refine gs_ge2 rfl (fun c6 => ?_) (fun c6 => ?_)
      · rw [if_pos c6] at e
        cases e
      · rw [if_neg c6] at e
        refine gs_aload_n rfl rfl ?_
        refine gs_get rfl (gd_r (b := (z0 + 4)) (sh_of hk0 (by decide)) rfl (ref_12_3 hk0)) ?_
        refine gs_iload_n rfl rfl ?_
        by_cases hb7 : pa_in z1 4 = true
        case neg => rw [if_neg hb7] at e; cases e
        rw [if_pos hb7] at e
        refine gs_iald rfl (gd_ia (j := z1.toNatClampNeg) (sh_of (fam_12_3 hk0) (by decide)) hb7 rfl) ?_
        refine gs_iload rfl rfl ?_
        refine gs_ishr rfl ?_
        refine gs_iconst (x := 1) rfl (by decide) ?_
        refine gs_iand rfl ?_
        refine gs_eq0 rfl (fun c8 => ?_) (fun c8 => ?_)
        · rw [if_pos c8] at e
          obtain ⟨x9, hx9, e⟩ := pn_some e
          refine gs_iinc1 (x1 := x9) (c := 1) (lv' := [(4, .int x9), (0, .ref z0), (1, .int z1), (2, .int z2), (3, .int z3)]) rfl rfl (by decide) hx9 rfl ?_
          refine gs_goto rfl ?_
          refine gs_drop [1, 2, 3, 4, 0] rfl ?_
          exact (ih z0 z1 z2 z3 x9 f _ e).1 _ rfl
        · rw [if_neg c8] at e
          refine gs_aload_n rfl rfl ?_
          refine gs_iload rfl rfl ?_
          refine gs_iload_n rfl rfl ?_
          refine gs_iconst (x := 1) rfl (by decide) ?_
          refine gs_iadd rfl ?_
          cases e
    · subst hq
      unfold lp_X8_addHours_0_29 at e
      by_cases hk0 : sk z0 = (12, 5)
      case neg => rw [if_neg hk0] at e; cases e
      rw [if_pos hk0] at e
      refine gs_iload rfl rfl ?_
      refine gs_iconst (x := 4) rfl (by decide) ?_
      refine gs_ge2 rfl (fun c6 => ?_) (fun c6 => ?_)
      · rw [if_pos c6] at e
        obtain rfl := injr1 e
        refine gs_drop [3] rfl ?_
        exact K
      · rw [if_neg c6] at e
        refine gs_aload_n rfl rfl ?_
        refine gs_get rfl (gd_r (b := (z0 + 4)) (sh_of hk0 (by decide)) rfl (ref_12_3 hk0)) ?_
        refine gs_iload_n rfl rfl ?_
        by_cases hb7 : pa_in z1 4 = true
        case neg => rw [if_neg hb7] at e; cases e
        rw [if_pos hb7] at e
        refine gs_iald rfl (gd_ia (j := z1.toNatClampNeg) (sh_of (fam_12_3 hk0) (by decide)) hb7 rfl) ?_
        refine gs_iload rfl rfl ?_
        refine gs_ishr rfl ?_
        refine gs_iconst (x := 1) rfl (by decide) ?_
        refine gs_iand rfl ?_
        refine gs_eq0 rfl (fun c8 => ?_) (fun c8 => ?_)
        · rw [if_pos c8] at e
          obtain ⟨x9, hx9, e⟩ := pn_some e
          refine gs_iinc1 (x1 := x9) (c := 1) (lv' := [(4, .int x9), (0, .ref z0), (1, .int z1), (2, .int z2), (3, .int z3)]) rfl rfl (by decide) hx9 rfl ?_
          refine gs_goto rfl ?_
          refine gs_drop [1, 2, 3, 4, 0] rfl ?_
          exact (ih z0 z1 z2 z3 x9 f _ e).2 w0 rfl _ _ K
        · rw [if_neg c8] at e
          refine gs_aload_n rfl rfl ?_
          refine gs_iload rfl rfl ?_
          refine gs_iload_n rfl rfl ?_
          refine gs_iconst (x := 1) rfl (by decide) ?_
          refine gs_iadd rfl ?_
          cases e
set_option maxRecDepth 100000 in
set_option maxHeartbeats 4000000 in
theorem th_X8_addHours_0 (L : Nat) (p1 : Nat) (p2 : Int32) (p3 : Int32) (f : pd_M) (q : Int32) (e : fn_X8_addHours_0 p1 p2 p3 f = some q) : pr_C L 1 94 [.ref p1, .int p2, .int p3] (hH f) (some (.int q)) (hH f) := by
  refine pr_C.of (G := mt_X8_addHours) rfl rfl ?_
  show pr_G L 0 mt_X8_addHours (0, [(0, .ref p1), (1, .int p2), (2, .int p3)], [], hH f) _ _
  unfold fn_X8_addHours_0 at e
  by_cases hk1 : sk p1 = (12, 5)
  case neg => rw [if_neg hk1] at e; cases e
  rw [if_pos hk1] at e
  refine gs_iload_n rfl rfl ?_
  refine gs_iconst (x := 4) rfl (by decide) ?_
  refine gs_ge2 rfl (fun c1 => ?_) (fun c1 => ?_)
  · rw [if_pos c1] at e
    refine gs_ldc (x := (-1000000)) rfl (by decide) ?_
    obtain rfl := inj1 e
    exact gs_iret rfl rfl rfl rfl rfl
  · rw [if_neg c1] at e
    refine gs_aload_n rfl rfl ?_
    refine gs_get rfl (gd_r (b := (p1 + 3)) (sh_of hk1 (by decide)) rfl (ref_12_2 hk1)) ?_
    refine gs_iload_n rfl rfl ?_
    by_cases hb2 : pa_in p2 4 = true
    case neg => rw [if_neg hb2] at e; cases e
    rw [if_pos hb2] at e
    refine gs_iald rfl (gd_ia (j := p2.toNatClampNeg) (sh_of (fam_12_2 hk1) (by decide)) hb2 rfl) ?_
    refine gs_ldc (x := (-1000000)) rfl (by decide) ?_
    refine gs_ne2 rfl (fun c3 => ?_) (fun c3 => ?_)
    · rw [if_neg c3] at e
      refine gs_aload_n rfl rfl ?_
      refine gs_get rfl (gd_r (b := (p1 + 3)) (sh_of hk1 (by decide)) rfl (ref_12_2 hk1)) ?_
      refine gs_iload_n rfl rfl ?_
      by_cases hb4 : pa_in p2 4 = true
      case neg => rw [if_neg hb4] at e; cases e
      rw [if_pos hb4] at e
      refine gs_iald rfl (gd_ia (j := p2.toNatClampNeg) (sh_of (fam_12_2 hk1) (by decide)) hb4 rfl) ?_
      obtain ⟨x5, hx5, e⟩ := pn_some e
      refine gs_topi hx5 ?_
      refine gs_istore_n (lv' := [(3, .int x5), (0, .ref p1), (1, .int p2), (2, .int p3)]) rfl rfl ?_
      refine gs_iconst (x := 0) rfl (by decide) ?_
      refine gs_istore (lv' := [(4, .int 0), (3, .int x5), (0, .ref p1), (1, .int p2), (2, .int p3)]) rfl rfl ?_
      refine gs_drop [2, 3, 4, 1, 0] rfl ?_
      rcases os1_some e with ⟨q, el11, e⟩ | ⟨y10, el11, e⟩
      · skip
        obtain rfl := inj1 e
        exact (tl_X8_addHours_0_29 L 5000 p1 p2 p3 x5 0 f _ el11).1 _ rfl
      · refine (tl_X8_addHours_0_29 L 5000 p1 p2 p3 x5 0 f _ el11).2 y10 rfl _ _ ?_
        refine gs_iload_n rfl rfl ?_
        obtain rfl := inj1 e
        exact gs_iret rfl rfl rfl rfl rfl
    · rw [if_pos c3] at e
      refine gs_ldc (x := (-1000000)) rfl (by decide) ?_
      obtain rfl := inj1 e
      exact gs_iret rfl rfl rfl rfl rfl
def lp_X8_addHours_1_29 : Nat → Nat → Int32 → Int32 → Int32 → Int32 → pd_M → Option ((Int32) ⊕ (Int32))
  | 0, _, _, _, _, _, _ => none
  | n + 1, z0, z1, z2, z3, z4, f =>
    if sk z0 = (12, 5) then
    if 4 ≤ z4 then
    some (.inr (z3))
    else
    if pa_in z1 4 = true then
    if (((f (z0 + 4) z1.toNatClampNeg) >>> (z4 &&& 31)) &&& 1) = 0 then
    pn (z4 + 1) fun x9 =>
    lp_X8_addHours_1_29 n z0 z1 z2 z3 x9 f
    else
    ob1 (fn_X8_addHours_0 z0 z4 (z2 + 1) f) fun r10 =>
    if r10 = (-1000000) then
    some (.inl (-1000000))
    else
    pn ((z3 + r10)) fun x13 =>
    pn (z4 + 1) fun x14 =>
    lp_X8_addHours_1_29 n z0 z1 z2 x13 x14 f
    else none
    else none
def fn_X8_addHours_1 (p1 : Nat) (p2 : Int32) (p3 : Int32) (f : pd_M) : Option (Int32) :=
  if sk p1 = (12, 5) then
  if 4 ≤ p3 then
  some (-1000000)
  else
  if pa_in p2 4 = true then
  if (f (p1 + 3) p2.toNatClampNeg) = (-1000000) then
  some (-1000000)
  else
  if pa_in p2 4 = true then
  pn ((f (p1 + 3) p2.toNatClampNeg)) fun x5 =>
  os1 (lp_X8_addHours_1_29 5000 p1 p2 p3 x5 0 f) (fun q => some q) fun y15 =>
  some y15
  else none
  else none
  else none
set_option maxRecDepth 100000 in
set_option maxHeartbeats 4000000 in
theorem tl_X8_addHours_1_29 (L : Nat) : ∀ (n : Nat) (z0 : Nat) (z1 : Int32) (z2 : Int32) (z3 : Int32) (z4 : Int32) (f : pd_M) (o : (Int32) ⊕ (Int32)), lp_X8_addHours_1_29 n z0 z1 z2 z3 z4 f = some o → (∀ q, o = .inl q → pr_G L 1 mt_X8_addHours (29, [(0, .ref z0), (1, .int z1), (2, .int z2), (3, .int z3), (4, .int z4)], [], hH f) (some (.int q)) (hH f)) ∧ (∀ (w0 : Int32), o = .inr (w0) → ∀ (r : Option Value) (h2 : ph_T), pr_G L 1 mt_X8_addHours (81, [(3, .int w0)], [], hH f) r h2 → pr_G L 1 mt_X8_addHours (29, [(0, .ref z0), (1, .int z1), (2, .int z2), (3, .int z3), (4, .int z4)], [], hH f) r h2) := by
  intro n
  induction n with
  | zero => intro z0 z1 z2 z3 z4 f o e; cases e
  | succ n ih =>
    intro z0 z1 z2 z3 z4 f o e
    refine ⟨fun q hq => ?_, fun w0 hq r h2 K => ?_⟩
    · subst hq
      unfold lp_X8_addHours_1_29 at e
      by_cases hk0 : sk z0 = (12, 5)
      case neg => rw [if_neg hk0] at e; cases e
      rw [if_pos hk0] at e
      refine gs_iload rfl rfl ?_
      refine gs_iconst (x := 4) rfl (by decide) ?_
      refine gs_ge2 rfl (fun c6 => ?_) (fun c6 => ?_)
      · rw [if_pos c6] at e
        cases e
      · rw [if_neg c6] at e
        refine gs_aload_n rfl rfl ?_
        refine gs_get rfl (gd_r (b := (z0 + 4)) (sh_of hk0 (by decide)) rfl (ref_12_3 hk0)) ?_
        refine gs_iload_n rfl rfl ?_
        by_cases hb7 : pa_in z1 4 = true
        case neg => rw [if_neg hb7] at e; cases e
        rw [if_pos hb7] at e
        refine gs_iald rfl (gd_ia (j := z1.toNatClampNeg) (sh_of (fam_12_3 hk0) (by decide)) hb7 rfl) ?_
        refine gs_iload rfl rfl ?_
        refine gs_ishr rfl ?_
        refine gs_iconst (x := 1) rfl (by decide) ?_
        refine gs_iand rfl ?_
        refine gs_eq0 rfl (fun c8 => ?_) (fun c8 => ?_)
        · rw [if_pos c8] at e
          obtain ⟨x9, hx9, e⟩ := pn_some e
          refine gs_iinc1 (x1 := x9) (c := 1) (lv' := [(4, .int x9), (0, .ref z0), (1, .int z1), (2, .int z2), (3, .int z3)]) rfl rfl (by decide) hx9 rfl ?_
          refine gs_goto rfl ?_
          refine gs_drop [1, 2, 3, 4, 0] rfl ?_
          exact (ih z0 z1 z2 z3 x9 f _ e).1 _ rfl
        · rw [if_neg c8] at e
          refine gs_aload_n rfl rfl ?_
          refine gs_iload rfl rfl ?_
          refine gs_iload_n rfl rfl ?_
          refine gs_iconst (x := 1) rfl (by decide) ?_
          refine gs_iadd rfl ?_
          obtain ⟨r10, ec11, e⟩ := ob1_some e
          refine gs_callsI (st := []) rfl (pr_C_le (by decide) (th_X8_addHours_0 L z0 z4 (z2 + 1) f r10 ec11)) rfl rfl rfl (by decide) ?_
          refine gs_istore (lv' := [(5, .int r10), (0, .ref z0), (1, .int z1), (2, .int z2), (3, .int z3), (4, .int z4)]) rfl rfl ?_
          refine gs_iload rfl rfl ?_
          refine gs_ldc (x := (-1000000)) rfl (by decide) ?_
          refine gs_ne2 rfl (fun c12 => ?_) (fun c12 => ?_)
          · rw [if_neg c12] at e
            refine gs_iload_n rfl rfl ?_
            refine gs_iload rfl rfl ?_
            refine gs_iadd rfl ?_
            obtain ⟨x13, hx13, e⟩ := pn_some e
            refine gs_topi hx13 ?_
            refine gs_istore_n (lv' := [(3, .int x13), (5, .int r10), (0, .ref z0), (1, .int z1), (2, .int z2), (4, .int z4)]) rfl rfl ?_
            obtain ⟨x14, hx14, e⟩ := pn_some e
            refine gs_iinc1 (x1 := x14) (c := 1) (lv' := [(4, .int x14), (3, .int x13), (5, .int r10), (0, .ref z0), (1, .int z1), (2, .int z2)]) rfl rfl (by decide) hx14 rfl ?_
            refine gs_goto rfl ?_
            refine gs_drop [3, 4, 5, 1, 0] rfl ?_
            exact (ih z0 z1 z2 x13 x14 f _ e).1 _ rfl
          · rw [if_pos c12] at e
            refine gs_ldc (x := (-1000000)) rfl (by decide) ?_
            obtain rfl := injl e
            exact gs_iret rfl rfl rfl rfl rfl
    · subst hq
      unfold lp_X8_addHours_1_29 at e
      by_cases hk0 : sk z0 = (12, 5)
      case neg => rw [if_neg hk0] at e; cases e
      rw [if_pos hk0] at e
      refine gs_iload rfl rfl ?_
      refine gs_iconst (x := 4) rfl (by decide) ?_
      refine gs_ge2 rfl (fun c6 => ?_) (fun c6 => ?_)
      · rw [if_pos c6] at e
        obtain rfl := injr1 e
        refine gs_drop [3] rfl ?_
        exact K
      · rw [if_neg c6] at e
        refine gs_aload_n rfl rfl ?_
        refine gs_get rfl (gd_r (b := (z0 + 4)) (sh_of hk0 (by decide)) rfl (ref_12_3 hk0)) ?_
        refine gs_iload_n rfl rfl ?_
        by_cases hb7 : pa_in z1 4 = true
        case neg => rw [if_neg hb7] at e; cases e
        rw [if_pos hb7] at e
        refine gs_iald rfl (gd_ia (j := z1.toNatClampNeg) (sh_of (fam_12_3 hk0) (by decide)) hb7 rfl) ?_
        refine gs_iload rfl rfl ?_
        refine gs_ishr rfl ?_
        refine gs_iconst (x := 1) rfl (by decide) ?_
        refine gs_iand rfl ?_
        refine gs_eq0 rfl (fun c8 => ?_) (fun c8 => ?_)
        · rw [if_pos c8] at e
          obtain ⟨x9, hx9, e⟩ := pn_some e
          refine gs_iinc1 (x1 := x9) (c := 1) (lv' := [(4, .int x9), (0, .ref z0), (1, .int z1), (2, .int z2), (3, .int z3)]) rfl rfl (by decide) hx9 rfl ?_
          refine gs_goto rfl ?_
          refine gs_drop [1, 2, 3, 4, 0] rfl ?_
          exact (ih z0 z1 z2 z3 x9 f _ e).2 w0 rfl _ _ K
        · rw [if_neg c8] at e
          refine gs_aload_n rfl rfl ?_
          refine gs_iload rfl rfl ?_
          refine gs_iload_n rfl rfl ?_
          refine gs_iconst (x := 1) rfl (by decide) ?_
          refine gs_iadd rfl ?_
          obtain ⟨r10, ec11, e⟩ := ob1_some e
          refine gs_callsI (st := []) rfl (pr_C_le (by decide) (th_X8_addHours_0 L z0 z4 (z2 + 1) f r10 ec11)) rfl rfl rfl (by decide) ?_
          refine gs_istore (lv' := [(5, .int r10), (0, .ref z0), (1, .int z1), (2, .int z2), (3, .int z3), (4, .int z4)]) rfl rfl ?_
          refine gs_iload rfl rfl ?_
          refine gs_ldc (x := (-1000000)) rfl (by decide) ?_
          refine gs_ne2 rfl (fun c12 => ?_) (fun c12 => ?_)
          · rw [if_neg c12] at e
            refine gs_iload_n rfl rfl ?_
            refine gs_iload rfl rfl ?_
            refine gs_iadd rfl ?_
            obtain ⟨x13, hx13, e⟩ := pn_some e
            refine gs_topi hx13 ?_
            refine gs_istore_n (lv' := [(3, .int x13), (5, .int r10), (0, .ref z0), (1, .int z1), (2, .int z2), (4, .int z4)]) rfl rfl ?_
            obtain ⟨x14, hx14, e⟩ := pn_some e
            refine gs_iinc1 (x1 := x14) (c := 1) (lv' := [(4, .int x14), (3, .int x13), (5, .int r10), (0, .ref z0), (1, .int z1), (2, .int z2)]) rfl rfl (by decide) hx14 rfl ?_
            refine gs_goto rfl ?_
            refine gs_drop [3, 4, 5, 1, 0] rfl ?_
            exact (ih z0 z1 z2 x13 x14 f _ e).2 w0 rfl _ _ K
          · rw [if_pos c12] at e
            refine gs_ldc (x := (-1000000)) rfl (by decide) ?_
            cases e
set_option maxRecDepth 100000 in
set_option maxHeartbeats 4000000 in
theorem th_X8_addHours_1 (L : Nat) (p1 : Nat) (p2 : Int32) (p3 : Int32) (f : pd_M) (q : Int32) (e : fn_X8_addHours_1 p1 p2 p3 f = some q) : pr_C L 2 94 [.ref p1, .int p2, .int p3] (hH f) (some (.int q)) (hH f) := by
  refine pr_C.of (G := mt_X8_addHours) rfl rfl ?_
  show pr_G L 1 mt_X8_addHours (0, [(0, .ref p1), (1, .int p2), (2, .int p3)], [], hH f) _ _
  unfold fn_X8_addHours_1 at e
  by_cases hk1 : sk p1 = (12, 5)
  case neg => rw [if_neg hk1] at e; cases e
  rw [if_pos hk1] at e
  refine gs_iload_n rfl rfl ?_
  refine gs_iconst (x := 4) rfl (by decide) ?_
  refine gs_ge2 rfl (fun c1 => ?_) (fun c1 => ?_)
  · rw [if_pos c1] at e
    refine gs_ldc (x := (-1000000)) rfl (by decide) ?_
    obtain rfl := inj1 e
    exact gs_iret rfl rfl rfl rfl rfl
  · rw [if_neg c1] at e
    refine gs_aload_n rfl rfl ?_
    refine gs_get rfl (gd_r (b := (p1 + 3)) (sh_of hk1 (by decide)) rfl (ref_12_2 hk1)) ?_
    refine gs_iload_n rfl rfl ?_
    by_cases hb2 : pa_in p2 4 = true
    case neg => rw [if_neg hb2] at e; cases e
    rw [if_pos hb2] at e
    refine gs_iald rfl (gd_ia (j := p2.toNatClampNeg) (sh_of (fam_12_2 hk1) (by decide)) hb2 rfl) ?_
    refine gs_ldc (x := (-1000000)) rfl (by decide) ?_
    refine gs_ne2 rfl (fun c3 => ?_) (fun c3 => ?_)
    · rw [if_neg c3] at e
      refine gs_aload_n rfl rfl ?_
      refine gs_get rfl (gd_r (b := (p1 + 3)) (sh_of hk1 (by decide)) rfl (ref_12_2 hk1)) ?_
      refine gs_iload_n rfl rfl ?_
      by_cases hb4 : pa_in p2 4 = true
      case neg => rw [if_neg hb4] at e; cases e
      rw [if_pos hb4] at e
      refine gs_iald rfl (gd_ia (j := p2.toNatClampNeg) (sh_of (fam_12_2 hk1) (by decide)) hb4 rfl) ?_
      obtain ⟨x5, hx5, e⟩ := pn_some e
      refine gs_topi hx5 ?_
      refine gs_istore_n (lv' := [(3, .int x5), (0, .ref p1), (1, .int p2), (2, .int p3)]) rfl rfl ?_
      refine gs_iconst (x := 0) rfl (by decide) ?_
      refine gs_istore (lv' := [(4, .int 0), (3, .int x5), (0, .ref p1), (1, .int p2), (2, .int p3)]) rfl rfl ?_
      refine gs_drop [2, 3, 4, 1, 0] rfl ?_
      rcases os1_some e with ⟨q, el16, e⟩ | ⟨y15, el16, e⟩
      · skip
        obtain rfl := inj1 e
        exact (tl_X8_addHours_1_29 L 5000 p1 p2 p3 x5 0 f _ el16).1 _ rfl
      · refine (tl_X8_addHours_1_29 L 5000 p1 p2 p3 x5 0 f _ el16).2 y15 rfl _ _ ?_
        refine gs_iload_n rfl rfl ?_
        obtain rfl := inj1 e
        exact gs_iret rfl rfl rfl rfl rfl
    · rw [if_pos c3] at e
      refine gs_ldc (x := (-1000000)) rfl (by decide) ?_
      obtain rfl := inj1 e
      exact gs_iret rfl rfl rfl rfl rfl
def lp_X8_addHours_2_29 : Nat → Nat → Int32 → Int32 → Int32 → Int32 → pd_M → Option ((Int32) ⊕ (Int32))
  | 0, _, _, _, _, _, _ => none
  | n + 1, z0, z1, z2, z3, z4, f =>
    if sk z0 = (12, 5) then
    if 4 ≤ z4 then
    some (.inr (z3))
    else
    if pa_in z1 4 = true then
    if (((f (z0 + 4) z1.toNatClampNeg) >>> (z4 &&& 31)) &&& 1) = 0 then
    pn (z4 + 1) fun x9 =>
    lp_X8_addHours_2_29 n z0 z1 z2 z3 x9 f
    else
    ob1 (fn_X8_addHours_1 z0 z4 (z2 + 1) f) fun r10 =>
    if r10 = (-1000000) then
    some (.inl (-1000000))
    else
    pn ((z3 + r10)) fun x13 =>
    pn (z4 + 1) fun x14 =>
    lp_X8_addHours_2_29 n z0 z1 z2 x13 x14 f
    else none
    else none
def fn_X8_addHours_2 (p1 : Nat) (p2 : Int32) (p3 : Int32) (f : pd_M) : Option (Int32) :=
  if sk p1 = (12, 5) then
  if 4 ≤ p3 then
  some (-1000000)
  else
  if pa_in p2 4 = true then
  if (f (p1 + 3) p2.toNatClampNeg) = (-1000000) then
  some (-1000000)
  else
  if pa_in p2 4 = true then
  pn ((f (p1 + 3) p2.toNatClampNeg)) fun x5 =>
  os1 (lp_X8_addHours_2_29 5000 p1 p2 p3 x5 0 f) (fun q => some q) fun y15 =>
  some y15
  else none
  else none
  else none
set_option maxRecDepth 100000 in
set_option maxHeartbeats 4000000 in
theorem tl_X8_addHours_2_29 (L : Nat) : ∀ (n : Nat) (z0 : Nat) (z1 : Int32) (z2 : Int32) (z3 : Int32) (z4 : Int32) (f : pd_M) (o : (Int32) ⊕ (Int32)), lp_X8_addHours_2_29 n z0 z1 z2 z3 z4 f = some o → (∀ q, o = .inl q → pr_G L 2 mt_X8_addHours (29, [(0, .ref z0), (1, .int z1), (2, .int z2), (3, .int z3), (4, .int z4)], [], hH f) (some (.int q)) (hH f)) ∧ (∀ (w0 : Int32), o = .inr (w0) → ∀ (r : Option Value) (h2 : ph_T), pr_G L 2 mt_X8_addHours (81, [(3, .int w0)], [], hH f) r h2 → pr_G L 2 mt_X8_addHours (29, [(0, .ref z0), (1, .int z1), (2, .int z2), (3, .int z3), (4, .int z4)], [], hH f) r h2) := by
  intro n
  induction n with
  | zero => intro z0 z1 z2 z3 z4 f o e; cases e
  | succ n ih =>
    intro z0 z1 z2 z3 z4 f o e
    refine ⟨fun q hq => ?_, fun w0 hq r h2 K => ?_⟩
    · subst hq
      unfold lp_X8_addHours_2_29 at e
      by_cases hk0 : sk z0 = (12, 5)
      case neg => rw [if_neg hk0] at e; cases e
      rw [if_pos hk0] at e
      refine gs_iload rfl rfl ?_
      refine gs_iconst (x := 4) rfl (by decide) ?_
      refine gs_ge2 rfl (fun c6 => ?_) (fun c6 => ?_)
      · rw [if_pos c6] at e
        cases e
      · rw [if_neg c6] at e
        refine gs_aload_n rfl rfl ?_
        refine gs_get rfl (gd_r (b := (z0 + 4)) (sh_of hk0 (by decide)) rfl (ref_12_3 hk0)) ?_
        refine gs_iload_n rfl rfl ?_
        by_cases hb7 : pa_in z1 4 = true
        case neg => rw [if_neg hb7] at e; cases e
        rw [if_pos hb7] at e
        refine gs_iald rfl (gd_ia (j := z1.toNatClampNeg) (sh_of (fam_12_3 hk0) (by decide)) hb7 rfl) ?_
        refine gs_iload rfl rfl ?_
        refine gs_ishr rfl ?_
        refine gs_iconst (x := 1) rfl (by decide) ?_
        refine gs_iand rfl ?_
        refine gs_eq0 rfl (fun c8 => ?_) (fun c8 => ?_)
        · rw [if_pos c8] at e
          obtain ⟨x9, hx9, e⟩ := pn_some e
          refine gs_iinc1 (x1 := x9) (c := 1) (lv' := [(4, .int x9), (0, .ref z0), (1, .int z1), (2, .int z2), (3, .int z3)]) rfl rfl (by decide) hx9 rfl ?_
          refine gs_goto rfl ?_
          refine gs_drop [1, 2, 3, 4, 0] rfl ?_
          exact (ih z0 z1 z2 z3 x9 f _ e).1 _ rfl
        · rw [if_neg c8] at e
          refine gs_aload_n rfl rfl ?_
          refine gs_iload rfl rfl ?_
          refine gs_iload_n rfl rfl ?_
          refine gs_iconst (x := 1) rfl (by decide) ?_
          refine gs_iadd rfl ?_
          obtain ⟨r10, ec11, e⟩ := ob1_some e
          refine gs_callsI (st := []) rfl (pr_C_le (by decide) (th_X8_addHours_1 L z0 z4 (z2 + 1) f r10 ec11)) rfl rfl rfl (by decide) ?_
          refine gs_istore (lv' := [(5, .int r10), (0, .ref z0), (1, .int z1), (2, .int z2), (3, .int z3), (4, .int z4)]) rfl rfl ?_
          refine gs_iload rfl rfl ?_
          refine gs_ldc (x := (-1000000)) rfl (by decide) ?_
          refine gs_ne2 rfl (fun c12 => ?_) (fun c12 => ?_)
          · rw [if_neg c12] at e
            refine gs_iload_n rfl rfl ?_
            refine gs_iload rfl rfl ?_
            refine gs_iadd rfl ?_
            obtain ⟨x13, hx13, e⟩ := pn_some e
            refine gs_topi hx13 ?_
            refine gs_istore_n (lv' := [(3, .int x13), (5, .int r10), (0, .ref z0), (1, .int z1), (2, .int z2), (4, .int z4)]) rfl rfl ?_
            obtain ⟨x14, hx14, e⟩ := pn_some e
            refine gs_iinc1 (x1 := x14) (c := 1) (lv' := [(4, .int x14), (3, .int x13), (5, .int r10), (0, .ref z0), (1, .int z1), (2, .int z2)]) rfl rfl (by decide) hx14 rfl ?_
            refine gs_goto rfl ?_
            refine gs_drop [3, 4, 5, 1, 0] rfl ?_
            exact (ih z0 z1 z2 x13 x14 f _ e).1 _ rfl
          · rw [if_pos c12] at e
            refine gs_ldc (x := (-1000000)) rfl (by decide) ?_
            obtain rfl := injl e
            exact gs_iret rfl rfl rfl rfl rfl
    · subst hq
      unfold lp_X8_addHours_2_29 at e
      by_cases hk0 : sk z0 = (12, 5)
      case neg => rw [if_neg hk0] at e; cases e
      rw [if_pos hk0] at e
      refine gs_iload rfl rfl ?_
      refine gs_iconst (x := 4) rfl (by decide) ?_
      refine gs_ge2 rfl (fun c6 => ?_) (fun c6 => ?_)
      · rw [if_pos c6] at e
        obtain rfl := injr1 e
        refine gs_drop [3] rfl ?_
        exact K
      · rw [if_neg c6] at e
        refine gs_aload_n rfl rfl ?_
        refine gs_get rfl (gd_r (b := (z0 + 4)) (sh_of hk0 (by decide)) rfl (ref_12_3 hk0)) ?_
        refine gs_iload_n rfl rfl ?_
        by_cases hb7 : pa_in z1 4 = true
        case neg => rw [if_neg hb7] at e; cases e
        rw [if_pos hb7] at e
        refine gs_iald rfl (gd_ia (j := z1.toNatClampNeg) (sh_of (fam_12_3 hk0) (by decide)) hb7 rfl) ?_
        refine gs_iload rfl rfl ?_
        refine gs_ishr rfl ?_
        refine gs_iconst (x := 1) rfl (by decide) ?_
        refine gs_iand rfl ?_
        refine gs_eq0 rfl (fun c8 => ?_) (fun c8 => ?_)
        · rw [if_pos c8] at e
          obtain ⟨x9, hx9, e⟩ := pn_some e
          refine gs_iinc1 (x1 := x9) (c := 1) (lv' := [(4, .int x9), (0, .ref z0), (1, .int z1), (2, .int z2), (3, .int z3)]) rfl rfl (by decide) hx9 rfl ?_
          refine gs_goto rfl ?_
          refine gs_drop [1, 2, 3, 4, 0] rfl ?_
          exact (ih z0 z1 z2 z3 x9 f _ e).2 w0 rfl _ _ K
        · rw [if_neg c8] at e
          refine gs_aload_n rfl rfl ?_
          refine gs_iload rfl rfl ?_
          refine gs_iload_n rfl rfl ?_
          refine gs_iconst (x := 1) rfl (by decide) ?_
          refine gs_iadd rfl ?_
          obtain ⟨r10, ec11, e⟩ := ob1_some e
          refine gs_callsI (st := []) rfl (pr_C_le (by decide) (th_X8_addHours_1 L z0 z4 (z2 + 1) f r10 ec11)) rfl rfl rfl (by decide) ?_
          refine gs_istore (lv' := [(5, .int r10), (0, .ref z0), (1, .int z1), (2, .int z2), (3, .int z3), (4, .int z4)]) rfl rfl ?_
          refine gs_iload rfl rfl ?_
          refine gs_ldc (x := (-1000000)) rfl (by decide) ?_
          refine gs_ne2 rfl (fun c12 => ?_) (fun c12 => ?_)
          · rw [if_neg c12] at e
            refine gs_iload_n rfl rfl ?_
            refine gs_iload rfl rfl ?_
            refine gs_iadd rfl ?_
            obtain ⟨x13, hx13, e⟩ := pn_some e
            refine gs_topi hx13 ?_
            refine gs_istore_n (lv' := [(3, .int x13), (5, .int r10), (0, .ref z0), (1, .int z1), (2, .int z2), (4, .int z4)]) rfl rfl ?_
            obtain ⟨x14, hx14, e⟩ := pn_some e
            refine gs_iinc1 (x1 := x14) (c := 1) (lv' := [(4, .int x14), (3, .int x13), (5, .int r10), (0, .ref z0), (1, .int z1), (2, .int z2)]) rfl rfl (by decide) hx14 rfl ?_
            refine gs_goto rfl ?_
            refine gs_drop [3, 4, 5, 1, 0] rfl ?_
            exact (ih z0 z1 z2 x13 x14 f _ e).2 w0 rfl _ _ K
          · rw [if_pos c12] at e
            refine gs_ldc (x := (-1000000)) rfl (by decide) ?_
            cases e
set_option maxRecDepth 100000 in
set_option maxHeartbeats 4000000 in
theorem th_X8_addHours_2 (L : Nat) (p1 : Nat) (p2 : Int32) (p3 : Int32) (f : pd_M) (q : Int32) (e : fn_X8_addHours_2 p1 p2 p3 f = some q) : pr_C L 3 94 [.ref p1, .int p2, .int p3] (hH f) (some (.int q)) (hH f) := by
  refine pr_C.of (G := mt_X8_addHours) rfl rfl ?_
  show pr_G L 2 mt_X8_addHours (0, [(0, .ref p1), (1, .int p2), (2, .int p3)], [], hH f) _ _
  unfold fn_X8_addHours_2 at e
  by_cases hk1 : sk p1 = (12, 5)
  case neg => rw [if_neg hk1] at e; cases e
  rw [if_pos hk1] at e
  refine gs_iload_n rfl rfl ?_
  refine gs_iconst (x := 4) rfl (by decide) ?_
  refine gs_ge2 rfl (fun c1 => ?_) (fun c1 => ?_)
  · rw [if_pos c1] at e
    refine gs_ldc (x := (-1000000)) rfl (by decide) ?_
    obtain rfl := inj1 e
    exact gs_iret rfl rfl rfl rfl rfl
  · rw [if_neg c1] at e
    refine gs_aload_n rfl rfl ?_
    refine gs_get rfl (gd_r (b := (p1 + 3)) (sh_of hk1 (by decide)) rfl (ref_12_2 hk1)) ?_
    refine gs_iload_n rfl rfl ?_
    by_cases hb2 : pa_in p2 4 = true
    case neg => rw [if_neg hb2] at e; cases e
    rw [if_pos hb2] at e
    refine gs_iald rfl (gd_ia (j := p2.toNatClampNeg) (sh_of (fam_12_2 hk1) (by decide)) hb2 rfl) ?_
    refine gs_ldc (x := (-1000000)) rfl (by decide) ?_
    refine gs_ne2 rfl (fun c3 => ?_) (fun c3 => ?_)
    · rw [if_neg c3] at e
      refine gs_aload_n rfl rfl ?_
      refine gs_get rfl (gd_r (b := (p1 + 3)) (sh_of hk1 (by decide)) rfl (ref_12_2 hk1)) ?_
      refine gs_iload_n rfl rfl ?_
      by_cases hb4 : pa_in p2 4 = true
      case neg => rw [if_neg hb4] at e; cases e
      rw [if_pos hb4] at e
      refine gs_iald rfl (gd_ia (j := p2.toNatClampNeg) (sh_of (fam_12_2 hk1) (by decide)) hb4 rfl) ?_
      obtain ⟨x5, hx5, e⟩ := pn_some e
      refine gs_topi hx5 ?_
      refine gs_istore_n (lv' := [(3, .int x5), (0, .ref p1), (1, .int p2), (2, .int p3)]) rfl rfl ?_
      refine gs_iconst (x := 0) rfl (by decide) ?_
      refine gs_istore (lv' := [(4, .int 0), (3, .int x5), (0, .ref p1), (1, .int p2), (2, .int p3)]) rfl rfl ?_
      refine gs_drop [2, 3, 4, 1, 0] rfl ?_
      rcases os1_some e with ⟨q, el16, e⟩ | ⟨y15, el16, e⟩
      · skip
        obtain rfl := inj1 e
        exact (tl_X8_addHours_2_29 L 5000 p1 p2 p3 x5 0 f _ el16).1 _ rfl
      · refine (tl_X8_addHours_2_29 L 5000 p1 p2 p3 x5 0 f _ el16).2 y15 rfl _ _ ?_
        refine gs_iload_n rfl rfl ?_
        obtain rfl := inj1 e
        exact gs_iret rfl rfl rfl rfl rfl
    · rw [if_pos c3] at e
      refine gs_ldc (x := (-1000000)) rfl (by decide) ?_
      obtain rfl := inj1 e
      exact gs_iret rfl rfl rfl rfl rfl
def lp_X8_addHours_3_29 : Nat → Nat → Int32 → Int32 → Int32 → Int32 → pd_M → Option ((Int32) ⊕ (Int32))
  | 0, _, _, _, _, _, _ => none
  | n + 1, z0, z1, z2, z3, z4, f =>
    if sk z0 = (12, 5) then
    if 4 ≤ z4 then
    some (.inr (z3))
    else
    if pa_in z1 4 = true then
    if (((f (z0 + 4) z1.toNatClampNeg) >>> (z4 &&& 31)) &&& 1) = 0 then
    pn (z4 + 1) fun x9 =>
    lp_X8_addHours_3_29 n z0 z1 z2 z3 x9 f
    else
    ob1 (fn_X8_addHours_2 z0 z4 (z2 + 1) f) fun r10 =>
    if r10 = (-1000000) then
    some (.inl (-1000000))
    else
    pn ((z3 + r10)) fun x13 =>
    pn (z4 + 1) fun x14 =>
    lp_X8_addHours_3_29 n z0 z1 z2 x13 x14 f
    else none
    else none
def fn_X8_addHours_3 (p1 : Nat) (p2 : Int32) (p3 : Int32) (f : pd_M) : Option (Int32) :=
  if sk p1 = (12, 5) then
  if 4 ≤ p3 then
  some (-1000000)
  else
  if pa_in p2 4 = true then
  if (f (p1 + 3) p2.toNatClampNeg) = (-1000000) then
  some (-1000000)
  else
  if pa_in p2 4 = true then
  pn ((f (p1 + 3) p2.toNatClampNeg)) fun x5 =>
  os1 (lp_X8_addHours_3_29 5000 p1 p2 p3 x5 0 f) (fun q => some q) fun y15 =>
  some y15
  else none
  else none
  else none
set_option maxRecDepth 100000 in
set_option maxHeartbeats 4000000 in
theorem tl_X8_addHours_3_29 (L : Nat) : ∀ (n : Nat) (z0 : Nat) (z1 : Int32) (z2 : Int32) (z3 : Int32) (z4 : Int32) (f : pd_M) (o : (Int32) ⊕ (Int32)), lp_X8_addHours_3_29 n z0 z1 z2 z3 z4 f = some o → (∀ q, o = .inl q → pr_G L 3 mt_X8_addHours (29, [(0, .ref z0), (1, .int z1), (2, .int z2), (3, .int z3), (4, .int z4)], [], hH f) (some (.int q)) (hH f)) ∧ (∀ (w0 : Int32), o = .inr (w0) → ∀ (r : Option Value) (h2 : ph_T), pr_G L 3 mt_X8_addHours (81, [(3, .int w0)], [], hH f) r h2 → pr_G L 3 mt_X8_addHours (29, [(0, .ref z0), (1, .int z1), (2, .int z2), (3, .int z3), (4, .int z4)], [], hH f) r h2) := by
  intro n
  induction n with
  | zero => intro z0 z1 z2 z3 z4 f o e; cases e
  | succ n ih =>
    intro z0 z1 z2 z3 z4 f o e
    refine ⟨fun q hq => ?_, fun w0 hq r h2 K => ?_⟩
    · subst hq
      unfold lp_X8_addHours_3_29 at e
      by_cases hk0 : sk z0 = (12, 5)
      case neg => rw [if_neg hk0] at e; cases e
      rw [if_pos hk0] at e
      refine gs_iload rfl rfl ?_
      refine gs_iconst (x := 4) rfl (by decide) ?_
      refine gs_ge2 rfl (fun c6 => ?_) (fun c6 => ?_)
      · rw [if_pos c6] at e
        cases e
      · rw [if_neg c6] at e
        refine gs_aload_n rfl rfl ?_
        refine gs_get rfl (gd_r (b := (z0 + 4)) (sh_of hk0 (by decide)) rfl (ref_12_3 hk0)) ?_
        refine gs_iload_n rfl rfl ?_
        by_cases hb7 : pa_in z1 4 = true
        case neg => rw [if_neg hb7] at e; cases e
        rw [if_pos hb7] at e
        refine gs_iald rfl (gd_ia (j := z1.toNatClampNeg) (sh_of (fam_12_3 hk0) (by decide)) hb7 rfl) ?_
        refine gs_iload rfl rfl ?_
        refine gs_ishr rfl ?_
        refine gs_iconst (x := 1) rfl (by decide) ?_
        refine gs_iand rfl ?_
        refine gs_eq0 rfl (fun c8 => ?_) (fun c8 => ?_)
        · rw [if_pos c8] at e
          obtain ⟨x9, hx9, e⟩ := pn_some e
          refine gs_iinc1 (x1 := x9) (c := 1) (lv' := [(4, .int x9), (0, .ref z0), (1, .int z1), (2, .int z2), (3, .int z3)]) rfl rfl (by decide) hx9 rfl ?_
          refine gs_goto rfl ?_
          refine gs_drop [1, 2, 3, 4, 0] rfl ?_
          exact (ih z0 z1 z2 z3 x9 f _ e).1 _ rfl
        · rw [if_neg c8] at e
          refine gs_aload_n rfl rfl ?_
          refine gs_iload rfl rfl ?_
          refine gs_iload_n rfl rfl ?_
          refine gs_iconst (x := 1) rfl (by decide) ?_
          refine gs_iadd rfl ?_
          obtain ⟨r10, ec11, e⟩ := ob1_some e
          refine gs_callsI (st := []) rfl (pr_C_le (by decide) (th_X8_addHours_2 L z0 z4 (z2 + 1) f r10 ec11)) rfl rfl rfl (by decide) ?_
          refine gs_istore (lv' := [(5, .int r10), (0, .ref z0), (1, .int z1), (2, .int z2), (3, .int z3), (4, .int z4)]) rfl rfl ?_
          refine gs_iload rfl rfl ?_
          refine gs_ldc (x := (-1000000)) rfl (by decide) ?_
          refine gs_ne2 rfl (fun c12 => ?_) (fun c12 => ?_)
          · rw [if_neg c12] at e
            refine gs_iload_n rfl rfl ?_
            refine gs_iload rfl rfl ?_
            refine gs_iadd rfl ?_
            obtain ⟨x13, hx13, e⟩ := pn_some e
            refine gs_topi hx13 ?_
            refine gs_istore_n (lv' := [(3, .int x13), (5, .int r10), (0, .ref z0), (1, .int z1), (2, .int z2), (4, .int z4)]) rfl rfl ?_
            obtain ⟨x14, hx14, e⟩ := pn_some e
            refine gs_iinc1 (x1 := x14) (c := 1) (lv' := [(4, .int x14), (3, .int x13), (5, .int r10), (0, .ref z0), (1, .int z1), (2, .int z2)]) rfl rfl (by decide) hx14 rfl ?_
            refine gs_goto rfl ?_
            refine gs_drop [3, 4, 5, 1, 0] rfl ?_
            exact (ih z0 z1 z2 x13 x14 f _ e).1 _ rfl
          · rw [if_pos c12] at e
            refine gs_ldc (x := (-1000000)) rfl (by decide) ?_
            obtain rfl := injl e
            exact gs_iret rfl rfl rfl rfl rfl
    · subst hq
      unfold lp_X8_addHours_3_29 at e
      by_cases hk0 : sk z0 = (12, 5)
      case neg => rw [if_neg hk0] at e; cases e
      rw [if_pos hk0] at e
      refine gs_iload rfl rfl ?_
      refine gs_iconst (x := 4) rfl (by decide) ?_
      refine gs_ge2 rfl (fun c6 => ?_) (fun c6 => ?_)
      · rw [if_pos c6] at e
        obtain rfl := injr1 e
        refine gs_drop [3] rfl ?_
        exact K
      · rw [if_neg c6] at e
        refine gs_aload_n rfl rfl ?_
        refine gs_get rfl (gd_r (b := (z0 + 4)) (sh_of hk0 (by decide)) rfl (ref_12_3 hk0)) ?_
        refine gs_iload_n rfl rfl ?_
        by_cases hb7 : pa_in z1 4 = true
        case neg => rw [if_neg hb7] at e; cases e
        rw [if_pos hb7] at e
        refine gs_iald rfl (gd_ia (j := z1.toNatClampNeg) (sh_of (fam_12_3 hk0) (by decide)) hb7 rfl) ?_
        refine gs_iload rfl rfl ?_
        refine gs_ishr rfl ?_
        refine gs_iconst (x := 1) rfl (by decide) ?_
        refine gs_iand rfl ?_
        refine gs_eq0 rfl (fun c8 => ?_) (fun c8 => ?_)
        · rw [if_pos c8] at e
          obtain ⟨x9, hx9, e⟩ := pn_some e
          refine gs_iinc1 (x1 := x9) (c := 1) (lv' := [(4, .int x9), (0, .ref z0), (1, .int z1), (2, .int z2), (3, .int z3)]) rfl rfl (by decide) hx9 rfl ?_
          refine gs_goto rfl ?_
          refine gs_drop [1, 2, 3, 4, 0] rfl ?_
          exact (ih z0 z1 z2 z3 x9 f _ e).2 w0 rfl _ _ K
        · rw [if_neg c8] at e
          refine gs_aload_n rfl rfl ?_
          refine gs_iload rfl rfl ?_
          refine gs_iload_n rfl rfl ?_
          refine gs_iconst (x := 1) rfl (by decide) ?_
          refine gs_iadd rfl ?_
          obtain ⟨r10, ec11, e⟩ := ob1_some e
          refine gs_callsI (st := []) rfl (pr_C_le (by decide) (th_X8_addHours_2 L z0 z4 (z2 + 1) f r10 ec11)) rfl rfl rfl (by decide) ?_
          refine gs_istore (lv' := [(5, .int r10), (0, .ref z0), (1, .int z1), (2, .int z2), (3, .int z3), (4, .int z4)]) rfl rfl ?_
          refine gs_iload rfl rfl ?_
          refine gs_ldc (x := (-1000000)) rfl (by decide) ?_
          refine gs_ne2 rfl (fun c12 => ?_) (fun c12 => ?_)
          · rw [if_neg c12] at e
            refine gs_iload_n rfl rfl ?_
            refine gs_iload rfl rfl ?_
            refine gs_iadd rfl ?_
            obtain ⟨x13, hx13, e⟩ := pn_some e
            refine gs_topi hx13 ?_
            refine gs_istore_n (lv' := [(3, .int x13), (5, .int r10), (0, .ref z0), (1, .int z1), (2, .int z2), (4, .int z4)]) rfl rfl ?_
            obtain ⟨x14, hx14, e⟩ := pn_some e
            refine gs_iinc1 (x1 := x14) (c := 1) (lv' := [(4, .int x14), (3, .int x13), (5, .int r10), (0, .ref z0), (1, .int z1), (2, .int z2)]) rfl rfl (by decide) hx14 rfl ?_
            refine gs_goto rfl ?_
            refine gs_drop [3, 4, 5, 1, 0] rfl ?_
            exact (ih z0 z1 z2 x13 x14 f _ e).2 w0 rfl _ _ K
          · rw [if_pos c12] at e
            refine gs_ldc (x := (-1000000)) rfl (by decide) ?_
            cases e
set_option maxRecDepth 100000 in
set_option maxHeartbeats 4000000 in
theorem th_X8_addHours_3 (L : Nat) (p1 : Nat) (p2 : Int32) (p3 : Int32) (f : pd_M) (q : Int32) (e : fn_X8_addHours_3 p1 p2 p3 f = some q) : pr_C L 4 94 [.ref p1, .int p2, .int p3] (hH f) (some (.int q)) (hH f) := by
  refine pr_C.of (G := mt_X8_addHours) rfl rfl ?_
  show pr_G L 3 mt_X8_addHours (0, [(0, .ref p1), (1, .int p2), (2, .int p3)], [], hH f) _ _
  unfold fn_X8_addHours_3 at e
  by_cases hk1 : sk p1 = (12, 5)
  case neg => rw [if_neg hk1] at e; cases e
  rw [if_pos hk1] at e
  refine gs_iload_n rfl rfl ?_
  refine gs_iconst (x := 4) rfl (by decide) ?_
  refine gs_ge2 rfl (fun c1 => ?_) (fun c1 => ?_)
  · rw [if_pos c1] at e
    refine gs_ldc (x := (-1000000)) rfl (by decide) ?_
    obtain rfl := inj1 e
    exact gs_iret rfl rfl rfl rfl rfl
  · rw [if_neg c1] at e
    refine gs_aload_n rfl rfl ?_
    refine gs_get rfl (gd_r (b := (p1 + 3)) (sh_of hk1 (by decide)) rfl (ref_12_2 hk1)) ?_
    refine gs_iload_n rfl rfl ?_
    by_cases hb2 : pa_in p2 4 = true
    case neg => rw [if_neg hb2] at e; cases e
    rw [if_pos hb2] at e
    refine gs_iald rfl (gd_ia (j := p2.toNatClampNeg) (sh_of (fam_12_2 hk1) (by decide)) hb2 rfl) ?_
    refine gs_ldc (x := (-1000000)) rfl (by decide) ?_
    refine gs_ne2 rfl (fun c3 => ?_) (fun c3 => ?_)
    · rw [if_neg c3] at e
      refine gs_aload_n rfl rfl ?_
      refine gs_get rfl (gd_r (b := (p1 + 3)) (sh_of hk1 (by decide)) rfl (ref_12_2 hk1)) ?_
      refine gs_iload_n rfl rfl ?_
      by_cases hb4 : pa_in p2 4 = true
      case neg => rw [if_neg hb4] at e; cases e
      rw [if_pos hb4] at e
      refine gs_iald rfl (gd_ia (j := p2.toNatClampNeg) (sh_of (fam_12_2 hk1) (by decide)) hb4 rfl) ?_
      obtain ⟨x5, hx5, e⟩ := pn_some e
      refine gs_topi hx5 ?_
      refine gs_istore_n (lv' := [(3, .int x5), (0, .ref p1), (1, .int p2), (2, .int p3)]) rfl rfl ?_
      refine gs_iconst (x := 0) rfl (by decide) ?_
      refine gs_istore (lv' := [(4, .int 0), (3, .int x5), (0, .ref p1), (1, .int p2), (2, .int p3)]) rfl rfl ?_
      refine gs_drop [2, 3, 4, 1, 0] rfl ?_
      rcases os1_some e with ⟨q, el16, e⟩ | ⟨y15, el16, e⟩
      · skip
        obtain rfl := inj1 e
        exact (tl_X8_addHours_3_29 L 5000 p1 p2 p3 x5 0 f _ el16).1 _ rfl
      · refine (tl_X8_addHours_3_29 L 5000 p1 p2 p3 x5 0 f _ el16).2 y15 rfl _ _ ?_
        refine gs_iload_n rfl rfl ?_
        obtain rfl := inj1 e
        exact gs_iret rfl rfl rfl rfl rfl
    · rw [if_pos c3] at e
      refine gs_ldc (x := (-1000000)) rfl (by decide) ?_
      obtain rfl := inj1 e
      exact gs_iret rfl rfl rfl rfl rfl
