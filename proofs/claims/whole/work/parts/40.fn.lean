def fn_X8_isBelow (p1 : Int32) (p2 : Int32) : Int32 :=
  if p1 < 0 then
  0
  else
  if p2 ≤ p1 then
  0
  else
  1
set_option maxRecDepth 100000 in
set_option maxHeartbeats 4000000 in
theorem th_X8_isBelow (L : Nat) (p1 : Int32) (p2 : Int32) (f : pd_M) (q : Int32) (e : fn_X8_isBelow p1 p2 = q) : pr_C L 1 89 [.int p1, .int p2] (hH f) (some (.int q)) (hH f) := by
  refine pr_C.of (G := mt_X8_isBelow) rfl rfl ?_
  show pr_G L 0 mt_X8_isBelow (0, [(0, .int p1), (1, .int p2)], [], hH f) _ _
  unfold fn_X8_isBelow at e
  refine gs_iload_n rfl rfl ?_
  refine gs_lt0 rfl (fun c1 => ?_) (fun c1 => ?_)
  · rw [if_pos c1] at e
    refine gs_iconst (x := 0) rfl (by decide) ?_
    subst e
    exact gs_iret rfl rfl (by decide) rfl rfl
  · rw [if_neg c1] at e
    refine gs_iload_n rfl rfl ?_
    refine gs_iload_n rfl rfl ?_
    refine gs_ge2 rfl (fun c2 => ?_) (fun c2 => ?_)
    · rw [if_pos c2] at e
      refine gs_iconst (x := 0) rfl (by decide) ?_
      subst e
      exact gs_iret rfl rfl (by decide) rfl rfl
    · rw [if_neg c2] at e
      refine gs_iconst (x := 1) rfl (by decide) ?_
      refine gs_goto rfl ?_
      subst e
      exact gs_iret rfl rfl (by decide) rfl rfl
def fn_X1_standing (p1 : Int32) (p2 : Int32) (f : pd_M) : Option (Int32) :=
  if pa_in p2 4 = true then
  if (f 2 p2.toNatClampNeg) = 0 then none else
  some ((p1 / (f 2 p2.toNatClampNeg)) - (p1 / (f 2 p2.toNatClampNeg)) / 5 * 5)
  else none
set_option maxRecDepth 100000 in
set_option maxHeartbeats 4000000 in
theorem th_X1_standing (L : Nat) (p1 : Int32) (p2 : Int32) (f : pd_M) (q : Int32) (e : fn_X1_standing p1 p2 f = some q) : pr_C L 1 3 [.ref 106, .int p1, .int p2] (hH f) (some (.int q)) (hH f) := by
  refine pr_C.of (G := mt_X1_standing) rfl rfl ?_
  show pr_G L 0 mt_X1_standing (0, [(0, .ref 106), (1, .int p1), (2, .int p2)], [], hH f) _ _
  unfold fn_X1_standing at e
  refine gs_iload_n rfl rfl ?_
  refine gs_static1 (a := 2) rfl rfl ?_
  refine gs_iload_n rfl rfl ?_
  by_cases hb1 : pa_in p2 4 = true
  case neg => rw [if_neg hb1] at e; cases e
  rw [if_pos hb1] at e
  refine gs_iald rfl (gd_ia (j := p2.toNatClampNeg) rfl hb1 rfl) ?_
  by_cases hd2 : (f 2 p2.toNatClampNeg) = 0
  · rw [if_pos hd2] at e
    cases e
  rw [if_neg hd2] at e
  refine gs_idiv rfl hd2 ?_
  refine gs_iconst (x := 5) rfl (by decide) ?_
  refine gs_irem rfl (by decide) ?_
  obtain rfl := inj1 e
  exact gs_iret rfl rfl rfl rfl rfl
def lp_X1_isThere_14 : Nat → Int32 → Int32 → pd_M → Option ((Int32) ⊕ (Unit))
  | 0, _, _, _ => none
  | n + 1, z1, z2, f =>
    if 4 ≤ z2 then
    some (.inr ())
    else
    ob1 (fn_X1_standing z1 z2 f) fun r3 =>
    if pa_in z2 4 = true then
    if r3 ≤ (f 41 z2.toNatClampNeg) then
    pn (z2 + 1) fun x7 =>
    lp_X1_isThere_14 n z1 x7 f
    else
    some (.inl 0)
    else none
def fn_X1_isThere (p1 : Int32) (f : pd_M) : Option (Int32) :=
  if (fn_X8_isBelow p1 625) = 0 then
  some 0
  else
  os0 (lp_X1_isThere_14 5000 p1 0 f) (fun q => some q) (
  some 1)
set_option maxRecDepth 100000 in
set_option maxHeartbeats 4000000 in
theorem tl_X1_isThere_14 (L : Nat) : ∀ (n : Nat) (z1 : Int32) (z2 : Int32) (f : pd_M) (o : (Int32) ⊕ (Unit)), lp_X1_isThere_14 n z1 z2 f = some o → (∀ q, o = .inl q → pr_G L 1 mt_X1_isThere (14, [(0, .ref 106), (1, .int z1), (2, .int z2)], [], hH f) (some (.int q)) (hH f)) ∧ (∀ (_ : Unit), o = .inr () → ∀ (r : Option Value) (h2 : ph_T), pr_G L 1 mt_X1_isThere (48, [], [], hH f) r h2 → pr_G L 1 mt_X1_isThere (14, [(0, .ref 106), (1, .int z1), (2, .int z2)], [], hH f) r h2) := by
  intro n
  induction n with
  | zero => intro z1 z2 f o e; cases e
  | succ n ih =>
    intro z1 z2 f o e
    refine ⟨fun q hq => ?_, fun _ hq r h2 K => ?_⟩
    · subst hq
      unfold lp_X1_isThere_14 at e
      refine gs_iload_n rfl rfl ?_
      refine gs_iconst (x := 4) rfl (by decide) ?_
      refine gs_ge2 rfl (fun c2 => ?_) (fun c2 => ?_)
      · rw [if_pos c2] at e
        cases e
      · rw [if_neg c2] at e
        refine gs_aload_n rfl rfl ?_
        refine gs_iload_n rfl rfl ?_
        refine gs_iload_n rfl rfl ?_
        obtain ⟨r3, ec4, e⟩ := ob1_some e
        refine gs_callvI (st := []) rfl (pr_C_le (by decide) (th_X1_standing L z1 z2 f r3 ec4)) rfl rfl rfl (by decide) rfl (Or.inr (by decide)) ?_
        refine gs_aload_n rfl rfl ?_
        refine gs_get rfl (gd_r (b := 39) rfl rfl rfl) ?_
        refine gs_get rfl (gd_r (b := 40) rfl rfl rfl) ?_
        refine gs_get rfl (gd_r (b := 41) rfl rfl rfl) ?_
        refine gs_iload_n rfl rfl ?_
        by_cases hb5 : pa_in z2 4 = true
        case neg => rw [if_neg hb5] at e; cases e
        rw [if_pos hb5] at e
        refine gs_iald rfl (gd_ia (j := z2.toNatClampNeg) rfl hb5 rfl) ?_
        refine gs_le2 rfl (fun c6 => ?_) (fun c6 => ?_)
        · rw [if_pos c6] at e
          obtain ⟨x7, hx7, e⟩ := pn_some e
          refine gs_iinc1 (x1 := x7) (c := 1) (lv' := [(2, .int x7), (0, .ref 106), (1, .int z1)]) rfl rfl (by decide) hx7 rfl ?_
          refine gs_goto rfl ?_
          refine gs_drop [1, 2, 0] rfl ?_
          exact (ih z1 x7 f _ e).1 _ rfl
        · rw [if_neg c6] at e
          refine gs_iconst (x := 0) rfl (by decide) ?_
          obtain rfl := injl e
          exact gs_iret rfl rfl (by decide) rfl rfl
    · subst hq
      unfold lp_X1_isThere_14 at e
      refine gs_iload_n rfl rfl ?_
      refine gs_iconst (x := 4) rfl (by decide) ?_
      refine gs_ge2 rfl (fun c2 => ?_) (fun c2 => ?_)
      · rw [if_pos c2] at e
        refine gs_drop [] rfl ?_
        exact K
      · rw [if_neg c2] at e
        refine gs_aload_n rfl rfl ?_
        refine gs_iload_n rfl rfl ?_
        refine gs_iload_n rfl rfl ?_
        obtain ⟨r3, ec4, e⟩ := ob1_some e
        refine gs_callvI (st := []) rfl (pr_C_le (by decide) (th_X1_standing L z1 z2 f r3 ec4)) rfl rfl rfl (by decide) rfl (Or.inr (by decide)) ?_
        refine gs_aload_n rfl rfl ?_
        refine gs_get rfl (gd_r (b := 39) rfl rfl rfl) ?_
        refine gs_get rfl (gd_r (b := 40) rfl rfl rfl) ?_
        refine gs_get rfl (gd_r (b := 41) rfl rfl rfl) ?_
        refine gs_iload_n rfl rfl ?_
        by_cases hb5 : pa_in z2 4 = true
        case neg => rw [if_neg hb5] at e; cases e
        rw [if_pos hb5] at e
        refine gs_iald rfl (gd_ia (j := z2.toNatClampNeg) rfl hb5 rfl) ?_
        refine gs_le2 rfl (fun c6 => ?_) (fun c6 => ?_)
        · rw [if_pos c6] at e
          obtain ⟨x7, hx7, e⟩ := pn_some e
          refine gs_iinc1 (x1 := x7) (c := 1) (lv' := [(2, .int x7), (0, .ref 106), (1, .int z1)]) rfl rfl (by decide) hx7 rfl ?_
          refine gs_goto rfl ?_
          refine gs_drop [1, 2, 0] rfl ?_
          exact (ih z1 x7 f _ e).2 () rfl _ _ K
        · rw [if_neg c6] at e
          refine gs_iconst (x := 0) rfl (by decide) ?_
          cases e
set_option maxRecDepth 100000 in
set_option maxHeartbeats 4000000 in
theorem th_X1_isThere (L : Nat) (p1 : Int32) (f : pd_M) (q : Int32) (e : fn_X1_isThere p1 f = some q) : pr_C L 2 2 [.ref 106, .int p1] (hH f) (some (.int q)) (hH f) := by
  refine pr_C.of (G := mt_X1_isThere) rfl rfl ?_
  show pr_G L 1 mt_X1_isThere (0, [(0, .ref 106), (1, .int p1)], [], hH f) _ _
  unfold fn_X1_isThere at e
  refine gs_iload_n rfl rfl ?_
  refine gs_sipush (x := 625) rfl (by decide) ?_
  refine gs_callsI (st := []) rfl (pr_C_le (by decide) (th_X8_isBelow L p1 625 f _ rfl)) rfl rfl rfl (by decide) ?_
  refine gs_ne0 rfl (fun c1 => ?_) (fun c1 => ?_)
  · rw [if_neg c1] at e
    refine gs_iconst (x := 0) rfl (by decide) ?_
    refine gs_istore_n (lv' := [(2, .int 0), (0, .ref 106), (1, .int p1)]) rfl rfl ?_
    refine gs_drop [1, 2, 0] rfl ?_
    rcases os0_some e with ⟨q, el8, e⟩ | ⟨el8, e⟩
    · skip
      obtain rfl := inj1 e
      exact (tl_X1_isThere_14 L 5000 p1 0 f _ el8).1 _ rfl
    · refine (tl_X1_isThere_14 L 5000 p1 0 f _ el8).2 () rfl _ _ ?_
      refine gs_iconst (x := 1) rfl (by decide) ?_
      obtain rfl := inj1 e
      exact gs_iret rfl rfl (by decide) rfl rfl
  · rw [if_pos c1] at e
    refine gs_iconst (x := 0) rfl (by decide) ?_
    obtain rfl := inj1 e
    exact gs_iret rfl rfl (by decide) rfl rfl
def fn_X7_editionOf (p1 : Int32) (p2 : Int32) : Option (Nat) :=
  if pa_in ((p1 * 4) + p2) 16 = true then
  some (68 + 2 * ((p1 * 4) + p2).toNatClampNeg)
  else none
set_option maxRecDepth 100000 in
set_option maxHeartbeats 4000000 in
theorem th_X7_editionOf (L : Nat) (p1 : Int32) (p2 : Int32) (f : pd_M) (q : Nat) (e : fn_X7_editionOf p1 p2 = some q) : pr_C L 1 48 [.ref 39, .int p1, .int p2] (hH f) (some (.ref q)) (hH f) := by
  refine pr_C.of (G := mt_X7_editionOf) rfl rfl ?_
  show pr_G L 0 mt_X7_editionOf (0, [(0, .ref 39), (1, .int p1), (2, .int p2)], [], hH f) _ _
  unfold fn_X7_editionOf at e
  refine gs_aload_n rfl rfl ?_
  refine gs_get rfl (gd_r (b := 46) rfl rfl rfl) ?_
  refine gs_iload_n rfl rfl ?_
  refine gs_iconst (x := 4) rfl (by decide) ?_
  refine gs_imul rfl ?_
  refine gs_iload_n rfl rfl ?_
  refine gs_iadd rfl ?_
  by_cases hb1 : pa_in ((p1 * 4) + p2) 16 = true
  case neg => rw [if_neg hb1] at e; cases e
  rw [if_pos hb1] at e
  refine gs_aald rfl (gd_aa (b := (68 + 2 * ((p1 * 4) + p2).toNatClampNeg)) rfl (by decide) rfl hb1 rfl (arr_rf_46 (lt_of_in hb1))) ?_
  obtain rfl := inj1 e
  exact gs_aret rfl rfl rfl rfl
theorem fnk_X7_editionOf {p1 p2 : Int32} {q : Nat} (e : fn_X7_editionOf p1 p2 = some q) : sk q = (10, 2) := by
  unfold fn_X7_editionOf at e
  by_cases hb : pa_in ((p1 * 4) + p2) 16 = true
  · rw [if_pos hb] at e
    cases e
    exact arr_sh_46 (lt_of_in hb)
  · rw [if_neg hb] at e
    cases e
def lp_X1_leastBroken_2 : Nat → Int32 → Int32 → pd_M → Option ((Int32) ⊕ (Unit))
  | 0, _, _, _ => none
  | n + 1, z1, z2, f =>
    if (f 40 4) ≤ z2 then
    some (.inr ())
    else
    if pa_in z2 20 = true then
    ob1 (fn_X1_standing z1 (f (48 + z2.toNatClampNeg) 2) f) fun r3 =>
    if r3 = 0 then
    pn (z2 + 1) fun x6 =>
    lp_X1_leastBroken_2 n z1 x6 f
    else
    ob1 (fn_X1_standing z1 (f (48 + z2.toNatClampNeg) 0) f) fun r7 =>
    if r7 = ((f (48 + z2.toNatClampNeg) 1) + 1) then
    ob1 (fn_X7_editionOf (f (48 + z2.toNatClampNeg) 2) (r3 - 1)) fun r11 =>
    if (((f r11 1) >>> (z2 &&& 31)) &&& 1) = 0 then
    some (.inl z2)
    else
    pn (z2 + 1) fun x14 =>
    lp_X1_leastBroken_2 n z1 x14 f
    else
    pn (z2 + 1) fun x10 =>
    lp_X1_leastBroken_2 n z1 x10 f
    else none
def fn_X1_leastBroken (p1 : Int32) (f : pd_M) : Option (Int32) :=
  os0 (lp_X1_leastBroken_2 5000 p1 0 f) (fun q => some q) (
  some (-1000000))
set_option maxRecDepth 100000 in
set_option maxHeartbeats 4000000 in
theorem tl_X1_leastBroken_2 (L : Nat) : ∀ (n : Nat) (z1 : Int32) (z2 : Int32) (f : pd_M) (o : (Int32) ⊕ (Unit)), lp_X1_leastBroken_2 n z1 z2 f = some o → (∀ q, o = .inl q → pr_G L 1 mt_X1_leastBroken (2, [(0, .ref 106), (1, .int z1), (2, .int z2)], [], hH f) (some (.int q)) (hH f)) ∧ (∀ (_ : Unit), o = .inr () → ∀ (r : Option Value) (h2 : ph_T), pr_G L 1 mt_X1_leastBroken (93, [], [], hH f) r h2 → pr_G L 1 mt_X1_leastBroken (2, [(0, .ref 106), (1, .int z1), (2, .int z2)], [], hH f) r h2) := by
  intro n
  induction n with
  | zero => intro z1 z2 f o e; cases e
  | succ n ih =>
    intro z1 z2 f o e
    refine ⟨fun q hq => ?_, fun _ hq r h2 K => ?_⟩
    · subst hq
      unfold lp_X1_leastBroken_2 at e
      refine gs_iload_n rfl rfl ?_
      refine gs_aload_n rfl rfl ?_
      refine gs_get rfl (gd_r (b := 39) rfl rfl rfl) ?_
      refine gs_get rfl (gd_r (b := 40) rfl rfl rfl) ?_
      refine gs_get rfl (gd_i rfl rfl) ?_
      refine gs_ge2 rfl (fun c1 => ?_) (fun c1 => ?_)
      · rw [if_pos c1] at e
        cases e
      · rw [if_neg c1] at e
        refine gs_aload_n rfl rfl ?_
        refine gs_get rfl (gd_r (b := 39) rfl rfl rfl) ?_
        refine gs_get rfl (gd_r (b := 45) rfl rfl rfl) ?_
        refine gs_iload_n rfl rfl ?_
        by_cases hb2 : pa_in z2 20 = true
        case neg => rw [if_neg hb2] at e; cases e
        rw [if_pos hb2] at e
        refine gs_aald rfl (gd_aa (b := (48 + z2.toNatClampNeg)) rfl (by decide) rfl hb2 rfl (arr_rf_45 (lt_of_in hb2))) ?_
        refine gs_astore_n (lv' := [(3, .ref (48 + z2.toNatClampNeg)), (0, .ref 106), (1, .int z1), (2, .int z2)]) rfl rfl ?_
        refine gs_aload_n rfl rfl ?_
        refine gs_iload_n rfl rfl ?_
        refine gs_aload_n rfl rfl ?_
        refine gs_get rfl (gd_i (sh_of (arr_sh_45 (lt_of_in hb2)) (by decide)) rfl) ?_
        obtain ⟨r3, ec4, e⟩ := ob1_some e
        refine gs_callvI (st := []) rfl (pr_C_le (by decide) (th_X1_standing L z1 (f (48 + z2.toNatClampNeg) 2) f r3 ec4)) rfl rfl rfl (by decide) rfl (Or.inr (by decide)) ?_
        refine gs_istore (lv' := [(4, .int r3), (3, .ref (48 + z2.toNatClampNeg)), (0, .ref 106), (1, .int z1), (2, .int z2)]) rfl rfl ?_
        refine gs_iload rfl rfl ?_
        refine gs_eq0 rfl (fun c5 => ?_) (fun c5 => ?_)
        · rw [if_pos c5] at e
          obtain ⟨x6, hx6, e⟩ := pn_some e
          refine gs_iinc1 (x1 := x6) (c := 1) (lv' := [(2, .int x6), (4, .int r3), (3, .ref (48 + z2.toNatClampNeg)), (0, .ref 106), (1, .int z1)]) rfl rfl (by decide) hx6 rfl ?_
          refine gs_goto rfl ?_
          refine gs_drop [3, 4, 0] rfl ?_
          exact (ih z1 x6 f _ e).1 _ rfl
        · rw [if_neg c5] at e
          refine gs_aload_n rfl rfl ?_
          refine gs_iload_n rfl rfl ?_
          refine gs_aload_n rfl rfl ?_
          refine gs_get rfl (gd_i (sh_of (arr_sh_45 (lt_of_in hb2)) (by decide)) rfl) ?_
          obtain ⟨r7, ec8, e⟩ := ob1_some e
          refine gs_callvI (st := []) rfl (pr_C_le (by decide) (th_X1_standing L z1 (f (48 + z2.toNatClampNeg) 0) f r7 ec8)) rfl rfl rfl (by decide) rfl (Or.inr (by decide)) ?_
          refine gs_aload_n rfl rfl ?_
          refine gs_get rfl (gd_i (sh_of (arr_sh_45 (lt_of_in hb2)) (by decide)) rfl) ?_
          refine gs_iconst (x := 1) rfl (by decide) ?_
          refine gs_iadd rfl ?_
          refine gs_ne2 rfl (fun c9 => ?_) (fun c9 => ?_)
          · rw [if_neg c9] at e
            obtain ⟨x10, hx10, e⟩ := pn_some e
            refine gs_iinc1 (x1 := x10) (c := 1) (lv' := [(2, .int x10), (4, .int r3), (3, .ref (48 + z2.toNatClampNeg)), (0, .ref 106), (1, .int z1)]) rfl rfl (by decide) hx10 rfl ?_
            refine gs_goto rfl ?_
            refine gs_drop [3, 4, 0] rfl ?_
            exact (ih z1 x10 f _ e).1 _ rfl
          · rw [if_pos c9] at e
            refine gs_aload_n rfl rfl ?_
            refine gs_get rfl (gd_r (b := 39) rfl rfl rfl) ?_
            refine gs_aload_n rfl rfl ?_
            refine gs_get rfl (gd_i (sh_of (arr_sh_45 (lt_of_in hb2)) (by decide)) rfl) ?_
            refine gs_iload rfl rfl ?_
            refine gs_iconst (x := 1) rfl (by decide) ?_
            refine gs_isub rfl ?_
            obtain ⟨r11, ec12, e⟩ := ob1_some e
            refine gs_callvR (st := []) rfl (pr_C_le (by decide) (th_X7_editionOf L (f (48 + z2.toNatClampNeg) 2) (r3 - 1) f r11 ec12)) rfl rfl rfl (by decide) rfl (Or.inr (by decide)) ?_
            refine gs_get rfl (gd_i (sh_of (fnk_X7_editionOf ec12) (by decide)) rfl) ?_
            refine gs_iload_n rfl rfl ?_
            refine gs_ishr rfl ?_
            refine gs_iconst (x := 1) rfl (by decide) ?_
            refine gs_iand rfl ?_
            refine gs_ne0 rfl (fun c13 => ?_) (fun c13 => ?_)
            · rw [if_neg c13] at e
              obtain ⟨x14, hx14, e⟩ := pn_some e
              refine gs_iinc1 (x1 := x14) (c := 1) (lv' := [(2, .int x14), (4, .int r3), (3, .ref (48 + z2.toNatClampNeg)), (0, .ref 106), (1, .int z1)]) rfl rfl (by decide) hx14 rfl ?_
              refine gs_goto rfl ?_
              refine gs_drop [3, 4, 0] rfl ?_
              exact (ih z1 x14 f _ e).1 _ rfl
            · rw [if_pos c13] at e
              refine gs_iload_n rfl rfl ?_
              obtain rfl := injl e
              exact gs_iret rfl rfl rfl rfl rfl
    · subst hq
      unfold lp_X1_leastBroken_2 at e
      refine gs_iload_n rfl rfl ?_
      refine gs_aload_n rfl rfl ?_
      refine gs_get rfl (gd_r (b := 39) rfl rfl rfl) ?_
      refine gs_get rfl (gd_r (b := 40) rfl rfl rfl) ?_
      refine gs_get rfl (gd_i rfl rfl) ?_
      refine gs_ge2 rfl (fun c1 => ?_) (fun c1 => ?_)
      · rw [if_pos c1] at e
        refine gs_drop [] rfl ?_
        exact K
      · rw [if_neg c1] at e
        refine gs_aload_n rfl rfl ?_
        refine gs_get rfl (gd_r (b := 39) rfl rfl rfl) ?_
        refine gs_get rfl (gd_r (b := 45) rfl rfl rfl) ?_
        refine gs_iload_n rfl rfl ?_
        by_cases hb2 : pa_in z2 20 = true
        case neg => rw [if_neg hb2] at e; cases e
        rw [if_pos hb2] at e
        refine gs_aald rfl (gd_aa (b := (48 + z2.toNatClampNeg)) rfl (by decide) rfl hb2 rfl (arr_rf_45 (lt_of_in hb2))) ?_
        refine gs_astore_n (lv' := [(3, .ref (48 + z2.toNatClampNeg)), (0, .ref 106), (1, .int z1), (2, .int z2)]) rfl rfl ?_
        refine gs_aload_n rfl rfl ?_
        refine gs_iload_n rfl rfl ?_
        refine gs_aload_n rfl rfl ?_
        refine gs_get rfl (gd_i (sh_of (arr_sh_45 (lt_of_in hb2)) (by decide)) rfl) ?_
        obtain ⟨r3, ec4, e⟩ := ob1_some e
        refine gs_callvI (st := []) rfl (pr_C_le (by decide) (th_X1_standing L z1 (f (48 + z2.toNatClampNeg) 2) f r3 ec4)) rfl rfl rfl (by decide) rfl (Or.inr (by decide)) ?_
        refine gs_istore (lv' := [(4, .int r3), (3, .ref (48 + z2.toNatClampNeg)), (0, .ref 106), (1, .int z1), (2, .int z2)]) rfl rfl ?_
        refine gs_iload rfl rfl ?_
        refine gs_eq0 rfl (fun c5 => ?_) (fun c5 => ?_)
        · rw [if_pos c5] at e
          obtain ⟨x6, hx6, e⟩ := pn_some e
          refine gs_iinc1 (x1 := x6) (c := 1) (lv' := [(2, .int x6), (4, .int r3), (3, .ref (48 + z2.toNatClampNeg)), (0, .ref 106), (1, .int z1)]) rfl rfl (by decide) hx6 rfl ?_
          refine gs_goto rfl ?_
          refine gs_drop [3, 4, 0] rfl ?_
          exact (ih z1 x6 f _ e).2 () rfl _ _ K
        · rw [if_neg c5] at e
          refine gs_aload_n rfl rfl ?_
          refine gs_iload_n rfl rfl ?_
          refine gs_aload_n rfl rfl ?_
          refine gs_get rfl (gd_i (sh_of (arr_sh_45 (lt_of_in hb2)) (by decide)) rfl) ?_
          obtain ⟨r7, ec8, e⟩ := ob1_some e
          refine gs_callvI (st := []) rfl (pr_C_le (by decide) (th_X1_standing L z1 (f (48 + z2.toNatClampNeg) 0) f r7 ec8)) rfl rfl rfl (by decide) rfl (Or.inr (by decide)) ?_
          refine gs_aload_n rfl rfl ?_
          refine gs_get rfl (gd_i (sh_of (arr_sh_45 (lt_of_in hb2)) (by decide)) rfl) ?_
          refine gs_iconst (x := 1) rfl (by decide) ?_
          refine gs_iadd rfl ?_
          refine gs_ne2 rfl (fun c9 => ?_) (fun c9 => ?_)
          · rw [if_neg c9] at e
            obtain ⟨x10, hx10, e⟩ := pn_some e
            refine gs_iinc1 (x1 := x10) (c := 1) (lv' := [(2, .int x10), (4, .int r3), (3, .ref (48 + z2.toNatClampNeg)), (0, .ref 106), (1, .int z1)]) rfl rfl (by decide) hx10 rfl ?_
            refine gs_goto rfl ?_
            refine gs_drop [3, 4, 0] rfl ?_
            exact (ih z1 x10 f _ e).2 () rfl _ _ K
          · rw [if_pos c9] at e
            refine gs_aload_n rfl rfl ?_
            refine gs_get rfl (gd_r (b := 39) rfl rfl rfl) ?_
            refine gs_aload_n rfl rfl ?_
            refine gs_get rfl (gd_i (sh_of (arr_sh_45 (lt_of_in hb2)) (by decide)) rfl) ?_
            refine gs_iload rfl rfl ?_
            refine gs_iconst (x := 1) rfl (by decide) ?_
            refine gs_isub rfl ?_
            obtain ⟨r11, ec12, e⟩ := ob1_some e
            refine gs_callvR (st := []) rfl (pr_C_le (by decide) (th_X7_editionOf L (f (48 + z2.toNatClampNeg) 2) (r3 - 1) f r11 ec12)) rfl rfl rfl (by decide) rfl (Or.inr (by decide)) ?_
            refine gs_get rfl (gd_i (sh_of (fnk_X7_editionOf ec12) (by decide)) rfl) ?_
            refine gs_iload_n rfl rfl ?_
            refine gs_ishr rfl ?_
            refine gs_iconst (x := 1) rfl (by decide) ?_
            refine gs_iand rfl ?_
            refine gs_ne0 rfl (fun c13 => ?_) (fun c13 => ?_)
            · rw [if_neg c13] at e
              obtain ⟨x14, hx14, e⟩ := pn_some e
              refine gs_iinc1 (x1 := x14) (c := 1) (lv' := [(2, .int x14), (4, .int r3), (3, .ref (48 + z2.toNatClampNeg)), (0, .ref 106), (1, .int z1)]) rfl rfl (by decide) hx14 rfl ?_
              refine gs_goto rfl ?_
              refine gs_drop [3, 4, 0] rfl ?_
              exact (ih z1 x14 f _ e).2 () rfl _ _ K
            · rw [if_pos c13] at e
              refine gs_iload_n rfl rfl ?_
              cases e
set_option maxRecDepth 100000 in
set_option maxHeartbeats 4000000 in
theorem th_X1_leastBroken (L : Nat) (p1 : Int32) (f : pd_M) (q : Int32) (e : fn_X1_leastBroken p1 f = some q) : pr_C L 2 4 [.ref 106, .int p1] (hH f) (some (.int q)) (hH f) := by
  refine pr_C.of (G := mt_X1_leastBroken) rfl rfl ?_
  show pr_G L 1 mt_X1_leastBroken (0, [(0, .ref 106), (1, .int p1)], [], hH f) _ _
  unfold fn_X1_leastBroken at e
  refine gs_iconst (x := 0) rfl (by decide) ?_
  refine gs_istore_n (lv' := [(2, .int 0), (0, .ref 106), (1, .int p1)]) rfl rfl ?_
  refine gs_drop [1, 2, 0] rfl ?_
  rcases os0_some e with ⟨q, el15, e⟩ | ⟨el15, e⟩
  · skip
    obtain rfl := inj1 e
    exact (tl_X1_leastBroken_2 L 5000 p1 0 f _ el15).1 _ rfl
  · refine (tl_X1_leastBroken_2 L 5000 p1 0 f _ el15).2 () rfl _ _ ?_
    refine gs_ldc (x := (-1000000)) rfl (by decide) ?_
    obtain rfl := inj1 e
    exact gs_iret rfl rfl rfl rfl rfl
def fn_X1_reach (p1 : Int32) (p2 : Int32) (f : pd_M) : Option (pd_M) :=
  if pa_in p1 625 = true then
  if (f 107 p1.toNatClampNeg) = (-1) then
  ob1 (fn_X1_leastBroken p1 f) fun r3 =>
  if r3 = (-1000000) then
  if (f 106 3) < 625 then
  if pa_in p1 625 = true then
  pn ((pi_up f 107 (p1.toNatClampNeg) p2)) fun f10 =>
  if pa_in (f10 106 3) 625 = true then
  pn ((pi_up f10 108 ((f10 106 3).toNatClampNeg) p1)) fun f12 =>
  pn ((pi_up f12 106 3 ((f12 106 3) + 1))) fun f13 =>
  some f13
  else none
  else none
  else
  if pa_in p1 625 = true then
  pn ((pi_up f 107 (p1.toNatClampNeg) (-2))) fun f15 =>
  some f15
  else none
  else
  if pa_in p1 625 = true then
  pn ((pi_up f 107 (p1.toNatClampNeg) (-2))) fun f7 =>
  some f7
  else none
  else
  some f
  else none
set_option maxRecDepth 100000 in
set_option maxHeartbeats 4000000 in
theorem th_X1_reach (L : Nat) (p1 : Int32) (p2 : Int32) (f : pd_M) (g : pd_M) (e : fn_X1_reach p1 p2 f = some g) : pr_C L 3 6 [.ref 106, .int p1, .int p2] (hH f) none (hH g) := by
  refine pr_C.of (G := mt_X1_reach) rfl rfl ?_
  show pr_G L 2 mt_X1_reach (0, [(0, .ref 106), (1, .int p1), (2, .int p2)], [], hH f) _ _
  unfold fn_X1_reach at e
  refine gs_aload_n rfl rfl ?_
  refine gs_get rfl (gd_r (b := 107) rfl rfl rfl) ?_
  refine gs_iload_n rfl rfl ?_
  by_cases hb1 : pa_in p1 625 = true
  case neg => rw [if_neg hb1] at e; cases e
  rw [if_pos hb1] at e
  refine gs_iald rfl (gd_ia (j := p1.toNatClampNeg) rfl hb1 rfl) ?_
  refine gs_iconst (x := (-1)) rfl (by decide) ?_
  refine gs_eq2 rfl (fun c2 => ?_) (fun c2 => ?_)
  · rw [if_pos c2] at e
    refine gs_aload_n rfl rfl ?_
    refine gs_iload_n rfl rfl ?_
    obtain ⟨r3, ec4, e⟩ := ob1_some e
    refine gs_callvI (st := []) rfl (pr_C_le (by decide) (th_X1_leastBroken L p1 f r3 ec4)) rfl rfl rfl (by decide) rfl (Or.inr (by decide)) ?_
    refine gs_ldc (x := (-1000000)) rfl (by decide) ?_
    refine gs_ne2 rfl (fun c5 => ?_) (fun c5 => ?_)
    · rw [if_neg c5] at e
      refine gs_aload_n rfl rfl ?_
      refine gs_get rfl (gd_r (b := 107) rfl rfl rfl) ?_
      refine gs_iload_n rfl rfl ?_
      refine gs_bipush (x := (-2)) rfl (by decide) ?_
      by_cases hb6 : pa_in p1 625 = true
      case neg => rw [if_neg hb6] at e; cases e
      rw [if_pos hb6] at e
      refine gs_iast rfl (gd_si (j := p1.toNatClampNeg) rfl (by decide) hb6 rfl) ?_
      obtain ⟨f7, hf7, e⟩ := pn_some e
      refine gs_heap hf7 ?_
      obtain rfl := inj1 e
      exact gs_vret rfl rfl rfl rfl
    · rw [if_pos c5] at e
      refine gs_aload_n rfl rfl ?_
      refine gs_get rfl (gd_i rfl rfl) ?_
      refine gs_sipush (x := 625) rfl (by decide) ?_
      refine gs_lt2 rfl (fun c8 => ?_) (fun c8 => ?_)
      · rw [if_pos c8] at e
        refine gs_aload_n rfl rfl ?_
        refine gs_get rfl (gd_r (b := 107) rfl rfl rfl) ?_
        refine gs_iload_n rfl rfl ?_
        refine gs_iload_n rfl rfl ?_
        by_cases hb9 : pa_in p1 625 = true
        case neg => rw [if_neg hb9] at e; cases e
        rw [if_pos hb9] at e
        refine gs_iast rfl (gd_si (j := p1.toNatClampNeg) rfl (by decide) hb9 rfl) ?_
        obtain ⟨f10, hf10, e⟩ := pn_some e
        refine gs_heap hf10 ?_
        refine gs_aload_n rfl rfl ?_
        refine gs_get rfl (gd_r (b := 108) rfl rfl rfl) ?_
        refine gs_aload_n rfl rfl ?_
        refine gs_get rfl (gd_i rfl rfl) ?_
        refine gs_iload_n rfl rfl ?_
        by_cases hb11 : pa_in (f10 106 3) 625 = true
        case neg => rw [if_neg hb11] at e; cases e
        rw [if_pos hb11] at e
        refine gs_iast rfl (gd_si (j := (f10 106 3).toNatClampNeg) rfl (by decide) hb11 rfl) ?_
        obtain ⟨f12, hf12, e⟩ := pn_some e
        refine gs_heap hf12 ?_
        refine gs_aload_n rfl rfl ?_
        refine gs_dup rfl rfl ?_
        refine gs_get rfl (gd_i rfl rfl) ?_
        refine gs_iconst (x := 1) rfl (by decide) ?_
        refine gs_iadd rfl ?_
        refine gs_put rfl (gd_pi rfl rfl) ?_
        obtain ⟨f13, hf13, e⟩ := pn_some e
        refine gs_heap hf13 ?_
        obtain rfl := inj1 e
        exact gs_vret rfl rfl rfl rfl
      · rw [if_neg c8] at e
        refine gs_aload_n rfl rfl ?_
        refine gs_get rfl (gd_r (b := 107) rfl rfl rfl) ?_
        refine gs_iload_n rfl rfl ?_
        refine gs_bipush (x := (-2)) rfl (by decide) ?_
        by_cases hb14 : pa_in p1 625 = true
        case neg => rw [if_neg hb14] at e; cases e
        rw [if_pos hb14] at e
        refine gs_iast rfl (gd_si (j := p1.toNatClampNeg) rfl (by decide) hb14 rfl) ?_
        obtain ⟨f15, hf15, e⟩ := pn_some e
        refine gs_heap hf15 ?_
        obtain rfl := inj1 e
        exact gs_vret rfl rfl rfl rfl
  · rw [if_neg c2] at e
    obtain rfl := inj1 e
    exact gs_vret rfl rfl rfl rfl
def lp_X1_spread_25 : Nat → Int32 → Int32 → Int32 → Int32 → pd_M → Option (pd_M)
  | 0, _, _, _, _, _ => none
  | n + 1, z1, z2, z3, z4, f =>
    if pa_in z2 4 = true then
    if (f 41 z2.toNatClampNeg) < z4 then
    some (f)
    else
    if pa_in z2 4 = true then
    if pa_in z1 625 = true then
    ob1 (fn_X1_reach (z3 + (z4 * (f 2 z2.toNatClampNeg))) ((f 107 z1.toNatClampNeg) + 1) f) fun f10 =>
    pn (z4 + 1) fun x12 =>
    lp_X1_spread_25 n z1 z2 z3 x12 f10
    else none
    else none
    else none
def lp_X1_spread_2 : Nat → Int32 → Int32 → pd_M → Option (pd_M)
  | 0, _, _, _ => none
  | n + 1, z1, z2, f =>
    if 4 ≤ z2 then
    some (f)
    else
    ob1 (fn_X1_standing z1 z2 f) fun r2 =>
    if pa_in z2 4 = true then
    pn ((z1 - (r2 * (f 2 z2.toNatClampNeg)))) fun x5 =>
    ob1 (lp_X1_spread_25 5000 z1 z2 x5 0 f) fun f13 =>
    pn (z2 + 1) fun x15 =>
    lp_X1_spread_2 n z1 x15 f13
    else none
def fn_X1_spread (p1 : Int32) (f : pd_M) : Option (pd_M) :=
  ob1 (lp_X1_spread_2 5000 p1 0 f) fun f16 =>
  some f16
set_option maxRecDepth 100000 in
set_option maxHeartbeats 4000000 in
theorem tl_X1_spread_25 (L : Nat) : ∀ (n : Nat) (z1 : Int32) (z2 : Int32) (z3 : Int32) (z4 : Int32) (f : pd_M) (w0 : pd_M) (r : Option Value) (h2 : ph_T), lp_X1_spread_25 n z1 z2 z3 z4 f = some (w0) → pr_G L 3 mt_X1_spread (70, [(0, .ref 106), (1, .int z1), (2, .int z2)], [], hH w0) r h2 → pr_G L 3 mt_X1_spread (25, [(0, .ref 106), (1, .int z1), (2, .int z2), (3, .int z3), (4, .int z4)], [], hH f) r h2 := by
  intro n
  induction n with
  | zero => intro z1 z2 z3 z4 f w0 r h2 e; cases e
  | succ n ih =>
    intro z1 z2 z3 z4 f w0 r h2 e K
    unfold lp_X1_spread_25 at e
    refine gs_iload rfl rfl ?_
    refine gs_aload_n rfl rfl ?_
    refine gs_get rfl (gd_r (b := 39) rfl rfl rfl) ?_
    refine gs_get rfl (gd_r (b := 40) rfl rfl rfl) ?_
    refine gs_get rfl (gd_r (b := 41) rfl rfl rfl) ?_
    refine gs_iload_n rfl rfl ?_
    by_cases hb6 : pa_in z2 4 = true
    case neg => rw [if_neg hb6] at e; cases e
    rw [if_pos hb6] at e
    refine gs_iald rfl (gd_ia (j := z2.toNatClampNeg) rfl hb6 rfl) ?_
    refine gs_gt2 rfl (fun c7 => ?_) (fun c7 => ?_)
    · rw [if_pos c7] at e
      obtain rfl := inj1 e
      refine gs_drop [0, 1, 2] rfl ?_
      exact K
    · rw [if_neg c7] at e
      refine gs_aload_n rfl rfl ?_
      refine gs_iload_n rfl rfl ?_
      refine gs_iload rfl rfl ?_
      refine gs_static1 (a := 2) rfl rfl ?_
      refine gs_iload_n rfl rfl ?_
      by_cases hb8 : pa_in z2 4 = true
      case neg => rw [if_neg hb8] at e; cases e
      rw [if_pos hb8] at e
      refine gs_iald rfl (gd_ia (j := z2.toNatClampNeg) rfl hb8 rfl) ?_
      refine gs_imul rfl ?_
      refine gs_iadd rfl ?_
      refine gs_aload_n rfl rfl ?_
      refine gs_get rfl (gd_r (b := 107) rfl rfl rfl) ?_
      refine gs_iload_n rfl rfl ?_
      by_cases hb9 : pa_in z1 625 = true
      case neg => rw [if_neg hb9] at e; cases e
      rw [if_pos hb9] at e
      refine gs_iald rfl (gd_ia (j := z1.toNatClampNeg) rfl hb9 rfl) ?_
      refine gs_iconst (x := 1) rfl (by decide) ?_
      refine gs_iadd rfl ?_
      obtain ⟨f10, ec11, e⟩ := ob1_some e
      refine gs_callvV (st := []) rfl (pr_C_le (by decide) (th_X1_reach L (z3 + (z4 * (f 2 z2.toNatClampNeg))) ((f 107 z1.toNatClampNeg) + 1) f f10 ec11)) rfl rfl rfl (by decide) rfl (Or.inr (by decide)) ?_
      obtain ⟨x12, hx12, e⟩ := pn_some e
      refine gs_iinc1 (x1 := x12) (c := 1) (lv' := [(4, .int x12), (0, .ref 106), (1, .int z1), (2, .int z2), (3, .int z3)]) rfl rfl (by decide) hx12 rfl ?_
      refine gs_goto rfl ?_
      refine gs_drop [1, 2, 3, 4, 0] rfl ?_
      exact ih z1 z2 z3 x12 f10 w0 _ _ e K
set_option maxRecDepth 100000 in
set_option maxHeartbeats 4000000 in
theorem tl_X1_spread_2 (L : Nat) : ∀ (n : Nat) (z1 : Int32) (z2 : Int32) (f : pd_M) (w0 : pd_M) (r : Option Value) (h2 : ph_T), lp_X1_spread_2 n z1 z2 f = some (w0) → pr_G L 3 mt_X1_spread (76, [], [], hH w0) r h2 → pr_G L 3 mt_X1_spread (2, [(0, .ref 106), (1, .int z1), (2, .int z2)], [], hH f) r h2 := by
  intro n
  induction n with
  | zero => intro z1 z2 f w0 r h2 e; cases e
  | succ n ih =>
    intro z1 z2 f w0 r h2 e K
    unfold lp_X1_spread_2 at e
    refine gs_iload_n rfl rfl ?_
    refine gs_iconst (x := 4) rfl (by decide) ?_
    refine gs_ge2 rfl (fun c1 => ?_) (fun c1 => ?_)
    · rw [if_pos c1] at e
      obtain rfl := inj1 e
      refine gs_drop [] rfl ?_
      exact K
    · rw [if_neg c1] at e
      refine gs_iload_n rfl rfl ?_
      refine gs_aload_n rfl rfl ?_
      refine gs_iload_n rfl rfl ?_
      refine gs_iload_n rfl rfl ?_
      obtain ⟨r2, ec3, e⟩ := ob1_some e
      refine gs_callvI (st := [.int z1]) rfl (pr_C_le (by decide) (th_X1_standing L z1 z2 f r2 ec3)) rfl rfl rfl (by decide) rfl (Or.inr (by decide)) ?_
      refine gs_static1 (a := 2) rfl rfl ?_
      refine gs_iload_n rfl rfl ?_
      by_cases hb4 : pa_in z2 4 = true
      case neg => rw [if_neg hb4] at e; cases e
      rw [if_pos hb4] at e
      refine gs_iald rfl (gd_ia (j := z2.toNatClampNeg) rfl hb4 rfl) ?_
      refine gs_imul rfl ?_
      refine gs_isub rfl ?_
      obtain ⟨x5, hx5, e⟩ := pn_some e
      refine gs_topi hx5 ?_
      refine gs_istore_n (lv' := [(3, .int x5), (0, .ref 106), (1, .int z1), (2, .int z2)]) rfl rfl ?_
      refine gs_iconst (x := 0) rfl (by decide) ?_
      refine gs_istore (lv' := [(4, .int 0), (3, .int x5), (0, .ref 106), (1, .int z1), (2, .int z2)]) rfl rfl ?_
      refine gs_drop [2, 3, 4, 1, 0] rfl ?_
      obtain ⟨f13, el14, e⟩ := ob1_some e
      refine tl_X1_spread_25 L 5000 z1 z2 x5 0 f f13 _ _ el14 ?_
      obtain ⟨x15, hx15, e⟩ := pn_some e
      refine gs_iinc1 (x1 := x15) (c := 1) (lv' := [(2, .int x15), (0, .ref 106), (1, .int z1)]) rfl rfl (by decide) hx15 rfl ?_
      refine gs_goto rfl ?_
      refine gs_drop [1, 2, 0] rfl ?_
      exact ih z1 x15 f13 w0 _ _ e K
set_option maxRecDepth 100000 in
set_option maxHeartbeats 4000000 in
theorem th_X1_spread (L : Nat) (p1 : Int32) (f : pd_M) (g : pd_M) (e : fn_X1_spread p1 f = some g) : pr_C L 4 7 [.ref 106, .int p1] (hH f) none (hH g) := by
  refine pr_C.of (G := mt_X1_spread) rfl rfl ?_
  show pr_G L 3 mt_X1_spread (0, [(0, .ref 106), (1, .int p1)], [], hH f) _ _
  unfold fn_X1_spread at e
  refine gs_iconst (x := 0) rfl (by decide) ?_
  refine gs_istore_n (lv' := [(2, .int 0), (0, .ref 106), (1, .int p1)]) rfl rfl ?_
  refine gs_drop [1, 2, 0] rfl ?_
  obtain ⟨f16, el17, e⟩ := ob1_some e
  refine tl_X1_spread_2 L 5000 p1 0 f f16 _ _ el17 ?_
  obtain rfl := inj1 e
  exact gs_vret rfl rfl rfl rfl
def lp_X1_measureWaysTo_2 : Nat → Int32 → Int32 → pd_M → Option (pd_M)
  | 0, _, _, _ => none
  | n + 1, z1, z2, f =>
    if 625 ≤ z2 then
    some (f)
    else
    if pa_in z2 625 = true then
    pn ((pi_up f 107 (z2.toNatClampNeg) (-1))) fun f3 =>
    pn (z2 + 1) fun x4 =>
    lp_X1_measureWaysTo_2 n z1 x4 f3
    else none
def lp_X1_measureWaysTo_35 : Nat → Int32 → pd_M → Option (pd_M)
  | 0, _, _ => none
  | n + 1, z2, f =>
    if 625 ≤ z2 then
    some (f)
    else
    if (f 106 3) ≤ z2 then
    some (f)
    else
    if pa_in z2 625 = true then
    ob1 (fn_X1_spread (f 108 z2.toNatClampNeg) f) fun f13 =>
    pn (z2 + 1) fun x15 =>
    lp_X1_measureWaysTo_35 n x15 f13
    else none
def fn_X1_measureWaysTo (p1 : Int32) (f : pd_M) : Option (pd_M) :=
  ob1 (lp_X1_measureWaysTo_2 5000 p1 0 f) fun f5 =>
  pn ((pi_up f5 106 3 0)) fun f7 =>
  ob1 (fn_X1_reach p1 0 f7) fun f8 =>
  ob1 (lp_X1_measureWaysTo_35 5000 0 f8) fun f16 =>
  some f16
set_option maxRecDepth 100000 in
set_option maxHeartbeats 4000000 in
theorem tl_X1_measureWaysTo_2 (L : Nat) : ∀ (n : Nat) (z1 : Int32) (z2 : Int32) (f : pd_M) (w0 : pd_M) (r : Option Value) (h2 : ph_T), lp_X1_measureWaysTo_2 n z1 z2 f = some (w0) → pr_G L 4 mt_X1_measureWaysTo (22, [(0, .ref 106), (1, .int z1)], [], hH w0) r h2 → pr_G L 4 mt_X1_measureWaysTo (2, [(0, .ref 106), (1, .int z1), (2, .int z2)], [], hH f) r h2 := by
  intro n
  induction n with
  | zero => intro z1 z2 f w0 r h2 e; cases e
  | succ n ih =>
    intro z1 z2 f w0 r h2 e K
    unfold lp_X1_measureWaysTo_2 at e
    refine gs_iload_n rfl rfl ?_
    refine gs_sipush (x := 625) rfl (by decide) ?_
    refine gs_ge2 rfl (fun c1 => ?_) (fun c1 => ?_)
    · rw [if_pos c1] at e
      obtain rfl := inj1 e
      refine gs_drop [0, 1] rfl ?_
      exact K
    · rw [if_neg c1] at e
      refine gs_aload_n rfl rfl ?_
      refine gs_get rfl (gd_r (b := 107) rfl rfl rfl) ?_
      refine gs_iload_n rfl rfl ?_
      refine gs_iconst (x := (-1)) rfl (by decide) ?_
      by_cases hb2 : pa_in z2 625 = true
      case neg => rw [if_neg hb2] at e; cases e
      rw [if_pos hb2] at e
      refine gs_iast rfl (gd_si (j := z2.toNatClampNeg) rfl (by decide) hb2 rfl) ?_
      obtain ⟨f3, hf3, e⟩ := pn_some e
      refine gs_heap hf3 ?_
      obtain ⟨x4, hx4, e⟩ := pn_some e
      refine gs_iinc1 (x1 := x4) (c := 1) (lv' := [(2, .int x4), (0, .ref 106), (1, .int z1)]) rfl rfl (by decide) hx4 rfl ?_
      refine gs_goto rfl ?_
      refine gs_drop [1, 2, 0] rfl ?_
      exact ih z1 x4 f3 w0 _ _ e K
set_option maxRecDepth 100000 in
set_option maxHeartbeats 4000000 in
theorem tl_X1_measureWaysTo_35 (L : Nat) : ∀ (n : Nat) (z2 : Int32) (f : pd_M) (w0 : pd_M) (r : Option Value) (h2 : ph_T), lp_X1_measureWaysTo_35 n z2 f = some (w0) → pr_G L 4 mt_X1_measureWaysTo (66, [], [], hH w0) r h2 → pr_G L 4 mt_X1_measureWaysTo (35, [(0, .ref 106), (2, .int z2)], [], hH f) r h2 := by
  intro n
  induction n with
  | zero => intro z2 f w0 r h2 e; cases e
  | succ n ih =>
    intro z2 f w0 r h2 e K
    unfold lp_X1_measureWaysTo_35 at e
    refine gs_iload_n rfl rfl ?_
    refine gs_sipush (x := 625) rfl (by decide) ?_
    refine gs_ge2 rfl (fun c10 => ?_) (fun c10 => ?_)
    · rw [if_pos c10] at e
      obtain rfl := inj1 e
      refine gs_drop [] rfl ?_
      exact K
    · rw [if_neg c10] at e
      refine gs_iload_n rfl rfl ?_
      refine gs_aload_n rfl rfl ?_
      refine gs_get rfl (gd_i rfl rfl) ?_
      refine gs_ge2 rfl (fun c11 => ?_) (fun c11 => ?_)
      · rw [if_pos c11] at e
        obtain rfl := inj1 e
        refine gs_drop [] rfl ?_
        exact K
      · rw [if_neg c11] at e
        refine gs_aload_n rfl rfl ?_
        refine gs_aload_n rfl rfl ?_
        refine gs_get rfl (gd_r (b := 108) rfl rfl rfl) ?_
        refine gs_iload_n rfl rfl ?_
        by_cases hb12 : pa_in z2 625 = true
        case neg => rw [if_neg hb12] at e; cases e
        rw [if_pos hb12] at e
        refine gs_iald rfl (gd_ia (j := z2.toNatClampNeg) rfl hb12 rfl) ?_
        obtain ⟨f13, ec14, e⟩ := ob1_some e
        refine gs_callvV (st := []) rfl (pr_C_le (by decide) (th_X1_spread L (f 108 z2.toNatClampNeg) f f13 ec14)) rfl rfl rfl (by decide) rfl (Or.inr (by decide)) ?_
        obtain ⟨x15, hx15, e⟩ := pn_some e
        refine gs_iinc1 (x1 := x15) (c := 1) (lv' := [(2, .int x15), (0, .ref 106)]) rfl rfl (by decide) hx15 rfl ?_
        refine gs_goto rfl ?_
        refine gs_drop [1, 0] rfl ?_
        exact ih x15 f13 w0 _ _ e K
set_option maxRecDepth 100000 in
set_option maxHeartbeats 4000000 in
theorem th_X1_measureWaysTo (L : Nat) (p1 : Int32) (f : pd_M) (g : pd_M) (e : fn_X1_measureWaysTo p1 f = some g) : pr_C L 5 5 [.ref 106, .int p1] (hH f) none (hH g) := by
  refine pr_C.of (G := mt_X1_measureWaysTo) rfl rfl ?_
  show pr_G L 4 mt_X1_measureWaysTo (0, [(0, .ref 106), (1, .int p1)], [], hH f) _ _
  unfold fn_X1_measureWaysTo at e
  refine gs_iconst (x := 0) rfl (by decide) ?_
  refine gs_istore_n (lv' := [(2, .int 0), (0, .ref 106), (1, .int p1)]) rfl rfl ?_
  refine gs_drop [1, 2, 0] rfl ?_
  obtain ⟨f5, el6, e⟩ := ob1_some e
  refine tl_X1_measureWaysTo_2 L 5000 p1 0 f f5 _ _ el6 ?_
  refine gs_aload_n rfl rfl ?_
  refine gs_iconst (x := 0) rfl (by decide) ?_
  refine gs_put rfl (gd_pi rfl rfl) ?_
  obtain ⟨f7, hf7, e⟩ := pn_some e
  refine gs_heap hf7 ?_
  refine gs_aload_n rfl rfl ?_
  refine gs_iload_n rfl rfl ?_
  refine gs_iconst (x := 0) rfl (by decide) ?_
  obtain ⟨f8, ec9, e⟩ := ob1_some e
  refine gs_callvV (st := []) rfl (pr_C_le (by decide) (th_X1_reach L p1 0 f7 f8 ec9)) rfl rfl rfl (by decide) rfl (Or.inr (by decide)) ?_
  refine gs_iconst (x := 0) rfl (by decide) ?_
  refine gs_istore_n (lv' := [(2, .int 0), (0, .ref 106), (1, .int p1)]) rfl rfl ?_
  refine gs_drop [1, 0] rfl ?_
  obtain ⟨f16, el17, e⟩ := ob1_some e
  refine tl_X1_measureWaysTo_35 L 5000 0 f8 f16 _ _ el17 ?_
  obtain rfl := inj1 e
  exact gs_vret rfl rfl rfl rfl
def fn_X1_stepsFrom (p1 : Int32) (f : pd_M) : Option (Int32) :=
  if pa_in p1 625 = true then
  if 0 ≤ (f 107 p1.toNatClampNeg) then
  if pa_in p1 625 = true then
  some (f 107 p1.toNatClampNeg)
  else none
  else
  some (-1000000)
  else none
set_option maxRecDepth 100000 in
set_option maxHeartbeats 4000000 in
theorem th_X1_stepsFrom (L : Nat) (p1 : Int32) (f : pd_M) (q : Int32) (e : fn_X1_stepsFrom p1 f = some q) : pr_C L 1 8 [.ref 106, .int p1] (hH f) (some (.int q)) (hH f) := by
  refine pr_C.of (G := mt_X1_stepsFrom) rfl rfl ?_
  show pr_G L 0 mt_X1_stepsFrom (0, [(0, .ref 106), (1, .int p1)], [], hH f) _ _
  unfold fn_X1_stepsFrom at e
  refine gs_aload_n rfl rfl ?_
  refine gs_get rfl (gd_r (b := 107) rfl rfl rfl) ?_
  refine gs_iload_n rfl rfl ?_
  by_cases hb1 : pa_in p1 625 = true
  case neg => rw [if_neg hb1] at e; cases e
  rw [if_pos hb1] at e
  refine gs_iald rfl (gd_ia (j := p1.toNatClampNeg) rfl hb1 rfl) ?_
  refine gs_ge0 rfl (fun c2 => ?_) (fun c2 => ?_)
  · rw [if_pos c2] at e
    refine gs_aload_n rfl rfl ?_
    refine gs_get rfl (gd_r (b := 107) rfl rfl rfl) ?_
    refine gs_iload_n rfl rfl ?_
    by_cases hb3 : pa_in p1 625 = true
    case neg => rw [if_neg hb3] at e; cases e
    rw [if_pos hb3] at e
    refine gs_iald rfl (gd_ia (j := p1.toNatClampNeg) rfl hb3 rfl) ?_
    obtain rfl := inj1 e
    exact gs_iret rfl rfl rfl rfl rfl
  · rw [if_neg c2] at e
    refine gs_ldc (x := (-1000000)) rfl (by decide) ?_
    refine gs_goto rfl ?_
    obtain rfl := inj1 e
    exact gs_iret rfl rfl rfl rfl rfl
def lp_X1_firstFrom_42 : Nat → Int32 → Int32 → Int32 → Int32 → Int32 → pd_M → Option (Int32)
  | 0, _, _, _, _, _, _ => none
  | n + 1, z1, z2, z3, z4, z5, f =>
    if pa_in z3 4 = true then
    if (f 41 z3.toNatClampNeg) < z5 then
    some (z2)
    else
    if pa_in z3 4 = true then
    pn ((z4 + (z5 * (f 2 z3.toNatClampNeg)))) fun x11 =>
    if pa_in x11 625 = true then
    if pa_in z1 625 = true then
    ob1 (if (f 107 x11.toNatClampNeg) = ((f 107 z1.toNatClampNeg) - 1) then
    if z2 = (-1000000) then
    some (x11)
    else
    if z2 ≤ x11 then
    some (z2)
    else
    some (x11)
    else
    some (z2)) fun (y15 : Int32) =>
    pn (z5 + 1) fun x18 =>
    lp_X1_firstFrom_42 n z1 y15 z3 z4 x18 f
    else none
    else none
    else none
    else none
def lp_X1_firstFrom_18 : Nat → Int32 → Int32 → Int32 → pd_M → Option (Int32)
  | 0, _, _, _, _ => none
  | n + 1, z1, z2, z3, f =>
    if 4 ≤ z3 then
    some (z2)
    else
    ob1 (fn_X1_standing z1 z3 f) fun r4 =>
    if pa_in z3 4 = true then
    pn ((z1 - (r4 * (f 2 z3.toNatClampNeg)))) fun x7 =>
    ob1 (lp_X1_firstFrom_42 5000 z1 z2 z3 x7 0 f) fun y19 =>
    pn (z3 + 1) fun x21 =>
    lp_X1_firstFrom_18 n z1 y19 x21 f
    else none
def fn_X1_firstFrom (p1 : Int32) (f : pd_M) : Option (Int32) :=
  if pa_in p1 625 = true then
  if 1 ≤ (f 107 p1.toNatClampNeg) then
  ob1 (lp_X1_firstFrom_18 5000 p1 (-1000000) 0 f) fun y22 =>
  some y22
  else
  some (-1000000)
  else none
set_option maxRecDepth 100000 in
set_option maxHeartbeats 4000000 in
theorem tl_X1_firstFrom_42 (L : Nat) : ∀ (n : Nat) (z1 : Int32) (z2 : Int32) (z3 : Int32) (z4 : Int32) (z5 : Int32) (f : pd_M) (w0 : Int32) (r : Option Value) (h2 : ph_T), lp_X1_firstFrom_42 n z1 z2 z3 z4 z5 f = some (w0) → pr_G L 1 mt_X1_firstFrom (111, [(0, .ref 106), (1, .int z1), (2, .int w0), (3, .int z3)], [], hH f) r h2 → pr_G L 1 mt_X1_firstFrom (42, [(0, .ref 106), (1, .int z1), (2, .int z2), (3, .int z3), (4, .int z4), (5, .int z5)], [], hH f) r h2 := by
  intro n
  induction n with
  | zero => intro z1 z2 z3 z4 z5 f w0 r h2 e; cases e
  | succ n ih =>
    intro z1 z2 z3 z4 z5 f w0 r h2 e K
    unfold lp_X1_firstFrom_42 at e
    refine gs_iload rfl rfl ?_
    refine gs_aload_n rfl rfl ?_
    refine gs_get rfl (gd_r (b := 39) rfl rfl rfl) ?_
    refine gs_get rfl (gd_r (b := 40) rfl rfl rfl) ?_
    refine gs_get rfl (gd_r (b := 41) rfl rfl rfl) ?_
    refine gs_iload_n rfl rfl ?_
    by_cases hb8 : pa_in z3 4 = true
    case neg => rw [if_neg hb8] at e; cases e
    rw [if_pos hb8] at e
    refine gs_iald rfl (gd_ia (j := z3.toNatClampNeg) rfl hb8 rfl) ?_
    refine gs_gt2 rfl (fun c9 => ?_) (fun c9 => ?_)
    · rw [if_pos c9] at e
      obtain rfl := inj1 e
      refine gs_drop [0, 1, 2, 3] rfl ?_
      exact K
    · rw [if_neg c9] at e
      refine gs_iload rfl rfl ?_
      refine gs_iload rfl rfl ?_
      refine gs_static1 (a := 2) rfl rfl ?_
      refine gs_iload_n rfl rfl ?_
      by_cases hb10 : pa_in z3 4 = true
      case neg => rw [if_neg hb10] at e; cases e
      rw [if_pos hb10] at e
      refine gs_iald rfl (gd_ia (j := z3.toNatClampNeg) rfl hb10 rfl) ?_
      refine gs_imul rfl ?_
      refine gs_iadd rfl ?_
      obtain ⟨x11, hx11, e⟩ := pn_some e
      refine gs_topi hx11 ?_
      refine gs_istore (lv' := [(6, .int x11), (0, .ref 106), (1, .int z1), (2, .int z2), (3, .int z3), (4, .int z4), (5, .int z5)]) rfl rfl ?_
      refine gs_aload_n rfl rfl ?_
      refine gs_get rfl (gd_r (b := 107) rfl rfl rfl) ?_
      refine gs_iload rfl rfl ?_
      by_cases hb12 : pa_in x11 625 = true
      case neg => rw [if_neg hb12] at e; cases e
      rw [if_pos hb12] at e
      refine gs_iald rfl (gd_ia (j := x11.toNatClampNeg) rfl hb12 rfl) ?_
      refine gs_aload_n rfl rfl ?_
      refine gs_get rfl (gd_r (b := 107) rfl rfl rfl) ?_
      refine gs_iload_n rfl rfl ?_
      by_cases hb13 : pa_in z1 625 = true
      case neg => rw [if_neg hb13] at e; cases e
      rw [if_pos hb13] at e
      refine gs_iald rfl (gd_ia (j := z1.toNatClampNeg) rfl hb13 rfl) ?_
      refine gs_iconst (x := 1) rfl (by decide) ?_
      refine gs_isub rfl ?_
      obtain ⟨y15, ev105, e⟩ := ob1_some e
      have KJ105 : pr_G L 1 mt_X1_firstFrom (105, [(0, .ref 106), (1, .int z1), (2, .int y15), (3, .int z3), (4, .int z4), (5, .int z5)], [], hH f) r h2 := by
        obtain ⟨x18, hx18, e⟩ := pn_some e
        refine gs_iinc1 (x1 := x18) (c := 1) (lv' := [(5, .int x18), (0, .ref 106), (1, .int z1), (2, .int y15), (3, .int z3), (4, .int z4)]) rfl rfl (by decide) hx18 rfl ?_
        refine gs_goto rfl ?_
        refine gs_drop [1, 2, 3, 4, 5, 0] rfl ?_
        exact ih z1 y15 z3 z4 x18 f w0 _ _ e K
      have e := ev105
      clear ev105
      refine gs_ne2 rfl (fun c14 => ?_) (fun c14 => ?_)
      · rw [if_neg c14] at e
        obtain rfl := inj1 e
        refine gs_drop [1, 2, 3, 4, 5, 6] rfl ?_
        exact KJ105
      · rw [if_pos c14] at e
        refine gs_iload_n rfl rfl ?_
        refine gs_ldc (x := (-1000000)) rfl (by decide) ?_
        refine gs_eq2 rfl (fun c16 => ?_) (fun c16 => ?_)
        · rw [if_pos c16] at e
          refine gs_iload rfl rfl ?_
          refine gs_istore_n (lv' := [(2, .int x11), (6, .int x11), (0, .ref 106), (1, .int z1), (3, .int z3), (4, .int z4), (5, .int z5)]) rfl rfl ?_
          obtain rfl := inj1 e
          refine gs_drop [2, 3, 0, 4, 5, 6] rfl ?_
          exact KJ105
        · rw [if_neg c16] at e
          refine gs_iload rfl rfl ?_
          refine gs_iload_n rfl rfl ?_
          refine gs_ge2 rfl (fun c17 => ?_) (fun c17 => ?_)
          · rw [if_pos c17] at e
            obtain rfl := inj1 e
            refine gs_drop [1, 2, 3, 4, 5, 6] rfl ?_
            exact KJ105
          · rw [if_neg c17] at e
            refine gs_iload rfl rfl ?_
            refine gs_istore_n (lv' := [(2, .int x11), (6, .int x11), (0, .ref 106), (1, .int z1), (3, .int z3), (4, .int z4), (5, .int z5)]) rfl rfl ?_
            obtain rfl := inj1 e
            refine gs_drop [2, 3, 0, 4, 5, 6] rfl ?_
            exact KJ105
set_option maxRecDepth 100000 in
set_option maxHeartbeats 4000000 in
theorem tl_X1_firstFrom_18 (L : Nat) : ∀ (n : Nat) (z1 : Int32) (z2 : Int32) (z3 : Int32) (f : pd_M) (w0 : Int32) (r : Option Value) (h2 : ph_T), lp_X1_firstFrom_18 n z1 z2 z3 f = some (w0) → pr_G L 1 mt_X1_firstFrom (117, [(2, .int w0)], [], hH f) r h2 → pr_G L 1 mt_X1_firstFrom (18, [(0, .ref 106), (1, .int z1), (2, .int z2), (3, .int z3)], [], hH f) r h2 := by
  intro n
  induction n with
  | zero => intro z1 z2 z3 f w0 r h2 e; cases e
  | succ n ih =>
    intro z1 z2 z3 f w0 r h2 e K
    unfold lp_X1_firstFrom_18 at e
    refine gs_iload_n rfl rfl ?_
    refine gs_iconst (x := 4) rfl (by decide) ?_
    refine gs_ge2 rfl (fun c3 => ?_) (fun c3 => ?_)
    · rw [if_pos c3] at e
      obtain rfl := inj1 e
      refine gs_drop [2] rfl ?_
      exact K
    · rw [if_neg c3] at e
      refine gs_iload_n rfl rfl ?_
      refine gs_aload_n rfl rfl ?_
      refine gs_iload_n rfl rfl ?_
      refine gs_iload_n rfl rfl ?_
      obtain ⟨r4, ec5, e⟩ := ob1_some e
      refine gs_callvI (st := [.int z1]) rfl (pr_C_le (by decide) (th_X1_standing L z1 z3 f r4 ec5)) rfl rfl rfl (by decide) rfl (Or.inr (by decide)) ?_
      refine gs_static1 (a := 2) rfl rfl ?_
      refine gs_iload_n rfl rfl ?_
      by_cases hb6 : pa_in z3 4 = true
      case neg => rw [if_neg hb6] at e; cases e
      rw [if_pos hb6] at e
      refine gs_iald rfl (gd_ia (j := z3.toNatClampNeg) rfl hb6 rfl) ?_
      refine gs_imul rfl ?_
      refine gs_isub rfl ?_
      obtain ⟨x7, hx7, e⟩ := pn_some e
      refine gs_topi hx7 ?_
      refine gs_istore (lv' := [(4, .int x7), (0, .ref 106), (1, .int z1), (2, .int z2), (3, .int z3)]) rfl rfl ?_
      refine gs_iconst (x := 0) rfl (by decide) ?_
      refine gs_istore (lv' := [(5, .int 0), (4, .int x7), (0, .ref 106), (1, .int z1), (2, .int z2), (3, .int z3)]) rfl rfl ?_
      refine gs_drop [2, 3, 4, 5, 1, 0] rfl ?_
      obtain ⟨y19, el20, e⟩ := ob1_some e
      refine tl_X1_firstFrom_42 L 5000 z1 z2 z3 x7 0 f y19 _ _ el20 ?_
      obtain ⟨x21, hx21, e⟩ := pn_some e
      refine gs_iinc1 (x1 := x21) (c := 1) (lv' := [(3, .int x21), (0, .ref 106), (1, .int z1), (2, .int y19)]) rfl rfl (by decide) hx21 rfl ?_
      refine gs_goto rfl ?_
      refine gs_drop [1, 2, 3, 0] rfl ?_
      exact ih z1 y19 x21 f w0 _ _ e K
set_option maxRecDepth 100000 in
set_option maxHeartbeats 4000000 in
theorem th_X1_firstFrom (L : Nat) (p1 : Int32) (f : pd_M) (q : Int32) (e : fn_X1_firstFrom p1 f = some q) : pr_C L 2 9 [.ref 106, .int p1] (hH f) (some (.int q)) (hH f) := by
  refine pr_C.of (G := mt_X1_firstFrom) rfl rfl ?_
  show pr_G L 1 mt_X1_firstFrom (0, [(0, .ref 106), (1, .int p1)], [], hH f) _ _
  unfold fn_X1_firstFrom at e
  refine gs_aload_n rfl rfl ?_
  refine gs_get rfl (gd_r (b := 107) rfl rfl rfl) ?_
  refine gs_iload_n rfl rfl ?_
  by_cases hb1 : pa_in p1 625 = true
  case neg => rw [if_neg hb1] at e; cases e
  rw [if_pos hb1] at e
  refine gs_iald rfl (gd_ia (j := p1.toNatClampNeg) rfl hb1 rfl) ?_
  refine gs_iconst (x := 1) rfl (by decide) ?_
  refine gs_ge2 rfl (fun c2 => ?_) (fun c2 => ?_)
  · rw [if_pos c2] at e
    refine gs_ldc (x := (-1000000)) rfl (by decide) ?_
    refine gs_istore_n (lv' := [(2, .int (-1000000)), (0, .ref 106), (1, .int p1)]) rfl rfl ?_
    refine gs_iconst (x := 0) rfl (by decide) ?_
    refine gs_istore_n (lv' := [(3, .int 0), (2, .int (-1000000)), (0, .ref 106), (1, .int p1)]) rfl rfl ?_
    refine gs_drop [2, 3, 1, 0] rfl ?_
    obtain ⟨y22, el23, e⟩ := ob1_some e
    refine tl_X1_firstFrom_18 L 5000 p1 (-1000000) 0 f y22 _ _ el23 ?_
    refine gs_iload_n rfl rfl ?_
    obtain rfl := inj1 e
    exact gs_iret rfl rfl rfl rfl rfl
  · rw [if_neg c2] at e
    refine gs_ldc (x := (-1000000)) rfl (by decide) ?_
    obtain rfl := inj1 e
    exact gs_iret rfl rfl rfl rfl rfl
