def fn_X7_hasSaying (p1 : Int32) (f : pd_M) : Option (Int32) :=
  if (fn_X8_isBelow p1 (f 40 4)) = 0 ∨ (fn_X8_isBelow p1 (f 40 4)) = 1 then some (fn_X8_isBelow p1 (f 40 4)) else none
set_option maxRecDepth 100000 in
set_option maxHeartbeats 4000000 in
theorem th_X7_hasSaying (L : Nat) (p1 : Int32) (f : pd_M) (q : Int32) (e : fn_X7_hasSaying p1 f = some q) : pr_C L 2 46 [.ref 39, .int p1] (hH f) (some (.int q)) (hH f) := by
  refine pr_C.of (G := mt_X7_hasSaying) rfl rfl ?_
  show pr_G L 1 mt_X7_hasSaying (0, [(0, .ref 39), (1, .int p1)], [], hH f) _ _
  unfold fn_X7_hasSaying at e
  refine gs_iload_n rfl rfl ?_
  refine gs_aload_n rfl rfl ?_
  refine gs_get rfl (gd_r (b := 40) rfl rfl rfl) ?_
  refine gs_get rfl (gd_i rfl rfl) ?_
  refine gs_callsI (st := []) rfl (pr_C_le (by decide) (th_X8_isBelow L p1 (f 40 4) f _ rfl)) rfl rfl rfl (by decide) ?_
  by_cases hz : (fn_X8_isBelow p1 (f 40 4)) = 0 ∨ (fn_X8_isBelow p1 (f 40 4)) = 1
  · rw [if_pos hz] at e
    obtain rfl := inj1 e
    exact gs_iret rfl rfl (nar_z hz) rfl rfl
  · rw [if_neg hz] at e
    cases e
def fn_X7_hasEdition (p1 : Int32) (p2 : Int32) (f : pd_M) : Option (Int32) :=
  if (fn_X8_isBelow p1 4) = 0 then
  some 0
  else
  if pa_in p1 4 = true then
  if (fn_X8_isBelow p2 (f 41 p1.toNatClampNeg)) = 0 then
  some 0
  else
  some 1
  else none
set_option maxRecDepth 100000 in
set_option maxHeartbeats 4000000 in
theorem th_X7_hasEdition (L : Nat) (p1 : Int32) (p2 : Int32) (f : pd_M) (q : Int32) (e : fn_X7_hasEdition p1 p2 f = some q) : pr_C L 2 47 [.ref 39, .int p1, .int p2] (hH f) (some (.int q)) (hH f) := by
  refine pr_C.of (G := mt_X7_hasEdition) rfl rfl ?_
  show pr_G L 1 mt_X7_hasEdition (0, [(0, .ref 39), (1, .int p1), (2, .int p2)], [], hH f) _ _
  unfold fn_X7_hasEdition at e
  refine gs_iload_n rfl rfl ?_
  refine gs_iconst (x := 4) rfl (by decide) ?_
  refine gs_callsI (st := []) rfl (pr_C_le (by decide) (th_X8_isBelow L p1 4 f _ rfl)) rfl rfl rfl (by decide) ?_
  refine gs_eq0 rfl (fun c1 => ?_) (fun c1 => ?_)
  · rw [if_pos c1] at e
    refine gs_iconst (x := 0) rfl (by decide) ?_
    obtain rfl := inj1 e
    exact gs_iret rfl rfl (by decide) rfl rfl
  · rw [if_neg c1] at e
    refine gs_iload_n rfl rfl ?_
    refine gs_aload_n rfl rfl ?_
    refine gs_get rfl (gd_r (b := 40) rfl rfl rfl) ?_
    refine gs_get rfl (gd_r (b := 41) rfl rfl rfl) ?_
    refine gs_iload_n rfl rfl ?_
    by_cases hb2 : pa_in p1 4 = true
    case neg => rw [if_neg hb2] at e; cases e
    rw [if_pos hb2] at e
    refine gs_iald rfl (gd_ia (j := p1.toNatClampNeg) rfl hb2 rfl) ?_
    refine gs_callsI (st := []) rfl (pr_C_le (by decide) (th_X8_isBelow L p2 (f 41 p1.toNatClampNeg) f _ rfl)) rfl rfl rfl (by decide) ?_
    refine gs_eq0 rfl (fun c3 => ?_) (fun c3 => ?_)
    · rw [if_pos c3] at e
      refine gs_iconst (x := 0) rfl (by decide) ?_
      obtain rfl := inj1 e
      exact gs_iret rfl rfl (by decide) rfl rfl
    · rw [if_neg c3] at e
      refine gs_iconst (x := 1) rfl (by decide) ?_
      refine gs_goto rfl ?_
      obtain rfl := inj1 e
      exact gs_iret rfl rfl (by decide) rfl rfl
def fn_X8_isWithin (p1 : Int32) (p2 : Int32) : Int32 :=
  if (p1 &&& (p2 ^^^ (-1))) = 0 then
  1
  else
  0
set_option maxRecDepth 100000 in
set_option maxHeartbeats 4000000 in
theorem th_X8_isWithin (L : Nat) (p1 : Int32) (p2 : Int32) (f : pd_M) (q : Int32) (e : fn_X8_isWithin p1 p2 = q) : pr_C L 1 93 [.int p1, .int p2] (hH f) (some (.int q)) (hH f) := by
  refine pr_C.of (G := mt_X8_isWithin) rfl rfl ?_
  show pr_G L 0 mt_X8_isWithin (0, [(0, .int p1), (1, .int p2)], [], hH f) _ _
  unfold fn_X8_isWithin at e
  refine gs_iload_n rfl rfl ?_
  refine gs_iload_n rfl rfl ?_
  refine gs_iconst (x := (-1)) rfl (by decide) ?_
  refine gs_ixor rfl ?_
  refine gs_iand rfl ?_
  refine gs_ne0 rfl (fun c1 => ?_) (fun c1 => ?_)
  · rw [if_neg c1] at e
    refine gs_iconst (x := 0) rfl (by decide) ?_
    subst e
    exact gs_iret rfl rfl (by decide) rfl rfl
  · rw [if_pos c1] at e
    refine gs_iconst (x := 1) rfl (by decide) ?_
    refine gs_goto rfl ?_
    subst e
    exact gs_iret rfl rfl (by decide) rfl rfl
def lp_X8_firstBroken_2 : Nat → Nat → Nat → Int32 → pd_M → Option ((Int32) ⊕ (Unit))
  | 0, _, _, _, _ => none
  | n + 1, z0, z1, z2, f =>
    if sk z0 = (14, 9) then
    if sk z1 = (10, 2) then
    if 24 ≤ z2 then
    some (.inr ())
    else
    if (((f z0 7) >>> (z2 &&& 31)) &&& 1) = 0 then
    pn (z2 + 1) fun x3 =>
    lp_X8_firstBroken_2 n z0 z1 x3 f
    else
    if pa_in z2 24 = true then
    if (fn_X8_isWithin (f (z1 + 1) z2.toNatClampNeg) (f z0 8)) = 0 then
    some (.inl z2)
    else
    pn (z2 + 1) fun x6 =>
    lp_X8_firstBroken_2 n z0 z1 x6 f
    else none
    else none
    else none
def fn_X8_firstBroken (p1 : Nat) (p2 : Nat) (f : pd_M) : Option (Int32) :=
  if sk p1 = (14, 9) then
  if sk p2 = (10, 2) then
  os0 (lp_X8_firstBroken_2 5000 p1 p2 0 f) (fun q => some q) (
  some (-1000000))
  else none
  else none
set_option maxRecDepth 100000 in
set_option maxHeartbeats 4000000 in
theorem tl_X8_firstBroken_2 (L : Nat) : ∀ (n : Nat) (z0 : Nat) (z1 : Nat) (z2 : Int32) (f : pd_M) (o : (Int32) ⊕ (Unit)), lp_X8_firstBroken_2 n z0 z1 z2 f = some o → (∀ q, o = .inl q → pr_G L 1 mt_X8_firstBroken (2, [(0, .ref z0), (1, .ref z1), (2, .int z2)], [], hH f) (some (.int q)) (hH f)) ∧ (∀ (_ : Unit), o = .inr () → ∀ (r : Option Value) (h2 : ph_T), pr_G L 1 mt_X8_firstBroken (43, [], [], hH f) r h2 → pr_G L 1 mt_X8_firstBroken (2, [(0, .ref z0), (1, .ref z1), (2, .int z2)], [], hH f) r h2) := by
  intro n
  induction n with
  | zero => intro z0 z1 z2 f o e; cases e
  | succ n ih =>
    intro z0 z1 z2 f o e
    refine ⟨fun q hq => ?_, fun _ hq r h2 K => ?_⟩
    · subst hq
      unfold lp_X8_firstBroken_2 at e
      by_cases hk0 : sk z0 = (14, 9)
      case neg => rw [if_neg hk0] at e; cases e
      rw [if_pos hk0] at e
      by_cases hk1 : sk z1 = (10, 2)
      case neg => rw [if_neg hk1] at e; cases e
      rw [if_pos hk1] at e
      refine gs_iload_n rfl rfl ?_
      refine gs_bipush (x := 24) rfl (by decide) ?_
      refine gs_ge2 rfl (fun c1 => ?_) (fun c1 => ?_)
      · rw [if_pos c1] at e
        cases e
      · rw [if_neg c1] at e
        refine gs_aload_n rfl rfl ?_
        refine gs_get rfl (gd_i (sh_of hk0 (by decide)) rfl) ?_
        refine gs_iload_n rfl rfl ?_
        refine gs_ishr rfl ?_
        refine gs_iconst (x := 1) rfl (by decide) ?_
        refine gs_iand rfl ?_
        refine gs_eq0 rfl (fun c2 => ?_) (fun c2 => ?_)
        · rw [if_pos c2] at e
          obtain ⟨x3, hx3, e⟩ := pn_some e
          refine gs_iinc1 (x1 := x3) (c := 1) (lv' := [(2, .int x3), (0, .ref z0), (1, .ref z1)]) rfl rfl (by decide) hx3 rfl ?_
          refine gs_goto rfl ?_
          refine gs_drop [1, 2, 0] rfl ?_
          exact (ih z0 z1 x3 f _ e).1 _ rfl
        · rw [if_neg c2] at e
          refine gs_aload_n rfl rfl ?_
          refine gs_get rfl (gd_r (b := (z1 + 1)) (sh_of hk1 (by decide)) rfl (ref_10_0 hk1)) ?_
          refine gs_iload_n rfl rfl ?_
          by_cases hb4 : pa_in z2 24 = true
          case neg => rw [if_neg hb4] at e; cases e
          rw [if_pos hb4] at e
          refine gs_iald rfl (gd_ia (j := z2.toNatClampNeg) (sh_of (fam_10_0 hk1) (by decide)) hb4 rfl) ?_
          refine gs_aload_n rfl rfl ?_
          refine gs_get rfl (gd_i (sh_of hk0 (by decide)) rfl) ?_
          refine gs_callsI (st := []) rfl (pr_C_le (by decide) (th_X8_isWithin L (f (z1 + 1) z2.toNatClampNeg) (f z0 8) f _ rfl)) rfl rfl rfl (by decide) ?_
          refine gs_ne0 rfl (fun c5 => ?_) (fun c5 => ?_)
          · rw [if_neg c5] at e
            obtain ⟨x6, hx6, e⟩ := pn_some e
            refine gs_iinc1 (x1 := x6) (c := 1) (lv' := [(2, .int x6), (0, .ref z0), (1, .ref z1)]) rfl rfl (by decide) hx6 rfl ?_
            refine gs_goto rfl ?_
            refine gs_drop [1, 2, 0] rfl ?_
            exact (ih z0 z1 x6 f _ e).1 _ rfl
          · rw [if_pos c5] at e
            refine gs_iload_n rfl rfl ?_
            obtain rfl := injl e
            exact gs_iret rfl rfl rfl rfl rfl
    · subst hq
      unfold lp_X8_firstBroken_2 at e
      by_cases hk0 : sk z0 = (14, 9)
      case neg => rw [if_neg hk0] at e; cases e
      rw [if_pos hk0] at e
      by_cases hk1 : sk z1 = (10, 2)
      case neg => rw [if_neg hk1] at e; cases e
      rw [if_pos hk1] at e
      refine gs_iload_n rfl rfl ?_
      refine gs_bipush (x := 24) rfl (by decide) ?_
      refine gs_ge2 rfl (fun c1 => ?_) (fun c1 => ?_)
      · rw [if_pos c1] at e
        refine gs_drop [] rfl ?_
        exact K
      · rw [if_neg c1] at e
        refine gs_aload_n rfl rfl ?_
        refine gs_get rfl (gd_i (sh_of hk0 (by decide)) rfl) ?_
        refine gs_iload_n rfl rfl ?_
        refine gs_ishr rfl ?_
        refine gs_iconst (x := 1) rfl (by decide) ?_
        refine gs_iand rfl ?_
        refine gs_eq0 rfl (fun c2 => ?_) (fun c2 => ?_)
        · rw [if_pos c2] at e
          obtain ⟨x3, hx3, e⟩ := pn_some e
          refine gs_iinc1 (x1 := x3) (c := 1) (lv' := [(2, .int x3), (0, .ref z0), (1, .ref z1)]) rfl rfl (by decide) hx3 rfl ?_
          refine gs_goto rfl ?_
          refine gs_drop [1, 2, 0] rfl ?_
          exact (ih z0 z1 x3 f _ e).2 () rfl _ _ K
        · rw [if_neg c2] at e
          refine gs_aload_n rfl rfl ?_
          refine gs_get rfl (gd_r (b := (z1 + 1)) (sh_of hk1 (by decide)) rfl (ref_10_0 hk1)) ?_
          refine gs_iload_n rfl rfl ?_
          by_cases hb4 : pa_in z2 24 = true
          case neg => rw [if_neg hb4] at e; cases e
          rw [if_pos hb4] at e
          refine gs_iald rfl (gd_ia (j := z2.toNatClampNeg) (sh_of (fam_10_0 hk1) (by decide)) hb4 rfl) ?_
          refine gs_aload_n rfl rfl ?_
          refine gs_get rfl (gd_i (sh_of hk0 (by decide)) rfl) ?_
          refine gs_callsI (st := []) rfl (pr_C_le (by decide) (th_X8_isWithin L (f (z1 + 1) z2.toNatClampNeg) (f z0 8) f _ rfl)) rfl rfl rfl (by decide) ?_
          refine gs_ne0 rfl (fun c5 => ?_) (fun c5 => ?_)
          · rw [if_neg c5] at e
            obtain ⟨x6, hx6, e⟩ := pn_some e
            refine gs_iinc1 (x1 := x6) (c := 1) (lv' := [(2, .int x6), (0, .ref z0), (1, .ref z1)]) rfl rfl (by decide) hx6 rfl ?_
            refine gs_goto rfl ?_
            refine gs_drop [1, 2, 0] rfl ?_
            exact (ih z0 z1 x6 f _ e).2 () rfl _ _ K
          · rw [if_pos c5] at e
            refine gs_iload_n rfl rfl ?_
            cases e
set_option maxRecDepth 100000 in
set_option maxHeartbeats 4000000 in
theorem th_X8_firstBroken (L : Nat) (p1 : Nat) (p2 : Nat) (f : pd_M) (q : Int32) (e : fn_X8_firstBroken p1 p2 f = some q) : pr_C L 2 101 [.ref p1, .ref p2] (hH f) (some (.int q)) (hH f) := by
  refine pr_C.of (G := mt_X8_firstBroken) rfl rfl ?_
  show pr_G L 1 mt_X8_firstBroken (0, [(0, .ref p1), (1, .ref p2)], [], hH f) _ _
  unfold fn_X8_firstBroken at e
  by_cases hk1 : sk p1 = (14, 9)
  case neg => rw [if_neg hk1] at e; cases e
  rw [if_pos hk1] at e
  by_cases hk2 : sk p2 = (10, 2)
  case neg => rw [if_neg hk2] at e; cases e
  rw [if_pos hk2] at e
  refine gs_iconst (x := 0) rfl (by decide) ?_
  refine gs_istore_n (lv' := [(2, .int 0), (0, .ref p1), (1, .ref p2)]) rfl rfl ?_
  refine gs_drop [1, 2, 0] rfl ?_
  rcases os0_some e with ⟨q, el7, e⟩ | ⟨el7, e⟩
  · skip
    obtain rfl := inj1 e
    exact (tl_X8_firstBroken_2 L 5000 p1 p2 0 f _ el7).1 _ rfl
  · refine (tl_X8_firstBroken_2 L 5000 p1 p2 0 f _ el7).2 () rfl _ _ ?_
    refine gs_ldc (x := (-1000000)) rfl (by decide) ?_
    obtain rfl := inj1 e
    exact gs_iret rfl rfl rfl rfl rfl
def lp_X7_keptBy_5 : Nat → Int32 → Int32 → Int32 → Int32 → pd_M → Option (Int32)
  | 0, _, _, _, _, _ => none
  | n + 1, z1, z2, z3, z4, f =>
    if (f 40 4) ≤ z4 then
    some (z3)
    else
    if pa_in z4 20 = true then
    ob1 (if (f (48 + z4.toNatClampNeg) 2) = z1 then
    if pa_in z4 20 = true then
    ob1 (fn_X7_editionOf z1 z2) fun r6 =>
    ob1 (fn_X8_firstBroken (48 + z4.toNatClampNeg) r6 f) fun r8 =>
    if r8 = (-1000000) then
    pn ((z3 ||| ((1 : Int32) <<< (z4 &&& 31)))) fun x11 =>
    some (x11)
    else
    some (z3)
    else none
    else
    some (z3)) fun (y4 : Int32) =>
    pn (z4 + 1) fun x12 =>
    lp_X7_keptBy_5 n z1 z2 y4 x12 f
    else none
def fn_X7_keptBy (p1 : Int32) (p2 : Int32) (f : pd_M) : Option (Int32) :=
  ob1 (lp_X7_keptBy_5 5000 p1 p2 0 0 f) fun y13 =>
  some y13
set_option maxRecDepth 100000 in
set_option maxHeartbeats 4000000 in
theorem tl_X7_keptBy_5 (L : Nat) : ∀ (n : Nat) (z1 : Int32) (z2 : Int32) (z3 : Int32) (z4 : Int32) (f : pd_M) (w0 : Int32) (r : Option Value) (h2 : ph_T), lp_X7_keptBy_5 n z1 z2 z3 z4 f = some (w0) → pr_G L 2 mt_X7_keptBy (65, [(3, .int w0)], [], hH f) r h2 → pr_G L 2 mt_X7_keptBy (5, [(0, .ref 39), (1, .int z1), (2, .int z2), (3, .int z3), (4, .int z4)], [], hH f) r h2 := by
  intro n
  induction n with
  | zero => intro z1 z2 z3 z4 f w0 r h2 e; cases e
  | succ n ih =>
    intro z1 z2 z3 z4 f w0 r h2 e K
    unfold lp_X7_keptBy_5 at e
    refine gs_iload rfl rfl ?_
    refine gs_aload_n rfl rfl ?_
    refine gs_get rfl (gd_r (b := 40) rfl rfl rfl) ?_
    refine gs_get rfl (gd_i rfl rfl) ?_
    refine gs_ge2 rfl (fun c1 => ?_) (fun c1 => ?_)
    · rw [if_pos c1] at e
      obtain rfl := inj1 e
      refine gs_drop [3] rfl ?_
      exact K
    · rw [if_neg c1] at e
      refine gs_aload_n rfl rfl ?_
      refine gs_get rfl (gd_r (b := 45) rfl rfl rfl) ?_
      refine gs_iload rfl rfl ?_
      by_cases hb2 : pa_in z4 20 = true
      case neg => rw [if_neg hb2] at e; cases e
      rw [if_pos hb2] at e
      refine gs_aald rfl (gd_aa (b := (48 + z4.toNatClampNeg)) rfl (by decide) rfl hb2 rfl (arr_rf_45 (lt_of_in hb2))) ?_
      refine gs_get rfl (gd_i (sh_of (arr_sh_45 (lt_of_in hb2)) (by decide)) rfl) ?_
      refine gs_iload_n rfl rfl ?_
      obtain ⟨y4, ev59, e⟩ := ob1_some e
      have KJ59 : pr_G L 2 mt_X7_keptBy (59, [(0, .ref 39), (1, .int z1), (2, .int z2), (3, .int y4), (4, .int z4)], [], hH f) r h2 := by
        obtain ⟨x12, hx12, e⟩ := pn_some e
        refine gs_iinc1 (x1 := x12) (c := 1) (lv' := [(4, .int x12), (0, .ref 39), (1, .int z1), (2, .int z2), (3, .int y4)]) rfl rfl (by decide) hx12 rfl ?_
        refine gs_goto rfl ?_
        refine gs_drop [1, 2, 3, 4, 0] rfl ?_
        exact ih z1 z2 y4 x12 f w0 _ _ e K
      have e := ev59
      clear ev59
      refine gs_ne2 rfl (fun c3 => ?_) (fun c3 => ?_)
      · rw [if_neg c3] at e
        obtain rfl := inj1 e
        refine gs_drop [0, 1, 2, 3, 4] rfl ?_
        exact KJ59
      · rw [if_pos c3] at e
        refine gs_aload_n rfl rfl ?_
        refine gs_get rfl (gd_r (b := 45) rfl rfl rfl) ?_
        refine gs_iload rfl rfl ?_
        by_cases hb5 : pa_in z4 20 = true
        case neg => rw [if_neg hb5] at e; cases e
        rw [if_pos hb5] at e
        refine gs_aald rfl (gd_aa (b := (48 + z4.toNatClampNeg)) rfl (by decide) rfl hb5 rfl (arr_rf_45 (lt_of_in hb5))) ?_
        refine gs_aload_n rfl rfl ?_
        refine gs_iload_n rfl rfl ?_
        refine gs_iload_n rfl rfl ?_
        obtain ⟨r6, ec7, e⟩ := ob1_some e
        refine gs_callvR (st := [.ref (48 + z4.toNatClampNeg)]) rfl (pr_C_le (by decide) (th_X7_editionOf L z1 z2 f r6 ec7)) rfl rfl rfl (by decide) rfl (Or.inr (by decide)) ?_
        obtain ⟨r8, ec9, e⟩ := ob1_some e
        refine gs_callsI (st := []) rfl (pr_C_le (by decide) (th_X8_firstBroken L (48 + z4.toNatClampNeg) r6 f r8 ec9)) rfl rfl rfl (by decide) ?_
        refine gs_ldc (x := (-1000000)) rfl (by decide) ?_
        refine gs_ne2 rfl (fun c10 => ?_) (fun c10 => ?_)
        · rw [if_neg c10] at e
          obtain rfl := inj1 e
          refine gs_drop [0, 1, 2, 3, 4] rfl ?_
          exact KJ59
        · rw [if_pos c10] at e
          refine gs_iload_n rfl rfl ?_
          refine gs_iconst (x := 1) rfl (by decide) ?_
          refine gs_iload rfl rfl ?_
          refine gs_ishl rfl ?_
          refine gs_ior rfl ?_
          obtain ⟨x11, hx11, e⟩ := pn_some e
          refine gs_topi hx11 ?_
          refine gs_istore_n (lv' := [(3, .int x11), (0, .ref 39), (1, .int z1), (2, .int z2), (4, .int z4)]) rfl rfl ?_
          obtain rfl := inj1 e
          refine gs_drop [1, 2, 3, 0, 4] rfl ?_
          exact KJ59
set_option maxRecDepth 100000 in
set_option maxHeartbeats 4000000 in
theorem th_X7_keptBy (L : Nat) (p1 : Int32) (p2 : Int32) (f : pd_M) (q : Int32) (e : fn_X7_keptBy p1 p2 f = some q) : pr_C L 3 50 [.ref 39, .int p1, .int p2] (hH f) (some (.int q)) (hH f) := by
  refine pr_C.of (G := mt_X7_keptBy) rfl rfl ?_
  show pr_G L 2 mt_X7_keptBy (0, [(0, .ref 39), (1, .int p1), (2, .int p2)], [], hH f) _ _
  unfold fn_X7_keptBy at e
  refine gs_iconst (x := 0) rfl (by decide) ?_
  refine gs_istore_n (lv' := [(3, .int 0), (0, .ref 39), (1, .int p1), (2, .int p2)]) rfl rfl ?_
  refine gs_iconst (x := 0) rfl (by decide) ?_
  refine gs_istore (lv' := [(4, .int 0), (3, .int 0), (0, .ref 39), (1, .int p1), (2, .int p2)]) rfl rfl ?_
  refine gs_drop [2, 3, 4, 1, 0] rfl ?_
  obtain ⟨y13, el14, e⟩ := ob1_some e
  refine tl_X7_keptBy_5 L 5000 p1 p2 0 0 f y13 _ _ el14 ?_
  refine gs_iload_n rfl rfl ?_
  obtain rfl := inj1 e
  exact gs_iret rfl rfl rfl rfl rfl
def fn_X7_sharesGiver (p1 : Int32) (p2 : Int32) (p3 : Int32) (f : pd_M) : Option (Int32) :=
  if pa_in p2 20 = true then
  if (f (48 + p2.toNatClampNeg) 2) = p1 then
  if pa_in p3 20 = true then
  if (f (48 + p3.toNatClampNeg) 2) = p1 then
  if pa_in p2 20 = true then
  if pa_in p3 20 = true then
  if ((f (48 + p2.toNatClampNeg) 7) &&& (f (48 + p3.toNatClampNeg) 7)) = 0 then
  some 0
  else
  some 1
  else none
  else none
  else
  some 0
  else none
  else
  some 0
  else none
set_option maxRecDepth 100000 in
set_option maxHeartbeats 4000000 in
theorem th_X7_sharesGiver (L : Nat) (p1 : Int32) (p2 : Int32) (p3 : Int32) (f : pd_M) (q : Int32) (e : fn_X7_sharesGiver p1 p2 p3 f = some q) : pr_C L 1 52 [.ref 39, .int p1, .int p2, .int p3] (hH f) (some (.int q)) (hH f) := by
  refine pr_C.of (G := mt_X7_sharesGiver) rfl rfl ?_
  show pr_G L 0 mt_X7_sharesGiver (0, [(0, .ref 39), (1, .int p1), (2, .int p2), (3, .int p3)], [], hH f) _ _
  unfold fn_X7_sharesGiver at e
  refine gs_aload_n rfl rfl ?_
  refine gs_get rfl (gd_r (b := 45) rfl rfl rfl) ?_
  refine gs_iload_n rfl rfl ?_
  by_cases hb1 : pa_in p2 20 = true
  case neg => rw [if_neg hb1] at e; cases e
  rw [if_pos hb1] at e
  refine gs_aald rfl (gd_aa (b := (48 + p2.toNatClampNeg)) rfl (by decide) rfl hb1 rfl (arr_rf_45 (lt_of_in hb1))) ?_
  refine gs_get rfl (gd_i (sh_of (arr_sh_45 (lt_of_in hb1)) (by decide)) rfl) ?_
  refine gs_iload_n rfl rfl ?_
  refine gs_ne2 rfl (fun c2 => ?_) (fun c2 => ?_)
  · rw [if_neg c2] at e
    refine gs_iconst (x := 0) rfl (by decide) ?_
    obtain rfl := inj1 e
    exact gs_iret rfl rfl (by decide) rfl rfl
  · rw [if_pos c2] at e
    refine gs_aload_n rfl rfl ?_
    refine gs_get rfl (gd_r (b := 45) rfl rfl rfl) ?_
    refine gs_iload_n rfl rfl ?_
    by_cases hb3 : pa_in p3 20 = true
    case neg => rw [if_neg hb3] at e; cases e
    rw [if_pos hb3] at e
    refine gs_aald rfl (gd_aa (b := (48 + p3.toNatClampNeg)) rfl (by decide) rfl hb3 rfl (arr_rf_45 (lt_of_in hb3))) ?_
    refine gs_get rfl (gd_i (sh_of (arr_sh_45 (lt_of_in hb3)) (by decide)) rfl) ?_
    refine gs_iload_n rfl rfl ?_
    refine gs_ne2 rfl (fun c4 => ?_) (fun c4 => ?_)
    · rw [if_neg c4] at e
      refine gs_iconst (x := 0) rfl (by decide) ?_
      obtain rfl := inj1 e
      exact gs_iret rfl rfl (by decide) rfl rfl
    · rw [if_pos c4] at e
      refine gs_aload_n rfl rfl ?_
      refine gs_get rfl (gd_r (b := 45) rfl rfl rfl) ?_
      refine gs_iload_n rfl rfl ?_
      by_cases hb5 : pa_in p2 20 = true
      case neg => rw [if_neg hb5] at e; cases e
      rw [if_pos hb5] at e
      refine gs_aald rfl (gd_aa (b := (48 + p2.toNatClampNeg)) rfl (by decide) rfl hb5 rfl (arr_rf_45 (lt_of_in hb5))) ?_
      refine gs_get rfl (gd_i (sh_of (arr_sh_45 (lt_of_in hb5)) (by decide)) rfl) ?_
      refine gs_aload_n rfl rfl ?_
      refine gs_get rfl (gd_r (b := 45) rfl rfl rfl) ?_
      refine gs_iload_n rfl rfl ?_
      by_cases hb6 : pa_in p3 20 = true
      case neg => rw [if_neg hb6] at e; cases e
      rw [if_pos hb6] at e
      refine gs_aald rfl (gd_aa (b := (48 + p3.toNatClampNeg)) rfl (by decide) rfl hb6 rfl (arr_rf_45 (lt_of_in hb6))) ?_
      refine gs_get rfl (gd_i (sh_of (arr_sh_45 (lt_of_in hb6)) (by decide)) rfl) ?_
      refine gs_iand rfl ?_
      refine gs_eq0 rfl (fun c7 => ?_) (fun c7 => ?_)
      · rw [if_pos c7] at e
        refine gs_iconst (x := 0) rfl (by decide) ?_
        obtain rfl := inj1 e
        exact gs_iret rfl rfl (by decide) rfl rfl
      · rw [if_neg c7] at e
        refine gs_iconst (x := 1) rfl (by decide) ?_
        refine gs_goto rfl ?_
        obtain rfl := inj1 e
        exact gs_iret rfl rfl (by decide) rfl rfl
def fn_X8_fieldOf (p1 : Int32) (p2 : Int32) : Int32 :=
  ((p1 >>> ((7 * p2) &&& 31)) &&& 127)
set_option maxRecDepth 100000 in
set_option maxHeartbeats 4000000 in
theorem th_X8_fieldOf (L : Nat) (p1 : Int32) (p2 : Int32) (f : pd_M) (q : Int32) (e : fn_X8_fieldOf p1 p2 = q) : pr_C L 1 95 [.int p1, .int p2] (hH f) (some (.int q)) (hH f) := by
  refine pr_C.of (G := mt_X8_fieldOf) rfl rfl ?_
  show pr_G L 0 mt_X8_fieldOf (0, [(0, .int p1), (1, .int p2)], [], hH f) _ _
  unfold fn_X8_fieldOf at e
  refine gs_iload_n rfl rfl ?_
  refine gs_bipush (x := 7) rfl (by decide) ?_
  refine gs_iload_n rfl rfl ?_
  refine gs_imul rfl ?_
  refine gs_ishr rfl ?_
  refine gs_bipush (x := 127) rfl (by decide) ?_
  refine gs_iand rfl ?_
  subst e
  exact gs_iret rfl rfl rfl rfl rfl
def fn_J6_bitCount_0f7a4 (p1 : Int32) : Int32 :=
  pn ((p1 - ((p1.toUInt32 >>> ((1 : Int32).toUInt32 &&& Int32.toUInt32 31)).toInt32 &&& 1431655765))) fun x1 =>
  pn (((x1 &&& 858993459) + ((x1.toUInt32 >>> ((2 : Int32).toUInt32 &&& Int32.toUInt32 31)).toInt32 &&& 858993459))) fun x2 =>
  pn (((x2 + (x2.toUInt32 >>> ((4 : Int32).toUInt32 &&& Int32.toUInt32 31)).toInt32) &&& 252645135)) fun x3 =>
  pn ((x3 + (x3.toUInt32 >>> ((8 : Int32).toUInt32 &&& Int32.toUInt32 31)).toInt32)) fun x4 =>
  pn ((x4 + (x4.toUInt32 >>> ((16 : Int32).toUInt32 &&& Int32.toUInt32 31)).toInt32)) fun x5 =>
  (x5 &&& 63)
set_option maxRecDepth 100000 in
set_option maxHeartbeats 4000000 in
theorem th_J6_bitCount_0f7a4 (L : Nat) (p1 : Int32) (f : pd_M) (q : Int32) (e : fn_J6_bitCount_0f7a4 p1 = q) : pr_C L 1 185 [.int p1] (hH f) (some (.int q)) (hH f) := by
  refine pr_C.of (G := mt_J6_bitCount_0f7a4) rfl rfl ?_
  show pr_G L 0 mt_J6_bitCount_0f7a4 (0, [(0, .int p1)], [], hH f) _ _
  unfold fn_J6_bitCount_0f7a4 at e
  refine gs_iload_n rfl rfl ?_
  refine gs_iload_n rfl rfl ?_
  refine gs_iconst (x := 1) rfl (by decide) ?_
  refine gs_iushr rfl ?_
  refine gs_ldc_w (x := 1431655765) rfl (by decide) ?_
  refine gs_iand rfl ?_
  refine gs_isub rfl ?_
  obtain ⟨x1, hx1, e⟩ := pn_some e
  refine gs_topi hx1 ?_
  refine gs_istore_n (lv' := [(0, .int x1)]) rfl rfl ?_
  refine gs_iload_n rfl rfl ?_
  refine gs_ldc_w (x := 858993459) rfl (by decide) ?_
  refine gs_iand rfl ?_
  refine gs_iload_n rfl rfl ?_
  refine gs_iconst (x := 2) rfl (by decide) ?_
  refine gs_iushr rfl ?_
  refine gs_ldc_w (x := 858993459) rfl (by decide) ?_
  refine gs_iand rfl ?_
  refine gs_iadd rfl ?_
  obtain ⟨x2, hx2, e⟩ := pn_some e
  refine gs_topi hx2 ?_
  refine gs_istore_n (lv' := [(0, .int x2)]) rfl rfl ?_
  refine gs_iload_n rfl rfl ?_
  refine gs_iload_n rfl rfl ?_
  refine gs_iconst (x := 4) rfl (by decide) ?_
  refine gs_iushr rfl ?_
  refine gs_iadd rfl ?_
  refine gs_ldc_w (x := 252645135) rfl (by decide) ?_
  refine gs_iand rfl ?_
  obtain ⟨x3, hx3, e⟩ := pn_some e
  refine gs_topi hx3 ?_
  refine gs_istore_n (lv' := [(0, .int x3)]) rfl rfl ?_
  refine gs_iload_n rfl rfl ?_
  refine gs_iload_n rfl rfl ?_
  refine gs_bipush (x := 8) rfl (by decide) ?_
  refine gs_iushr rfl ?_
  refine gs_iadd rfl ?_
  obtain ⟨x4, hx4, e⟩ := pn_some e
  refine gs_topi hx4 ?_
  refine gs_istore_n (lv' := [(0, .int x4)]) rfl rfl ?_
  refine gs_iload_n rfl rfl ?_
  refine gs_iload_n rfl rfl ?_
  refine gs_bipush (x := 16) rfl (by decide) ?_
  refine gs_iushr rfl ?_
  refine gs_iadd rfl ?_
  obtain ⟨x5, hx5, e⟩ := pn_some e
  refine gs_topi hx5 ?_
  refine gs_istore_n (lv' := [(0, .int x5)]) rfl rfl ?_
  refine gs_iload_n rfl rfl ?_
  refine gs_bipush (x := 63) rfl (by decide) ?_
  refine gs_iand rfl ?_
  subst e
  exact gs_iret rfl rfl rfl rfl rfl
def lp_X8_countGiven_4 : Nat → Int32 → Int32 → Int32 → pd_M → Option (Int32)
  | 0, _, _, _, _ => none
  | n + 1, z0, z1, z2, f =>
    if 4 ≤ z2 then
    some (z1)
    else
    pn ((z1 * (fn_J6_bitCount_0f7a4 (fn_X8_fieldOf z0 z2)))) fun x2 =>
    pn (z2 + 1) fun x3 =>
    lp_X8_countGiven_4 n z0 x2 x3 f
def fn_X8_countGiven (p1 : Int32) (f : pd_M) : Option (Int32) :=
  ob1 (lp_X8_countGiven_4 5000 p1 1 0 f) fun y4 =>
  some y4
set_option maxRecDepth 100000 in
set_option maxHeartbeats 4000000 in
theorem tl_X8_countGiven_4 (L : Nat) : ∀ (n : Nat) (z0 : Int32) (z1 : Int32) (z2 : Int32) (f : pd_M) (w0 : Int32) (r : Option Value) (h2 : ph_T), lp_X8_countGiven_4 n z0 z1 z2 f = some (w0) → pr_G L 1 mt_X8_countGiven (26, [(1, .int w0)], [], hH f) r h2 → pr_G L 1 mt_X8_countGiven (4, [(0, .int z0), (1, .int z1), (2, .int z2)], [], hH f) r h2 := by
  intro n
  induction n with
  | zero => intro z0 z1 z2 f w0 r h2 e; cases e
  | succ n ih =>
    intro z0 z1 z2 f w0 r h2 e K
    unfold lp_X8_countGiven_4 at e
    refine gs_iload_n rfl rfl ?_
    refine gs_iconst (x := 4) rfl (by decide) ?_
    refine gs_ge2 rfl (fun c1 => ?_) (fun c1 => ?_)
    · rw [if_pos c1] at e
      obtain rfl := inj1 e
      refine gs_drop [1] rfl ?_
      exact K
    · rw [if_neg c1] at e
      refine gs_iload_n rfl rfl ?_
      refine gs_iload_n rfl rfl ?_
      refine gs_iload_n rfl rfl ?_
      refine gs_callsI (st := [.int z1]) rfl (pr_C_le (by decide) (th_X8_fieldOf L z0 z2 f _ rfl)) rfl rfl rfl (by decide) ?_
      refine gs_callsI (st := [.int z1]) rfl (pr_C_le (by decide) (th_J6_bitCount_0f7a4 L (fn_X8_fieldOf z0 z2) f _ rfl)) rfl rfl rfl (by decide) ?_
      refine gs_imul rfl ?_
      obtain ⟨x2, hx2, e⟩ := pn_some e
      refine gs_topi hx2 ?_
      refine gs_istore_n (lv' := [(1, .int x2), (0, .int z0), (2, .int z2)]) rfl rfl ?_
      obtain ⟨x3, hx3, e⟩ := pn_some e
      refine gs_iinc1 (x1 := x3) (c := 1) (lv' := [(2, .int x3), (1, .int x2), (0, .int z0)]) rfl rfl (by decide) hx3 rfl ?_
      refine gs_goto rfl ?_
      refine gs_drop [2, 1, 0] rfl ?_
      exact ih z0 x2 x3 f w0 _ _ e K
set_option maxRecDepth 100000 in
set_option maxHeartbeats 4000000 in
theorem th_X8_countGiven (L : Nat) (p1 : Int32) (f : pd_M) (q : Int32) (e : fn_X8_countGiven p1 f = some q) : pr_C L 2 97 [.int p1] (hH f) (some (.int q)) (hH f) := by
  refine pr_C.of (G := mt_X8_countGiven) rfl rfl ?_
  show pr_G L 1 mt_X8_countGiven (0, [(0, .int p1)], [], hH f) _ _
  unfold fn_X8_countGiven at e
  refine gs_iconst (x := 1) rfl (by decide) ?_
  refine gs_istore_n (lv' := [(1, .int 1), (0, .int p1)]) rfl rfl ?_
  refine gs_iconst (x := 0) rfl (by decide) ?_
  refine gs_istore_n (lv' := [(2, .int 0), (1, .int 1), (0, .int p1)]) rfl rfl ?_
  refine gs_drop [2, 1, 0] rfl ?_
  obtain ⟨y4, el5, e⟩ := ob1_some e
  refine tl_X8_countGiven_4 L 5000 p1 1 0 f y4 _ _ el5 ?_
  refine gs_iload_n rfl rfl ?_
  obtain rfl := inj1 e
  exact gs_iret rfl rfl rfl rfl rfl
def fn_X8_hasNone (p1 : Int32) (f : pd_M) : Option (Int32) :=
  if (p1 &&& 268435456) = 0 then
  ob1 (fn_X8_countGiven p1 f) fun r2 =>
  if r2 = 0 then
  some 1
  else
  some 0
  else
  some 0
set_option maxRecDepth 100000 in
set_option maxHeartbeats 4000000 in
theorem th_X8_hasNone (L : Nat) (p1 : Int32) (f : pd_M) (q : Int32) (e : fn_X8_hasNone p1 f = some q) : pr_C L 3 100 [.int p1] (hH f) (some (.int q)) (hH f) := by
  refine pr_C.of (G := mt_X8_hasNone) rfl rfl ?_
  show pr_G L 2 mt_X8_hasNone (0, [(0, .int p1)], [], hH f) _ _
  unfold fn_X8_hasNone at e
  refine gs_iload_n rfl rfl ?_
  refine gs_ldc (x := 268435456) rfl (by decide) ?_
  refine gs_iand rfl ?_
  refine gs_ne0 rfl (fun c1 => ?_) (fun c1 => ?_)
  · rw [if_neg c1] at e
    refine gs_iconst (x := 0) rfl (by decide) ?_
    obtain rfl := inj1 e
    exact gs_iret rfl rfl (by decide) rfl rfl
  · rw [if_pos c1] at e
    refine gs_iload_n rfl rfl ?_
    obtain ⟨r2, ec3, e⟩ := ob1_some e
    refine gs_callsI (st := []) rfl (pr_C_le (by decide) (th_X8_countGiven L p1 f r2 ec3)) rfl rfl rfl (by decide) ?_
    refine gs_ne0 rfl (fun c4 => ?_) (fun c4 => ?_)
    · rw [if_neg c4] at e
      refine gs_iconst (x := 0) rfl (by decide) ?_
      obtain rfl := inj1 e
      exact gs_iret rfl rfl (by decide) rfl rfl
    · rw [if_pos c4] at e
      refine gs_iconst (x := 1) rfl (by decide) ?_
      refine gs_goto rfl ?_
      obtain rfl := inj1 e
      exact gs_iret rfl rfl (by decide) rfl rfl
def lp_X7_leastThird_44 : Nat → Int32 → Int32 → Int32 → Int32 → pd_M → Option ((Int32) ⊕ (Unit))
  | 0, _, _, _, _, _ => none
  | n + 1, z1, z3, z4, z5, f =>
    if z1 ≤ z5 then
    some (.inr ())
    else
    if pa_in z5 20 = true then
    if pa_in z1 20 = true then
    if (f (48 + z5.toNatClampNeg) 2) = (f (48 + z1.toNatClampNeg) 2) then
    if pa_in z5 20 = true then
    if (z3 &&& (f (48 + z5.toNatClampNeg) 7)) = 0 then
    pn (z5 + 1) fun x14 =>
    lp_X7_leastThird_44 n z1 z3 z4 x14 f
    else
    if pa_in z5 20 = true then
    ob1 (fn_X8_hasNone (z4 &&& (f (48 + z5.toNatClampNeg) 8)) f) fun r16 =>
    if r16 = 0 then
    pn (z5 + 1) fun x19 =>
    lp_X7_leastThird_44 n z1 z3 z4 x19 f
    else
    some (.inl z5)
    else none
    else none
    else
    pn (z5 + 1) fun x11 =>
    lp_X7_leastThird_44 n z1 z3 z4 x11 f
    else none
    else none
def fn_X7_leastThird (p1 : Int32) (p2 : Int32) (f : pd_M) : Option (Int32) :=
  if pa_in p1 20 = true then
  if pa_in p2 20 = true then
  pn (((f (48 + p1.toNatClampNeg) 7) &&& (f (48 + p2.toNatClampNeg) 7))) fun x3 =>
  if pa_in p1 20 = true then
  if pa_in p2 20 = true then
  pn (((f (48 + p1.toNatClampNeg) 8) &&& (f (48 + p2.toNatClampNeg) 8))) fun x6 =>
  os0 (lp_X7_leastThird_44 5000 p1 x3 x6 0 f) (fun q => some q) (
  some (-1000000))
  else none
  else none
  else none
  else none
set_option maxRecDepth 100000 in
set_option maxHeartbeats 4000000 in
theorem tl_X7_leastThird_44 (L : Nat) : ∀ (n : Nat) (z1 : Int32) (z3 : Int32) (z4 : Int32) (z5 : Int32) (f : pd_M) (o : (Int32) ⊕ (Unit)), lp_X7_leastThird_44 n z1 z3 z4 z5 f = some o → (∀ q, o = .inl q → pr_G L 3 mt_X7_leastThird (44, [(0, .ref 39), (1, .int z1), (3, .int z3), (4, .int z4), (5, .int z5)], [], hH f) (some (.int q)) (hH f)) ∧ (∀ (_ : Unit), o = .inr () → ∀ (r : Option Value) (h2 : ph_T), pr_G L 3 mt_X7_leastThird (115, [], [], hH f) r h2 → pr_G L 3 mt_X7_leastThird (44, [(0, .ref 39), (1, .int z1), (3, .int z3), (4, .int z4), (5, .int z5)], [], hH f) r h2) := by
  intro n
  induction n with
  | zero => intro z1 z3 z4 z5 f o e; cases e
  | succ n ih =>
    intro z1 z3 z4 z5 f o e
    refine ⟨fun q hq => ?_, fun _ hq r h2 K => ?_⟩
    · subst hq
      unfold lp_X7_leastThird_44 at e
      refine gs_iload rfl rfl ?_
      refine gs_iload_n rfl rfl ?_
      refine gs_ge2 rfl (fun c7 => ?_) (fun c7 => ?_)
      · rw [if_pos c7] at e
        cases e
      · rw [if_neg c7] at e
        refine gs_aload_n rfl rfl ?_
        refine gs_get rfl (gd_r (b := 45) rfl rfl rfl) ?_
        refine gs_iload rfl rfl ?_
        by_cases hb8 : pa_in z5 20 = true
        case neg => rw [if_neg hb8] at e; cases e
        rw [if_pos hb8] at e
        refine gs_aald rfl (gd_aa (b := (48 + z5.toNatClampNeg)) rfl (by decide) rfl hb8 rfl (arr_rf_45 (lt_of_in hb8))) ?_
        refine gs_get rfl (gd_i (sh_of (arr_sh_45 (lt_of_in hb8)) (by decide)) rfl) ?_
        refine gs_aload_n rfl rfl ?_
        refine gs_get rfl (gd_r (b := 45) rfl rfl rfl) ?_
        refine gs_iload_n rfl rfl ?_
        by_cases hb9 : pa_in z1 20 = true
        case neg => rw [if_neg hb9] at e; cases e
        rw [if_pos hb9] at e
        refine gs_aald rfl (gd_aa (b := (48 + z1.toNatClampNeg)) rfl (by decide) rfl hb9 rfl (arr_rf_45 (lt_of_in hb9))) ?_
        refine gs_get rfl (gd_i (sh_of (arr_sh_45 (lt_of_in hb9)) (by decide)) rfl) ?_
        refine gs_ne2 rfl (fun c10 => ?_) (fun c10 => ?_)
        · rw [if_neg c10] at e
          obtain ⟨x11, hx11, e⟩ := pn_some e
          refine gs_iinc1 (x1 := x11) (c := 1) (lv' := [(5, .int x11), (0, .ref 39), (1, .int z1), (3, .int z3), (4, .int z4)]) rfl rfl (by decide) hx11 rfl ?_
          refine gs_goto rfl ?_
          refine gs_drop [1, 2, 3, 4, 0] rfl ?_
          exact (ih z1 z3 z4 x11 f _ e).1 _ rfl
        · rw [if_pos c10] at e
          refine gs_iload_n rfl rfl ?_
          refine gs_aload_n rfl rfl ?_
          refine gs_get rfl (gd_r (b := 45) rfl rfl rfl) ?_
          refine gs_iload rfl rfl ?_
          by_cases hb12 : pa_in z5 20 = true
          case neg => rw [if_neg hb12] at e; cases e
          rw [if_pos hb12] at e
          refine gs_aald rfl (gd_aa (b := (48 + z5.toNatClampNeg)) rfl (by decide) rfl hb12 rfl (arr_rf_45 (lt_of_in hb12))) ?_
          refine gs_get rfl (gd_i (sh_of (arr_sh_45 (lt_of_in hb12)) (by decide)) rfl) ?_
          refine gs_iand rfl ?_
          refine gs_eq0 rfl (fun c13 => ?_) (fun c13 => ?_)
          · rw [if_pos c13] at e
            obtain ⟨x14, hx14, e⟩ := pn_some e
            refine gs_iinc1 (x1 := x14) (c := 1) (lv' := [(5, .int x14), (0, .ref 39), (1, .int z1), (3, .int z3), (4, .int z4)]) rfl rfl (by decide) hx14 rfl ?_
            refine gs_goto rfl ?_
            refine gs_drop [1, 2, 3, 4, 0] rfl ?_
            exact (ih z1 z3 z4 x14 f _ e).1 _ rfl
          · rw [if_neg c13] at e
            refine gs_iload rfl rfl ?_
            refine gs_aload_n rfl rfl ?_
            refine gs_get rfl (gd_r (b := 45) rfl rfl rfl) ?_
            refine gs_iload rfl rfl ?_
            by_cases hb15 : pa_in z5 20 = true
            case neg => rw [if_neg hb15] at e; cases e
            rw [if_pos hb15] at e
            refine gs_aald rfl (gd_aa (b := (48 + z5.toNatClampNeg)) rfl (by decide) rfl hb15 rfl (arr_rf_45 (lt_of_in hb15))) ?_
            refine gs_get rfl (gd_i (sh_of (arr_sh_45 (lt_of_in hb15)) (by decide)) rfl) ?_
            refine gs_iand rfl ?_
            obtain ⟨r16, ec17, e⟩ := ob1_some e
            refine gs_callsI (st := []) rfl (pr_C_le (by decide) (th_X8_hasNone L (z4 &&& (f (48 + z5.toNatClampNeg) 8)) f r16 ec17)) rfl rfl rfl (by decide) ?_
            refine gs_eq0 rfl (fun c18 => ?_) (fun c18 => ?_)
            · rw [if_pos c18] at e
              obtain ⟨x19, hx19, e⟩ := pn_some e
              refine gs_iinc1 (x1 := x19) (c := 1) (lv' := [(5, .int x19), (0, .ref 39), (1, .int z1), (3, .int z3), (4, .int z4)]) rfl rfl (by decide) hx19 rfl ?_
              refine gs_goto rfl ?_
              refine gs_drop [1, 2, 3, 4, 0] rfl ?_
              exact (ih z1 z3 z4 x19 f _ e).1 _ rfl
            · rw [if_neg c18] at e
              refine gs_iload rfl rfl ?_
              obtain rfl := injl e
              exact gs_iret rfl rfl rfl rfl rfl
    · subst hq
      unfold lp_X7_leastThird_44 at e
      refine gs_iload rfl rfl ?_
      refine gs_iload_n rfl rfl ?_
      refine gs_ge2 rfl (fun c7 => ?_) (fun c7 => ?_)
      · rw [if_pos c7] at e
        refine gs_drop [] rfl ?_
        exact K
      · rw [if_neg c7] at e
        refine gs_aload_n rfl rfl ?_
        refine gs_get rfl (gd_r (b := 45) rfl rfl rfl) ?_
        refine gs_iload rfl rfl ?_
        by_cases hb8 : pa_in z5 20 = true
        case neg => rw [if_neg hb8] at e; cases e
        rw [if_pos hb8] at e
        refine gs_aald rfl (gd_aa (b := (48 + z5.toNatClampNeg)) rfl (by decide) rfl hb8 rfl (arr_rf_45 (lt_of_in hb8))) ?_
        refine gs_get rfl (gd_i (sh_of (arr_sh_45 (lt_of_in hb8)) (by decide)) rfl) ?_
        refine gs_aload_n rfl rfl ?_
        refine gs_get rfl (gd_r (b := 45) rfl rfl rfl) ?_
        refine gs_iload_n rfl rfl ?_
        by_cases hb9 : pa_in z1 20 = true
        case neg => rw [if_neg hb9] at e; cases e
        rw [if_pos hb9] at e
        refine gs_aald rfl (gd_aa (b := (48 + z1.toNatClampNeg)) rfl (by decide) rfl hb9 rfl (arr_rf_45 (lt_of_in hb9))) ?_
        refine gs_get rfl (gd_i (sh_of (arr_sh_45 (lt_of_in hb9)) (by decide)) rfl) ?_
        refine gs_ne2 rfl (fun c10 => ?_) (fun c10 => ?_)
        · rw [if_neg c10] at e
          obtain ⟨x11, hx11, e⟩ := pn_some e
          refine gs_iinc1 (x1 := x11) (c := 1) (lv' := [(5, .int x11), (0, .ref 39), (1, .int z1), (3, .int z3), (4, .int z4)]) rfl rfl (by decide) hx11 rfl ?_
          refine gs_goto rfl ?_
          refine gs_drop [1, 2, 3, 4, 0] rfl ?_
          exact (ih z1 z3 z4 x11 f _ e).2 () rfl _ _ K
        · rw [if_pos c10] at e
          refine gs_iload_n rfl rfl ?_
          refine gs_aload_n rfl rfl ?_
          refine gs_get rfl (gd_r (b := 45) rfl rfl rfl) ?_
          refine gs_iload rfl rfl ?_
          by_cases hb12 : pa_in z5 20 = true
          case neg => rw [if_neg hb12] at e; cases e
          rw [if_pos hb12] at e
          refine gs_aald rfl (gd_aa (b := (48 + z5.toNatClampNeg)) rfl (by decide) rfl hb12 rfl (arr_rf_45 (lt_of_in hb12))) ?_
          refine gs_get rfl (gd_i (sh_of (arr_sh_45 (lt_of_in hb12)) (by decide)) rfl) ?_
          refine gs_iand rfl ?_
          refine gs_eq0 rfl (fun c13 => ?_) (fun c13 => ?_)
          · rw [if_pos c13] at e
            obtain ⟨x14, hx14, e⟩ := pn_some e
            refine gs_iinc1 (x1 := x14) (c := 1) (lv' := [(5, .int x14), (0, .ref 39), (1, .int z1), (3, .int z3), (4, .int z4)]) rfl rfl (by decide) hx14 rfl ?_
            refine gs_goto rfl ?_
            refine gs_drop [1, 2, 3, 4, 0] rfl ?_
            exact (ih z1 z3 z4 x14 f _ e).2 () rfl _ _ K
          · rw [if_neg c13] at e
            refine gs_iload rfl rfl ?_
            refine gs_aload_n rfl rfl ?_
            refine gs_get rfl (gd_r (b := 45) rfl rfl rfl) ?_
            refine gs_iload rfl rfl ?_
            by_cases hb15 : pa_in z5 20 = true
            case neg => rw [if_neg hb15] at e; cases e
            rw [if_pos hb15] at e
            refine gs_aald rfl (gd_aa (b := (48 + z5.toNatClampNeg)) rfl (by decide) rfl hb15 rfl (arr_rf_45 (lt_of_in hb15))) ?_
            refine gs_get rfl (gd_i (sh_of (arr_sh_45 (lt_of_in hb15)) (by decide)) rfl) ?_
            refine gs_iand rfl ?_
            obtain ⟨r16, ec17, e⟩ := ob1_some e
            refine gs_callsI (st := []) rfl (pr_C_le (by decide) (th_X8_hasNone L (z4 &&& (f (48 + z5.toNatClampNeg) 8)) f r16 ec17)) rfl rfl rfl (by decide) ?_
            refine gs_eq0 rfl (fun c18 => ?_) (fun c18 => ?_)
            · rw [if_pos c18] at e
              obtain ⟨x19, hx19, e⟩ := pn_some e
              refine gs_iinc1 (x1 := x19) (c := 1) (lv' := [(5, .int x19), (0, .ref 39), (1, .int z1), (3, .int z3), (4, .int z4)]) rfl rfl (by decide) hx19 rfl ?_
              refine gs_goto rfl ?_
              refine gs_drop [1, 2, 3, 4, 0] rfl ?_
              exact (ih z1 z3 z4 x19 f _ e).2 () rfl _ _ K
            · rw [if_neg c18] at e
              refine gs_iload rfl rfl ?_
              cases e
set_option maxRecDepth 100000 in
set_option maxHeartbeats 4000000 in
theorem th_X7_leastThird (L : Nat) (p1 : Int32) (p2 : Int32) (f : pd_M) (q : Int32) (e : fn_X7_leastThird p1 p2 f = some q) : pr_C L 4 53 [.ref 39, .int p1, .int p2] (hH f) (some (.int q)) (hH f) := by
  refine pr_C.of (G := mt_X7_leastThird) rfl rfl ?_
  show pr_G L 3 mt_X7_leastThird (0, [(0, .ref 39), (1, .int p1), (2, .int p2)], [], hH f) _ _
  unfold fn_X7_leastThird at e
  refine gs_aload_n rfl rfl ?_
  refine gs_get rfl (gd_r (b := 45) rfl rfl rfl) ?_
  refine gs_iload_n rfl rfl ?_
  by_cases hb1 : pa_in p1 20 = true
  case neg => rw [if_neg hb1] at e; cases e
  rw [if_pos hb1] at e
  refine gs_aald rfl (gd_aa (b := (48 + p1.toNatClampNeg)) rfl (by decide) rfl hb1 rfl (arr_rf_45 (lt_of_in hb1))) ?_
  refine gs_get rfl (gd_i (sh_of (arr_sh_45 (lt_of_in hb1)) (by decide)) rfl) ?_
  refine gs_aload_n rfl rfl ?_
  refine gs_get rfl (gd_r (b := 45) rfl rfl rfl) ?_
  refine gs_iload_n rfl rfl ?_
  by_cases hb2 : pa_in p2 20 = true
  case neg => rw [if_neg hb2] at e; cases e
  rw [if_pos hb2] at e
  refine gs_aald rfl (gd_aa (b := (48 + p2.toNatClampNeg)) rfl (by decide) rfl hb2 rfl (arr_rf_45 (lt_of_in hb2))) ?_
  refine gs_get rfl (gd_i (sh_of (arr_sh_45 (lt_of_in hb2)) (by decide)) rfl) ?_
  refine gs_iand rfl ?_
  obtain ⟨x3, hx3, e⟩ := pn_some e
  refine gs_topi hx3 ?_
  refine gs_istore_n (lv' := [(3, .int x3), (0, .ref 39), (1, .int p1), (2, .int p2)]) rfl rfl ?_
  refine gs_aload_n rfl rfl ?_
  refine gs_get rfl (gd_r (b := 45) rfl rfl rfl) ?_
  refine gs_iload_n rfl rfl ?_
  by_cases hb4 : pa_in p1 20 = true
  case neg => rw [if_neg hb4] at e; cases e
  rw [if_pos hb4] at e
  refine gs_aald rfl (gd_aa (b := (48 + p1.toNatClampNeg)) rfl (by decide) rfl hb4 rfl (arr_rf_45 (lt_of_in hb4))) ?_
  refine gs_get rfl (gd_i (sh_of (arr_sh_45 (lt_of_in hb4)) (by decide)) rfl) ?_
  refine gs_aload_n rfl rfl ?_
  refine gs_get rfl (gd_r (b := 45) rfl rfl rfl) ?_
  refine gs_iload_n rfl rfl ?_
  by_cases hb5 : pa_in p2 20 = true
  case neg => rw [if_neg hb5] at e; cases e
  rw [if_pos hb5] at e
  refine gs_aald rfl (gd_aa (b := (48 + p2.toNatClampNeg)) rfl (by decide) rfl hb5 rfl (arr_rf_45 (lt_of_in hb5))) ?_
  refine gs_get rfl (gd_i (sh_of (arr_sh_45 (lt_of_in hb5)) (by decide)) rfl) ?_
  refine gs_iand rfl ?_
  obtain ⟨x6, hx6, e⟩ := pn_some e
  refine gs_topi hx6 ?_
  refine gs_istore (lv' := [(4, .int x6), (3, .int x3), (0, .ref 39), (1, .int p1), (2, .int p2)]) rfl rfl ?_
  refine gs_iconst (x := 0) rfl (by decide) ?_
  refine gs_istore (lv' := [(5, .int 0), (4, .int x6), (3, .int x3), (0, .ref 39), (1, .int p1), (2, .int p2)]) rfl rfl ?_
  refine gs_drop [3, 4, 2, 1, 0] rfl ?_
  rcases os0_some e with ⟨q, el20, e⟩ | ⟨el20, e⟩
  · skip
    obtain rfl := inj1 e
    exact (tl_X7_leastThird_44 L 5000 p1 x3 x6 0 f _ el20).1 _ rfl
  · refine (tl_X7_leastThird_44 L 5000 p1 x3 x6 0 f _ el20).2 () rfl _ _ ?_
    refine gs_ldc (x := (-1000000)) rfl (by decide) ?_
    obtain rfl := inj1 e
    exact gs_iret rfl rfl rfl rfl rfl
def lp_X7_leastQuarrel_15 : Nat → Int32 → Int32 → Int32 → pd_M → Option ((Int32) ⊕ (Unit))
  | 0, _, _, _, _ => none
  | n + 1, z1, z2, z3, f =>
    if z2 ≤ z3 then
    some (.inr ())
    else
    ob1 (fn_X7_sharesGiver z1 z3 z2 f) fun r3 =>
    if r3 = 0 then
    pn (z3 + 1) fun x6 =>
    lp_X7_leastQuarrel_15 n z1 z2 x6 f
    else
    if pa_in z3 20 = true then
    if pa_in z2 20 = true then
    ob1 (fn_X8_hasNone ((f (48 + z3.toNatClampNeg) 8) &&& (f (48 + z2.toNatClampNeg) 8)) f) fun r9 =>
    if r9 = 0 then
    pn (z3 + 1) fun x12 =>
    lp_X7_leastQuarrel_15 n z1 z2 x12 f
    else
    some (.inl (((1 : Int32) <<< (z3 &&& 31)) ||| ((1 : Int32) <<< (z2 &&& 31))))
    else none
    else none
def lp_X7_leastQuarrel_2 : Nat → Int32 → Int32 → pd_M → Option ((Int32) ⊕ (Unit))
  | 0, _, _, _ => none
  | n + 1, z1, z2, f =>
    if (f 40 4) ≤ z2 then
    some (.inr ())
    else
    os0 (lp_X7_leastQuarrel_15 5000 z1 z2 0 f) (fun q => some (.inl q)) (
    pn (z2 + 1) fun x13 =>
    lp_X7_leastQuarrel_2 n z1 x13 f)
def lp_X7_leastQuarrel_90 : Nat → Int32 → Int32 → Int32 → pd_M → Option ((Int32) ⊕ (Unit))
  | 0, _, _, _, _ => none
  | n + 1, z1, z2, z3, f =>
    if z2 ≤ z3 then
    some (.inr ())
    else
    ob1 (fn_X7_sharesGiver z1 z3 z2 f) fun r17 =>
    ob1 (if r17 = 0 then
    some ((-1000000))
    else
    ob1 (fn_X7_leastThird z3 z2 f) fun r21 =>
    some (r21)) fun (v20 : Int32) =>
    if v20 = (-1000000) then
    pn (z3 + 1) fun x24 =>
    lp_X7_leastQuarrel_90 n z1 z2 x24 f
    else
    some (.inl ((((1 : Int32) <<< (v20 &&& 31)) ||| ((1 : Int32) <<< (z3 &&& 31))) ||| ((1 : Int32) <<< (z2 &&& 31))))
def lp_X7_leastQuarrel_77 : Nat → Int32 → Int32 → pd_M → Option ((Int32) ⊕ (Unit))
  | 0, _, _, _ => none
  | n + 1, z1, z2, f =>
    if (f 40 4) ≤ z2 then
    some (.inr ())
    else
    os0 (lp_X7_leastQuarrel_90 5000 z1 z2 1 f) (fun q => some (.inl q)) (
    pn (z2 + 1) fun x25 =>
    lp_X7_leastQuarrel_77 n z1 x25 f)
def fn_X7_leastQuarrel (p1 : Int32) (f : pd_M) : Option (Int32) :=
  os0 (lp_X7_leastQuarrel_2 5000 p1 1 f) (fun q => some q) (
  os0 (lp_X7_leastQuarrel_77 5000 p1 2 f) (fun q => some q) (
  some 0))
set_option maxRecDepth 100000 in
set_option maxHeartbeats 4000000 in
theorem tl_X7_leastQuarrel_15 (L : Nat) : ∀ (n : Nat) (z1 : Int32) (z2 : Int32) (z3 : Int32) (f : pd_M) (o : (Int32) ⊕ (Unit)), lp_X7_leastQuarrel_15 n z1 z2 z3 f = some o → (∀ q, o = .inl q → pr_G L 4 mt_X7_leastQuarrel (15, [(0, .ref 39), (1, .int z1), (2, .int z2), (3, .int z3)], [], hH f) (some (.int q)) (hH f)) ∧ (∀ (_ : Unit), o = .inr () → ∀ (r : Option Value) (h2 : ph_T), pr_G L 4 mt_X7_leastQuarrel (69, [(0, .ref 39), (1, .int z1), (2, .int z2)], [], hH f) r h2 → pr_G L 4 mt_X7_leastQuarrel (15, [(0, .ref 39), (1, .int z1), (2, .int z2), (3, .int z3)], [], hH f) r h2) := by
  intro n
  induction n with
  | zero => intro z1 z2 z3 f o e; cases e
  | succ n ih =>
    intro z1 z2 z3 f o e
    refine ⟨fun q hq => ?_, fun _ hq r h2 K => ?_⟩
    · subst hq
      unfold lp_X7_leastQuarrel_15 at e
      refine gs_iload_n rfl rfl ?_
      refine gs_iload_n rfl rfl ?_
      refine gs_ge2 rfl (fun c2 => ?_) (fun c2 => ?_)
      · rw [if_pos c2] at e
        cases e
      · rw [if_neg c2] at e
        refine gs_aload_n rfl rfl ?_
        refine gs_iload_n rfl rfl ?_
        refine gs_iload_n rfl rfl ?_
        refine gs_iload_n rfl rfl ?_
        obtain ⟨r3, ec4, e⟩ := ob1_some e
        refine gs_callvI (st := []) rfl (pr_C_le (by decide) (th_X7_sharesGiver L z1 z3 z2 f r3 ec4)) rfl rfl rfl (by decide) rfl (Or.inr (by decide)) ?_
        refine gs_eq0 rfl (fun c5 => ?_) (fun c5 => ?_)
        · rw [if_pos c5] at e
          obtain ⟨x6, hx6, e⟩ := pn_some e
          refine gs_iinc1 (x1 := x6) (c := 1) (lv' := [(3, .int x6), (0, .ref 39), (1, .int z1), (2, .int z2)]) rfl rfl (by decide) hx6 rfl ?_
          refine gs_goto rfl ?_
          refine gs_drop [1, 2, 3, 0] rfl ?_
          exact (ih z1 z2 x6 f _ e).1 _ rfl
        · rw [if_neg c5] at e
          refine gs_aload_n rfl rfl ?_
          refine gs_get rfl (gd_r (b := 45) rfl rfl rfl) ?_
          refine gs_iload_n rfl rfl ?_
          by_cases hb7 : pa_in z3 20 = true
          case neg => rw [if_neg hb7] at e; cases e
          rw [if_pos hb7] at e
          refine gs_aald rfl (gd_aa (b := (48 + z3.toNatClampNeg)) rfl (by decide) rfl hb7 rfl (arr_rf_45 (lt_of_in hb7))) ?_
          refine gs_get rfl (gd_i (sh_of (arr_sh_45 (lt_of_in hb7)) (by decide)) rfl) ?_
          refine gs_aload_n rfl rfl ?_
          refine gs_get rfl (gd_r (b := 45) rfl rfl rfl) ?_
          refine gs_iload_n rfl rfl ?_
          by_cases hb8 : pa_in z2 20 = true
          case neg => rw [if_neg hb8] at e; cases e
          rw [if_pos hb8] at e
          refine gs_aald rfl (gd_aa (b := (48 + z2.toNatClampNeg)) rfl (by decide) rfl hb8 rfl (arr_rf_45 (lt_of_in hb8))) ?_
          refine gs_get rfl (gd_i (sh_of (arr_sh_45 (lt_of_in hb8)) (by decide)) rfl) ?_
          refine gs_iand rfl ?_
          obtain ⟨r9, ec10, e⟩ := ob1_some e
          refine gs_callsI (st := []) rfl (pr_C_le (by decide) (th_X8_hasNone L ((f (48 + z3.toNatClampNeg) 8) &&& (f (48 + z2.toNatClampNeg) 8)) f r9 ec10)) rfl rfl rfl (by decide) ?_
          refine gs_eq0 rfl (fun c11 => ?_) (fun c11 => ?_)
          · rw [if_pos c11] at e
            obtain ⟨x12, hx12, e⟩ := pn_some e
            refine gs_iinc1 (x1 := x12) (c := 1) (lv' := [(3, .int x12), (0, .ref 39), (1, .int z1), (2, .int z2)]) rfl rfl (by decide) hx12 rfl ?_
            refine gs_goto rfl ?_
            refine gs_drop [1, 2, 3, 0] rfl ?_
            exact (ih z1 z2 x12 f _ e).1 _ rfl
          · rw [if_neg c11] at e
            refine gs_iconst (x := 1) rfl (by decide) ?_
            refine gs_iload_n rfl rfl ?_
            refine gs_ishl rfl ?_
            refine gs_iconst (x := 1) rfl (by decide) ?_
            refine gs_iload_n rfl rfl ?_
            refine gs_ishl rfl ?_
            refine gs_ior rfl ?_
            obtain rfl := injl e
            exact gs_iret rfl rfl rfl rfl rfl
    · subst hq
      unfold lp_X7_leastQuarrel_15 at e
      refine gs_iload_n rfl rfl ?_
      refine gs_iload_n rfl rfl ?_
      refine gs_ge2 rfl (fun c2 => ?_) (fun c2 => ?_)
      · rw [if_pos c2] at e
        refine gs_drop [0, 1, 2] rfl ?_
        exact K
      · rw [if_neg c2] at e
        refine gs_aload_n rfl rfl ?_
        refine gs_iload_n rfl rfl ?_
        refine gs_iload_n rfl rfl ?_
        refine gs_iload_n rfl rfl ?_
        obtain ⟨r3, ec4, e⟩ := ob1_some e
        refine gs_callvI (st := []) rfl (pr_C_le (by decide) (th_X7_sharesGiver L z1 z3 z2 f r3 ec4)) rfl rfl rfl (by decide) rfl (Or.inr (by decide)) ?_
        refine gs_eq0 rfl (fun c5 => ?_) (fun c5 => ?_)
        · rw [if_pos c5] at e
          obtain ⟨x6, hx6, e⟩ := pn_some e
          refine gs_iinc1 (x1 := x6) (c := 1) (lv' := [(3, .int x6), (0, .ref 39), (1, .int z1), (2, .int z2)]) rfl rfl (by decide) hx6 rfl ?_
          refine gs_goto rfl ?_
          refine gs_drop [1, 2, 3, 0] rfl ?_
          exact (ih z1 z2 x6 f _ e).2 () rfl _ _ K
        · rw [if_neg c5] at e
          refine gs_aload_n rfl rfl ?_
          refine gs_get rfl (gd_r (b := 45) rfl rfl rfl) ?_
          refine gs_iload_n rfl rfl ?_
          by_cases hb7 : pa_in z3 20 = true
          case neg => rw [if_neg hb7] at e; cases e
          rw [if_pos hb7] at e
          refine gs_aald rfl (gd_aa (b := (48 + z3.toNatClampNeg)) rfl (by decide) rfl hb7 rfl (arr_rf_45 (lt_of_in hb7))) ?_
          refine gs_get rfl (gd_i (sh_of (arr_sh_45 (lt_of_in hb7)) (by decide)) rfl) ?_
          refine gs_aload_n rfl rfl ?_
          refine gs_get rfl (gd_r (b := 45) rfl rfl rfl) ?_
          refine gs_iload_n rfl rfl ?_
          by_cases hb8 : pa_in z2 20 = true
          case neg => rw [if_neg hb8] at e; cases e
          rw [if_pos hb8] at e
          refine gs_aald rfl (gd_aa (b := (48 + z2.toNatClampNeg)) rfl (by decide) rfl hb8 rfl (arr_rf_45 (lt_of_in hb8))) ?_
          refine gs_get rfl (gd_i (sh_of (arr_sh_45 (lt_of_in hb8)) (by decide)) rfl) ?_
          refine gs_iand rfl ?_
          obtain ⟨r9, ec10, e⟩ := ob1_some e
          refine gs_callsI (st := []) rfl (pr_C_le (by decide) (th_X8_hasNone L ((f (48 + z3.toNatClampNeg) 8) &&& (f (48 + z2.toNatClampNeg) 8)) f r9 ec10)) rfl rfl rfl (by decide) ?_
          refine gs_eq0 rfl (fun c11 => ?_) (fun c11 => ?_)
          · rw [if_pos c11] at e
            obtain ⟨x12, hx12, e⟩ := pn_some e
            refine gs_iinc1 (x1 := x12) (c := 1) (lv' := [(3, .int x12), (0, .ref 39), (1, .int z1), (2, .int z2)]) rfl rfl (by decide) hx12 rfl ?_
            refine gs_goto rfl ?_
            refine gs_drop [1, 2, 3, 0] rfl ?_
            exact (ih z1 z2 x12 f _ e).2 () rfl _ _ K
          · rw [if_neg c11] at e
            refine gs_iconst (x := 1) rfl (by decide) ?_
            refine gs_iload_n rfl rfl ?_
            refine gs_ishl rfl ?_
            refine gs_iconst (x := 1) rfl (by decide) ?_
            refine gs_iload_n rfl rfl ?_
            refine gs_ishl rfl ?_
            refine gs_ior rfl ?_
            cases e
set_option maxRecDepth 100000 in
set_option maxHeartbeats 4000000 in
theorem tl_X7_leastQuarrel_2 (L : Nat) : ∀ (n : Nat) (z1 : Int32) (z2 : Int32) (f : pd_M) (o : (Int32) ⊕ (Unit)), lp_X7_leastQuarrel_2 n z1 z2 f = some o → (∀ q, o = .inl q → pr_G L 4 mt_X7_leastQuarrel (2, [(0, .ref 39), (1, .int z1), (2, .int z2)], [], hH f) (some (.int q)) (hH f)) ∧ (∀ (_ : Unit), o = .inr () → ∀ (r : Option Value) (h2 : ph_T), pr_G L 4 mt_X7_leastQuarrel (75, [(0, .ref 39), (1, .int z1)], [], hH f) r h2 → pr_G L 4 mt_X7_leastQuarrel (2, [(0, .ref 39), (1, .int z1), (2, .int z2)], [], hH f) r h2) := by
  intro n
  induction n with
  | zero => intro z1 z2 f o e; cases e
  | succ n ih =>
    intro z1 z2 f o e
    refine ⟨fun q hq => ?_, fun _ hq r h2 K => ?_⟩
    · subst hq
      unfold lp_X7_leastQuarrel_2 at e
      refine gs_iload_n rfl rfl ?_
      refine gs_aload_n rfl rfl ?_
      refine gs_get rfl (gd_r (b := 40) rfl rfl rfl) ?_
      refine gs_get rfl (gd_i rfl rfl) ?_
      refine gs_ge2 rfl (fun c1 => ?_) (fun c1 => ?_)
      · rw [if_pos c1] at e
        cases e
      · rw [if_neg c1] at e
        refine gs_iconst (x := 0) rfl (by decide) ?_
        refine gs_istore_n (lv' := [(3, .int 0), (0, .ref 39), (1, .int z1), (2, .int z2)]) rfl rfl ?_
        refine gs_drop [1, 2, 3, 0] rfl ?_
        rcases os0_some e with ⟨q, el14, e⟩ | ⟨el14, e⟩
        · skip
          obtain rfl := injl e
          exact (tl_X7_leastQuarrel_15 L 5000 z1 z2 0 f _ el14).1 _ rfl
        · refine (tl_X7_leastQuarrel_15 L 5000 z1 z2 0 f _ el14).2 () rfl _ _ ?_
          obtain ⟨x13, hx13, e⟩ := pn_some e
          refine gs_iinc1 (x1 := x13) (c := 1) (lv' := [(2, .int x13), (0, .ref 39), (1, .int z1)]) rfl rfl (by decide) hx13 rfl ?_
          refine gs_goto rfl ?_
          refine gs_drop [1, 2, 0] rfl ?_
          exact (ih z1 x13 f _ e).1 _ rfl
    · subst hq
      unfold lp_X7_leastQuarrel_2 at e
      refine gs_iload_n rfl rfl ?_
      refine gs_aload_n rfl rfl ?_
      refine gs_get rfl (gd_r (b := 40) rfl rfl rfl) ?_
      refine gs_get rfl (gd_i rfl rfl) ?_
      refine gs_ge2 rfl (fun c1 => ?_) (fun c1 => ?_)
      · rw [if_pos c1] at e
        refine gs_drop [0, 1] rfl ?_
        exact K
      · rw [if_neg c1] at e
        refine gs_iconst (x := 0) rfl (by decide) ?_
        refine gs_istore_n (lv' := [(3, .int 0), (0, .ref 39), (1, .int z1), (2, .int z2)]) rfl rfl ?_
        refine gs_drop [1, 2, 3, 0] rfl ?_
        rcases os0_some e with ⟨q, el14, e⟩ | ⟨el14, e⟩
        · skip
          cases e
        · refine (tl_X7_leastQuarrel_15 L 5000 z1 z2 0 f _ el14).2 () rfl _ _ ?_
          obtain ⟨x13, hx13, e⟩ := pn_some e
          refine gs_iinc1 (x1 := x13) (c := 1) (lv' := [(2, .int x13), (0, .ref 39), (1, .int z1)]) rfl rfl (by decide) hx13 rfl ?_
          refine gs_goto rfl ?_
          refine gs_drop [1, 2, 0] rfl ?_
          exact (ih z1 x13 f _ e).2 () rfl _ _ K
set_option maxRecDepth 100000 in
set_option maxHeartbeats 4000000 in
theorem tl_X7_leastQuarrel_90 (L : Nat) : ∀ (n : Nat) (z1 : Int32) (z2 : Int32) (z3 : Int32) (f : pd_M) (o : (Int32) ⊕ (Unit)), lp_X7_leastQuarrel_90 n z1 z2 z3 f = some o → (∀ q, o = .inl q → pr_G L 4 mt_X7_leastQuarrel (90, [(0, .ref 39), (1, .int z1), (2, .int z2), (3, .int z3)], [], hH f) (some (.int q)) (hH f)) ∧ (∀ (_ : Unit), o = .inr () → ∀ (r : Option Value) (h2 : ph_T), pr_G L 4 mt_X7_leastQuarrel (144, [(0, .ref 39), (1, .int z1), (2, .int z2)], [], hH f) r h2 → pr_G L 4 mt_X7_leastQuarrel (90, [(0, .ref 39), (1, .int z1), (2, .int z2), (3, .int z3)], [], hH f) r h2) := by
  intro n
  induction n with
  | zero => intro z1 z2 z3 f o e; cases e
  | succ n ih =>
    intro z1 z2 z3 f o e
    refine ⟨fun q hq => ?_, fun _ hq r h2 K => ?_⟩
    · subst hq
      unfold lp_X7_leastQuarrel_90 at e
      refine gs_iload_n rfl rfl ?_
      refine gs_iload_n rfl rfl ?_
      refine gs_ge2 rfl (fun c16 => ?_) (fun c16 => ?_)
      · rw [if_pos c16] at e
        cases e
      · rw [if_neg c16] at e
        refine gs_aload_n rfl rfl ?_
        refine gs_iload_n rfl rfl ?_
        refine gs_iload_n rfl rfl ?_
        refine gs_iload_n rfl rfl ?_
        obtain ⟨r17, ec18, e⟩ := ob1_some e
        refine gs_callvI (st := []) rfl (pr_C_le (by decide) (th_X7_sharesGiver L z1 z3 z2 f r17 ec18)) rfl rfl rfl (by decide) rfl (Or.inr (by decide)) ?_
        obtain ⟨v20, ev116, e⟩ := ob1_some e
        have KJ116 : pr_G L 4 mt_X7_leastQuarrel (116, [(0, .ref 39), (1, .int z1), (2, .int z2), (3, .int z3)], [.int v20], hH f) (some (.int q)) (hH f) := by
          refine gs_istore (lv' := [(4, .int v20), (0, .ref 39), (1, .int z1), (2, .int z2), (3, .int z3)]) rfl rfl ?_
          refine gs_iload rfl rfl ?_
          refine gs_ldc (x := (-1000000)) rfl (by decide) ?_
          refine gs_eq2 rfl (fun c23 => ?_) (fun c23 => ?_)
          · rw [if_pos c23] at e
            obtain ⟨x24, hx24, e⟩ := pn_some e
            refine gs_iinc1 (x1 := x24) (c := 1) (lv' := [(3, .int x24), (4, .int v20), (0, .ref 39), (1, .int z1), (2, .int z2)]) rfl rfl (by decide) hx24 rfl ?_
            refine gs_goto rfl ?_
            refine gs_drop [2, 3, 4, 0] rfl ?_
            exact (ih z1 z2 x24 f _ e).1 _ rfl
          · rw [if_neg c23] at e
            refine gs_iconst (x := 1) rfl (by decide) ?_
            refine gs_iload rfl rfl ?_
            refine gs_ishl rfl ?_
            refine gs_iconst (x := 1) rfl (by decide) ?_
            refine gs_iload_n rfl rfl ?_
            refine gs_ishl rfl ?_
            refine gs_ior rfl ?_
            refine gs_iconst (x := 1) rfl (by decide) ?_
            refine gs_iload_n rfl rfl ?_
            refine gs_ishl rfl ?_
            refine gs_ior rfl ?_
            obtain rfl := injl e
            exact gs_iret rfl rfl rfl rfl rfl
        have e := ev116
        clear ev116
        refine gs_eq0 rfl (fun c19 => ?_) (fun c19 => ?_)
        · rw [if_pos c19] at e
          refine gs_ldc (x := (-1000000)) rfl (by decide) ?_
          obtain rfl := inj1 e
          refine gs_drop [0, 1, 2, 3] rfl ?_
          exact KJ116
        · rw [if_neg c19] at e
          refine gs_aload_n rfl rfl ?_
          refine gs_iload_n rfl rfl ?_
          refine gs_iload_n rfl rfl ?_
          obtain ⟨r21, ec22, e⟩ := ob1_some e
          refine gs_callvI (st := []) rfl (pr_C_le (by decide) (th_X7_leastThird L z3 z2 f r21 ec22)) rfl rfl rfl (by decide) rfl (Or.inr (by decide)) ?_
          refine gs_goto rfl ?_
          obtain rfl := inj1 e
          refine gs_drop [0, 1, 2, 3] rfl ?_
          exact KJ116
    · subst hq
      unfold lp_X7_leastQuarrel_90 at e
      refine gs_iload_n rfl rfl ?_
      refine gs_iload_n rfl rfl ?_
      refine gs_ge2 rfl (fun c16 => ?_) (fun c16 => ?_)
      · rw [if_pos c16] at e
        refine gs_drop [0, 1, 2] rfl ?_
        exact K
      · rw [if_neg c16] at e
        refine gs_aload_n rfl rfl ?_
        refine gs_iload_n rfl rfl ?_
        refine gs_iload_n rfl rfl ?_
        refine gs_iload_n rfl rfl ?_
        obtain ⟨r17, ec18, e⟩ := ob1_some e
        refine gs_callvI (st := []) rfl (pr_C_le (by decide) (th_X7_sharesGiver L z1 z3 z2 f r17 ec18)) rfl rfl rfl (by decide) rfl (Or.inr (by decide)) ?_
        obtain ⟨v20, ev116, e⟩ := ob1_some e
        have KJ116 : pr_G L 4 mt_X7_leastQuarrel (116, [(0, .ref 39), (1, .int z1), (2, .int z2), (3, .int z3)], [.int v20], hH f) r h2 := by
          refine gs_istore (lv' := [(4, .int v20), (0, .ref 39), (1, .int z1), (2, .int z2), (3, .int z3)]) rfl rfl ?_
          refine gs_iload rfl rfl ?_
          refine gs_ldc (x := (-1000000)) rfl (by decide) ?_
          refine gs_eq2 rfl (fun c23 => ?_) (fun c23 => ?_)
          · rw [if_pos c23] at e
            obtain ⟨x24, hx24, e⟩ := pn_some e
            refine gs_iinc1 (x1 := x24) (c := 1) (lv' := [(3, .int x24), (4, .int v20), (0, .ref 39), (1, .int z1), (2, .int z2)]) rfl rfl (by decide) hx24 rfl ?_
            refine gs_goto rfl ?_
            refine gs_drop [2, 3, 4, 0] rfl ?_
            exact (ih z1 z2 x24 f _ e).2 () rfl _ _ K
          · rw [if_neg c23] at e
            refine gs_iconst (x := 1) rfl (by decide) ?_
            refine gs_iload rfl rfl ?_
            refine gs_ishl rfl ?_
            refine gs_iconst (x := 1) rfl (by decide) ?_
            refine gs_iload_n rfl rfl ?_
            refine gs_ishl rfl ?_
            refine gs_ior rfl ?_
            refine gs_iconst (x := 1) rfl (by decide) ?_
            refine gs_iload_n rfl rfl ?_
            refine gs_ishl rfl ?_
            refine gs_ior rfl ?_
            cases e
        have e := ev116
        clear ev116
        refine gs_eq0 rfl (fun c19 => ?_) (fun c19 => ?_)
        · rw [if_pos c19] at e
          refine gs_ldc (x := (-1000000)) rfl (by decide) ?_
          obtain rfl := inj1 e
          refine gs_drop [0, 1, 2, 3] rfl ?_
          exact KJ116
        · rw [if_neg c19] at e
          refine gs_aload_n rfl rfl ?_
          refine gs_iload_n rfl rfl ?_
          refine gs_iload_n rfl rfl ?_
          obtain ⟨r21, ec22, e⟩ := ob1_some e
          refine gs_callvI (st := []) rfl (pr_C_le (by decide) (th_X7_leastThird L z3 z2 f r21 ec22)) rfl rfl rfl (by decide) rfl (Or.inr (by decide)) ?_
          refine gs_goto rfl ?_
          obtain rfl := inj1 e
          refine gs_drop [0, 1, 2, 3] rfl ?_
          exact KJ116
set_option maxRecDepth 100000 in
set_option maxHeartbeats 4000000 in
theorem tl_X7_leastQuarrel_77 (L : Nat) : ∀ (n : Nat) (z1 : Int32) (z2 : Int32) (f : pd_M) (o : (Int32) ⊕ (Unit)), lp_X7_leastQuarrel_77 n z1 z2 f = some o → (∀ q, o = .inl q → pr_G L 4 mt_X7_leastQuarrel (77, [(0, .ref 39), (1, .int z1), (2, .int z2)], [], hH f) (some (.int q)) (hH f)) ∧ (∀ (_ : Unit), o = .inr () → ∀ (r : Option Value) (h2 : ph_T), pr_G L 4 mt_X7_leastQuarrel (150, [], [], hH f) r h2 → pr_G L 4 mt_X7_leastQuarrel (77, [(0, .ref 39), (1, .int z1), (2, .int z2)], [], hH f) r h2) := by
  intro n
  induction n with
  | zero => intro z1 z2 f o e; cases e
  | succ n ih =>
    intro z1 z2 f o e
    refine ⟨fun q hq => ?_, fun _ hq r h2 K => ?_⟩
    · subst hq
      unfold lp_X7_leastQuarrel_77 at e
      refine gs_iload_n rfl rfl ?_
      refine gs_aload_n rfl rfl ?_
      refine gs_get rfl (gd_r (b := 40) rfl rfl rfl) ?_
      refine gs_get rfl (gd_i rfl rfl) ?_
      refine gs_ge2 rfl (fun c15 => ?_) (fun c15 => ?_)
      · rw [if_pos c15] at e
        cases e
      · rw [if_neg c15] at e
        refine gs_iconst (x := 1) rfl (by decide) ?_
        refine gs_istore_n (lv' := [(3, .int 1), (0, .ref 39), (1, .int z1), (2, .int z2)]) rfl rfl ?_
        refine gs_drop [1, 2, 3, 0] rfl ?_
        rcases os0_some e with ⟨q, el26, e⟩ | ⟨el26, e⟩
        · skip
          obtain rfl := injl e
          exact (tl_X7_leastQuarrel_90 L 5000 z1 z2 1 f _ el26).1 _ rfl
        · refine (tl_X7_leastQuarrel_90 L 5000 z1 z2 1 f _ el26).2 () rfl _ _ ?_
          obtain ⟨x25, hx25, e⟩ := pn_some e
          refine gs_iinc1 (x1 := x25) (c := 1) (lv' := [(2, .int x25), (0, .ref 39), (1, .int z1)]) rfl rfl (by decide) hx25 rfl ?_
          refine gs_goto rfl ?_
          refine gs_drop [1, 2, 0] rfl ?_
          exact (ih z1 x25 f _ e).1 _ rfl
    · subst hq
      unfold lp_X7_leastQuarrel_77 at e
      refine gs_iload_n rfl rfl ?_
      refine gs_aload_n rfl rfl ?_
      refine gs_get rfl (gd_r (b := 40) rfl rfl rfl) ?_
      refine gs_get rfl (gd_i rfl rfl) ?_
      refine gs_ge2 rfl (fun c15 => ?_) (fun c15 => ?_)
      · rw [if_pos c15] at e
        refine gs_drop [] rfl ?_
        exact K
      · rw [if_neg c15] at e
        refine gs_iconst (x := 1) rfl (by decide) ?_
        refine gs_istore_n (lv' := [(3, .int 1), (0, .ref 39), (1, .int z1), (2, .int z2)]) rfl rfl ?_
        refine gs_drop [1, 2, 3, 0] rfl ?_
        rcases os0_some e with ⟨q, el26, e⟩ | ⟨el26, e⟩
        · skip
          cases e
        · refine (tl_X7_leastQuarrel_90 L 5000 z1 z2 1 f _ el26).2 () rfl _ _ ?_
          obtain ⟨x25, hx25, e⟩ := pn_some e
          refine gs_iinc1 (x1 := x25) (c := 1) (lv' := [(2, .int x25), (0, .ref 39), (1, .int z1)]) rfl rfl (by decide) hx25 rfl ?_
          refine gs_goto rfl ?_
          refine gs_drop [1, 2, 0] rfl ?_
          exact (ih z1 x25 f _ e).2 () rfl _ _ K
set_option maxRecDepth 100000 in
set_option maxHeartbeats 4000000 in
theorem th_X7_leastQuarrel (L : Nat) (p1 : Int32) (f : pd_M) (q : Int32) (e : fn_X7_leastQuarrel p1 f = some q) : pr_C L 5 51 [.ref 39, .int p1] (hH f) (some (.int q)) (hH f) := by
  refine pr_C.of (G := mt_X7_leastQuarrel) rfl rfl ?_
  show pr_G L 4 mt_X7_leastQuarrel (0, [(0, .ref 39), (1, .int p1)], [], hH f) _ _
  unfold fn_X7_leastQuarrel at e
  refine gs_iconst (x := 1) rfl (by decide) ?_
  refine gs_istore_n (lv' := [(2, .int 1), (0, .ref 39), (1, .int p1)]) rfl rfl ?_
  refine gs_drop [1, 2, 0] rfl ?_
  rcases os0_some e with ⟨q, el28, e⟩ | ⟨el28, e⟩
  · skip
    obtain rfl := inj1 e
    exact (tl_X7_leastQuarrel_2 L 5000 p1 1 f _ el28).1 _ rfl
  · refine (tl_X7_leastQuarrel_2 L 5000 p1 1 f _ el28).2 () rfl _ _ ?_
    refine gs_iconst (x := 2) rfl (by decide) ?_
    refine gs_istore_n (lv' := [(2, .int 2), (0, .ref 39), (1, .int p1)]) rfl rfl ?_
    refine gs_drop [1, 2, 0] rfl ?_
    rcases os0_some e with ⟨q, el27, e⟩ | ⟨el27, e⟩
    · skip
      obtain rfl := inj1 e
      exact (tl_X7_leastQuarrel_77 L 5000 p1 2 f _ el27).1 _ rfl
    · refine (tl_X7_leastQuarrel_77 L 5000 p1 2 f _ el27).2 () rfl _ _ ?_
      refine gs_iconst (x := 0) rfl (by decide) ?_
      obtain rfl := inj1 e
      exact gs_iret rfl rfl rfl rfl rfl
