def fn_X9_house (p1 : Int32) (p2 : Int32) (f : pd_M) : Option (Int32 × pd_M) :=
  pn ((pi_up f 110 0 0)) fun f1 =>
  ob1 (fn_X9_isHouse p1 f1) fun r2 =>
  if r2 = 0 then
  some ((-1000001), f1)
  else
  if (fn_X9_in (p2.toInt64) 0 1) = 0 then
  some ((-1000001), f1)
  else
  ob1 (fn_X9_redOf p1 f1) fun r6 =>
  if p2 = 1 then
  some (r6, f1)
  else
  if r6 = (-1000000) then
  some (1, f1)
  else
  some (0, f1)
set_option maxRecDepth 100000 in
set_option maxHeartbeats 4000000 in
theorem th_X9_house (L : Nat) (p1 : Int32) (p2 : Int32) (f : pd_M) (q : Int32) (g : pd_M) (e : fn_X9_house p1 p2 f = some (q, g)) : pr_C L 6 167 [.ref 110, .int p1, .int p2] (hH f) (some (.int q)) (hH g) := by
  refine pr_C.of (G := mt_X9_house) rfl rfl ?_
  show pr_G L 5 mt_X9_house (0, [(0, .ref 110), (1, .int p1), (2, .int p2)], [], hH f) _ _
  unfold fn_X9_house at e
  refine gs_aload_n rfl rfl ?_
  refine gs_iconst (x := 0) rfl (by decide) ?_
  refine gs_put rfl (gd_pi rfl rfl) ?_
  obtain ⟨f1, hf1, e⟩ := pn_some e
  refine gs_heap hf1 ?_
  refine gs_aload_n rfl rfl ?_
  refine gs_iload_n rfl rfl ?_
  obtain ⟨r2, ec3, e⟩ := ob1_some e
  refine gs_callvI (st := []) rfl (pr_C_le (by decide) (th_X9_isHouse L p1 f1 r2 ec3)) rfl rfl rfl (by decide) rfl (Or.inr (by decide)) ?_
  refine gs_eq0 rfl (fun c4 => ?_) (fun c4 => ?_)
  · rw [if_pos c4] at e
    refine gs_ldc (x := (-1000001)) rfl (by decide) ?_
    obtain ⟨rfl, rfl⟩ := inj2 e
    exact gs_iret rfl rfl rfl rfl rfl
  · rw [if_neg c4] at e
    refine gs_iload_n rfl rfl ?_
    refine gs_i2l rfl ?_
    refine gs_lconst (w := 0) rfl (by decide) ?_
    refine gs_lconst (w := 1) rfl (by decide) ?_
    refine gs_callsI (st := []) rfl (pr_C_le (by decide) (th_X9_in L (p2.toInt64) 0 1 f1 _ rfl)) rfl rfl rfl (by decide) ?_
    refine gs_ne0 rfl (fun c5 => ?_) (fun c5 => ?_)
    · rw [if_neg c5] at e
      refine gs_aload_n rfl rfl ?_
      refine gs_iload_n rfl rfl ?_
      obtain ⟨r6, ec7, e⟩ := ob1_some e
      refine gs_callvI (st := []) rfl (pr_C_le (by decide) (th_X9_redOf L p1 f1 r6 ec7)) rfl rfl rfl (by decide) rfl (Or.inr (by decide)) ?_
      refine gs_istore_n (lv' := [(3, .int r6), (0, .ref 110), (1, .int p1), (2, .int p2)]) rfl rfl ?_
      refine gs_iload_n rfl rfl ?_
      refine gs_iconst (x := 1) rfl (by decide) ?_
      refine gs_ne2 rfl (fun c8 => ?_) (fun c8 => ?_)
      · rw [if_neg c8] at e
        refine gs_iload_n rfl rfl ?_
        refine gs_ldc (x := (-1000000)) rfl (by decide) ?_
        refine gs_ne2 rfl (fun c9 => ?_) (fun c9 => ?_)
        · rw [if_neg c9] at e
          refine gs_iconst (x := 0) rfl (by decide) ?_
          obtain ⟨rfl, rfl⟩ := inj2 e
          exact gs_iret rfl rfl rfl rfl rfl
        · rw [if_pos c9] at e
          refine gs_iconst (x := 1) rfl (by decide) ?_
          refine gs_goto rfl ?_
          obtain ⟨rfl, rfl⟩ := inj2 e
          exact gs_iret rfl rfl rfl rfl rfl
      · rw [if_pos c8] at e
        refine gs_iload_n rfl rfl ?_
        refine gs_goto rfl ?_
        obtain ⟨rfl, rfl⟩ := inj2 e
        exact gs_iret rfl rfl rfl rfl rfl
    · rw [if_pos c5] at e
      refine gs_ldc (x := (-1000001)) rfl (by decide) ?_
      obtain ⟨rfl, rfl⟩ := inj2 e
      exact gs_iret rfl rfl rfl rfl rfl
def lp_X9_letOut_60 : Nat → Int32 → Int32 → Int32 → Int32 → pd_M → Option (pd_M)
  | 0, _, _, _, _, _ => none
  | n + 1, z1, z2, z3, z4, f =>
    if 625 ≤ z4 then
    some (f)
    else
    if pa_in z4 625 = true then
    pn ((pi_up f 137 (z4.toNatClampNeg) (-1000000))) fun f17 =>
    pn (z4 + 1) fun x18 =>
    lp_X9_letOut_60 n z1 z2 z3 x18 f17
    else none
def lp_X9_letOut_122 : Nat → Int32 → Int32 → Int32 → Int32 → Int32 → Int32 → pd_M → Option (Int32 × pd_M)
  | 0, _, _, _, _, _, _, _ => none
  | n + 1, z1, z3, z4, z5, z6, z7, f =>
    if pa_in z6 4 = true then
    if (f 114 z6.toNatClampNeg) < z7 then
    some (z4, f)
    else
    if pa_in z5 625 = true then
    if pa_in z5 625 = true then
    pn (((f 138 z5.toNatClampNeg) + ((z7 - (fn_X9_figure (f 138 z5.toNatClampNeg) z6)) * (fn_X9_worth z6)))) fun x30 =>
    if pa_in x30 625 = true then
    ob2 (if (f 137 x30.toNatClampNeg) = (-1000000) then
    ob1 (fn_X9_redOf x30 f) fun r35 =>
    if r35 = (-1000000) then
    if pa_in z5 625 = true then
    if pa_in (f 138 z5.toNatClampNeg) 625 = true then
    if pa_in x30 625 = true then
    pn ((pi_up f 137 (x30.toNatClampNeg) ((f 137 (f 138 z5.toNatClampNeg).toNatClampNeg) + 1))) fun f41 =>
    if pa_in z4 625 = true then
    pn ((pi_up f41 138 (z4.toNatClampNeg) x30)) fun f43 =>
    pn (z4 + 1) fun x44 =>
    some (x44, f43)
    else none
    else none
    else none
    else none
    else
    some (z4, f)
    else
    some (z4, f)) fun (y33 : Int32) (f34 : pd_M) =>
    pn (z7 + 1) fun x45 =>
    lp_X9_letOut_122 n z1 z3 y33 z5 z6 x45 f34
    else none
    else none
    else none
    else none
def lp_X9_letOut_113 : Nat → Int32 → Int32 → Int32 → Int32 → Int32 → pd_M → Option (Int32 × pd_M)
  | 0, _, _, _, _, _, _ => none
  | n + 1, z1, z3, z4, z5, z6, f =>
    if 4 ≤ z6 then
    some (z4, f)
    else
    ob2 (lp_X9_letOut_122 5000 z1 z3 z4 z5 z6 0 f) fun y46 f47 =>
    pn (z6 + 1) fun x49 =>
    lp_X9_letOut_113 n z1 z3 y46 z5 x49 f47
def lp_X9_letOut_103 : Nat → Int32 → Int32 → Int32 → Int32 → pd_M → Option (pd_M)
  | 0, _, _, _, _, _ => none
  | n + 1, z1, z3, z4, z5, f =>
    if z4 ≤ z5 then
    some (f)
    else
    ob2 (lp_X9_letOut_113 5000 z1 z3 z4 z5 0 f) fun y50 f51 =>
    pn (z5 + 1) fun x53 =>
    lp_X9_letOut_103 n z1 z3 y50 x53 f51
def lp_X9_letOut_285 : Nat → Int32 → Int32 → Int32 → Int32 → pd_M → Option (Int32)
  | 0, _, _, _, _, _ => none
  | n + 1, z1, z5, z6, z7, f =>
    if pa_in z6 4 = true then
    if (f 114 z6.toNatClampNeg) < z7 then
    some (z5)
    else
    pn ((z1 + ((z7 - (fn_X9_figure z1 z6)) * (fn_X9_worth z6)))) fun x64 =>
    if pa_in x64 625 = true then
    if pa_in z1 625 = true then
    ob1 (if (f 137 x64.toNatClampNeg) = ((f 137 z1.toNatClampNeg) - 1) then
    if z5 = (-1000000) then
    some (x64)
    else
    if z5 ≤ x64 then
    some (z5)
    else
    some (x64)
    else
    some (z5)) fun (v68 : Int32) =>
    pn (z7 + 1) fun x71 =>
    lp_X9_letOut_285 n z1 v68 z6 x71 f
    else none
    else none
    else none
def lp_X9_letOut_276 : Nat → Int32 → Int32 → Int32 → pd_M → Option (Int32)
  | 0, _, _, _, _ => none
  | n + 1, z1, z5, z6, f =>
    if 4 ≤ z6 then
    some (z5)
    else
    ob1 (lp_X9_letOut_285 5000 z1 z5 z6 0 f) fun y72 =>
    pn (z6 + 1) fun x74 =>
    lp_X9_letOut_276 n z1 y72 x74 f
def fn_X9_letOut (p1 : Int32) (p2 : Int32) (p3 : Int32) (f : pd_M) : Option (Int32 × pd_M) :=
  pn ((pi_up f 110 0 0)) fun f1 =>
  ob1 (fn_X9_isHouse p1 f1) fun r2 =>
  if r2 = 0 then
  some ((-1000001), f1)
  else
  ob1 (fn_X9_isHouse p2 f1) fun r5 =>
  if r5 = 0 then
  some ((-1000001), f1)
  else
  if (fn_X9_in (p3.toInt64) 0 1) = 0 then
  some ((-1000001), f1)
  else
  ob1 (fn_X9_redOf p1 f1) fun r9 =>
  if r9 = (-1000000) then
  ob1 (fn_X9_redOf p2 f1) fun r12 =>
  if r12 = (-1000000) then
  ob1 (lp_X9_letOut_60 5000 p1 p2 p3 0 f1) fun f19 =>
  if pa_in p2 625 = true then
  pn ((pi_up f19 137 (p2.toNatClampNeg) 0)) fun f22 =>
  pn ((pi_up f22 138 0 p2)) fun f23 =>
  ob1 (lp_X9_letOut_103 5000 p1 p3 1 0 f23) fun f54 =>
  if p3 = 0 then
  if p3 = 0 then
  if pa_in p1 625 = true then
  some ((f54 137 p1.toNatClampNeg), f54)
  else none
  else
  some ((-1000000), f54)
  else
  if pa_in p1 625 = true then
  if 1 ≤ (f54 137 p1.toNatClampNeg) then
  ob1 (lp_X9_letOut_276 5000 p1 (-1000000) 0 f54) fun y75 =>
  some (y75, f54)
  else
  if p3 = 0 then
  if pa_in p1 625 = true then
  some ((f54 137 p1.toNatClampNeg), f54)
  else none
  else
  some ((-1000000), f54)
  else none
  else none
  else
  some ((-1000000), f1)
  else
  some ((-1000000), f1)
set_option maxRecDepth 100000 in
set_option maxHeartbeats 4000000 in
theorem tl_X9_letOut_60 (L : Nat) : ∀ (n : Nat) (z1 : Int32) (z2 : Int32) (z3 : Int32) (z4 : Int32) (f : pd_M) (w0 : pd_M) (r : Option Value) (h2 : ph_T), lp_X9_letOut_60 n z1 z2 z3 z4 f = some (w0) → pr_G L 5 mt_X9_letOut (83, [(0, .ref 110), (1, .int z1), (2, .int z2), (3, .int z3)], [], hH w0) r h2 → pr_G L 5 mt_X9_letOut (60, [(0, .ref 110), (1, .int z1), (2, .int z2), (3, .int z3), (4, .int z4)], [], hH f) r h2 := by
  intro n
  induction n with
  | zero => intro z1 z2 z3 z4 f w0 r h2 e; cases e
  | succ n ih =>
    intro z1 z2 z3 z4 f w0 r h2 e K
    unfold lp_X9_letOut_60 at e
    refine gs_iload rfl rfl ?_
    refine gs_sipush (x := 625) rfl (by decide) ?_
    refine gs_ge2 rfl (fun c15 => ?_) (fun c15 => ?_)
    · rw [if_pos c15] at e
      obtain rfl := inj1 e
      refine gs_drop [0, 1, 2, 3] rfl ?_
      exact K
    · rw [if_neg c15] at e
      refine gs_aload_n rfl rfl ?_
      refine gs_get rfl (gd_r (b := 137) rfl rfl rfl) ?_
      refine gs_iload rfl rfl ?_
      refine gs_ldc (x := (-1000000)) rfl (by decide) ?_
      by_cases hb16 : pa_in z4 625 = true
      case neg => rw [if_neg hb16] at e; cases e
      rw [if_pos hb16] at e
      refine gs_iast rfl (gd_si (j := z4.toNatClampNeg) rfl (by decide) hb16 rfl) ?_
      obtain ⟨f17, hf17, e⟩ := pn_some e
      refine gs_heap hf17 ?_
      obtain ⟨x18, hx18, e⟩ := pn_some e
      refine gs_iinc1 (x1 := x18) (c := 1) (lv' := [(4, .int x18), (0, .ref 110), (1, .int z1), (2, .int z2), (3, .int z3)]) rfl rfl (by decide) hx18 rfl ?_
      refine gs_goto rfl ?_
      refine gs_drop [1, 2, 3, 4, 0] rfl ?_
      exact ih z1 z2 z3 x18 f17 w0 _ _ e K
set_option maxRecDepth 100000 in
set_option maxHeartbeats 4000000 in
theorem tl_X9_letOut_122 (L : Nat) : ∀ (n : Nat) (z1 : Int32) (z3 : Int32) (z4 : Int32) (z5 : Int32) (z6 : Int32) (z7 : Int32) (f : pd_M) (w0 : Int32) (w1 : pd_M) (r : Option Value) (h2 : ph_T), lp_X9_letOut_122 n z1 z3 z4 z5 z6 z7 f = some (w0, w1) → pr_G L 5 mt_X9_letOut (227, [(0, .ref 110), (1, .int z1), (3, .int z3), (4, .int w0), (5, .int z5), (6, .int z6)], [], hH w1) r h2 → pr_G L 5 mt_X9_letOut (122, [(0, .ref 110), (1, .int z1), (3, .int z3), (4, .int z4), (5, .int z5), (6, .int z6), (7, .int z7)], [], hH f) r h2 := by
  intro n
  induction n with
  | zero => intro z1 z3 z4 z5 z6 z7 f w0 w1 r h2 e; cases e
  | succ n ih =>
    intro z1 z3 z4 z5 z6 z7 f w0 w1 r h2 e K
    unfold lp_X9_letOut_122 at e
    refine gs_iload rfl rfl ?_
    refine gs_aload_n rfl rfl ?_
    refine gs_get rfl (gd_r (b := 114) rfl rfl rfl) ?_
    refine gs_iload rfl rfl ?_
    by_cases hb26 : pa_in z6 4 = true
    case neg => rw [if_neg hb26] at e; cases e
    rw [if_pos hb26] at e
    refine gs_iald rfl (gd_ia (j := z6.toNatClampNeg) rfl hb26 rfl) ?_
    refine gs_gt2 rfl (fun c27 => ?_) (fun c27 => ?_)
    · rw [if_pos c27] at e
      obtain ⟨rfl, rfl⟩ := inj2 e
      refine gs_drop [0, 1, 2, 3, 4, 5] rfl ?_
      exact K
    · rw [if_neg c27] at e
      refine gs_aload_n rfl rfl ?_
      refine gs_get rfl (gd_r (b := 138) rfl rfl rfl) ?_
      refine gs_iload rfl rfl ?_
      by_cases hb28 : pa_in z5 625 = true
      case neg => rw [if_neg hb28] at e; cases e
      rw [if_pos hb28] at e
      refine gs_iald rfl (gd_ia (j := z5.toNatClampNeg) rfl hb28 rfl) ?_
      refine gs_iload rfl rfl ?_
      refine gs_aload_n rfl rfl ?_
      refine gs_get rfl (gd_r (b := 138) rfl rfl rfl) ?_
      refine gs_iload rfl rfl ?_
      by_cases hb29 : pa_in z5 625 = true
      case neg => rw [if_neg hb29] at e; cases e
      rw [if_pos hb29] at e
      refine gs_iald rfl (gd_ia (j := z5.toNatClampNeg) rfl hb29 rfl) ?_
      refine gs_iload rfl rfl ?_
      refine gs_callsI (st := [.int z7, .int (f 138 z5.toNatClampNeg)]) rfl (pr_C_le (by decide) (th_X9_figure L (f 138 z5.toNatClampNeg) z6 f _ rfl)) rfl rfl rfl (by decide) ?_
      refine gs_isub rfl ?_
      refine gs_iload rfl rfl ?_
      refine gs_callsI (st := [.int (z7 - (fn_X9_figure (f 138 z5.toNatClampNeg) z6)), .int (f 138 z5.toNatClampNeg)]) rfl (pr_C_le (by decide) (th_X9_worth L z6 f _ rfl)) rfl rfl rfl (by decide) ?_
      refine gs_imul rfl ?_
      refine gs_iadd rfl ?_
      obtain ⟨x30, hx30, e⟩ := pn_some e
      refine gs_topi hx30 ?_
      refine gs_istore (lv' := [(8, .int x30), (0, .ref 110), (1, .int z1), (3, .int z3), (4, .int z4), (5, .int z5), (6, .int z6), (7, .int z7)]) rfl rfl ?_
      refine gs_aload_n rfl rfl ?_
      refine gs_get rfl (gd_r (b := 137) rfl rfl rfl) ?_
      refine gs_iload rfl rfl ?_
      by_cases hb31 : pa_in x30 625 = true
      case neg => rw [if_neg hb31] at e; cases e
      rw [if_pos hb31] at e
      refine gs_iald rfl (gd_ia (j := x30.toNatClampNeg) rfl hb31 rfl) ?_
      refine gs_ldc (x := (-1000000)) rfl (by decide) ?_
      obtain ⟨y33, f34, ev221, e⟩ := ob2_some e
      have KJ221 : pr_G L 5 mt_X9_letOut (221, [(0, .ref 110), (1, .int z1), (3, .int z3), (4, .int y33), (5, .int z5), (6, .int z6), (7, .int z7)], [], hH f34) r h2 := by
        obtain ⟨x45, hx45, e⟩ := pn_some e
        refine gs_iinc1 (x1 := x45) (c := 1) (lv' := [(7, .int x45), (0, .ref 110), (1, .int z1), (3, .int z3), (4, .int y33), (5, .int z5), (6, .int z6)]) rfl rfl (by decide) hx45 rfl ?_
        refine gs_goto rfl ?_
        refine gs_drop [1, 2, 3, 4, 5, 6, 0] rfl ?_
        exact ih z1 z3 y33 z5 z6 x45 f34 w0 w1 _ _ e K
      have e := ev221
      clear ev221
      refine gs_ne2 rfl (fun c32 => ?_) (fun c32 => ?_)
      · rw [if_neg c32] at e
        obtain ⟨rfl, rfl⟩ := inj2 e
        refine gs_drop [1, 2, 3, 4, 5, 6, 7] rfl ?_
        exact KJ221
      · rw [if_pos c32] at e
        refine gs_aload_n rfl rfl ?_
        refine gs_iload rfl rfl ?_
        obtain ⟨r35, ec36, e⟩ := ob1_some e
        refine gs_callvI (st := []) rfl (pr_C_le (by decide) (th_X9_redOf L x30 f r35 ec36)) rfl rfl rfl (by decide) rfl (Or.inr (by decide)) ?_
        refine gs_ldc (x := (-1000000)) rfl (by decide) ?_
        refine gs_ne2 rfl (fun c37 => ?_) (fun c37 => ?_)
        · rw [if_neg c37] at e
          obtain ⟨rfl, rfl⟩ := inj2 e
          refine gs_drop [1, 2, 3, 4, 5, 6, 7] rfl ?_
          exact KJ221
        · rw [if_pos c37] at e
          refine gs_aload_n rfl rfl ?_
          refine gs_get rfl (gd_r (b := 137) rfl rfl rfl) ?_
          refine gs_iload rfl rfl ?_
          refine gs_aload_n rfl rfl ?_
          refine gs_get rfl (gd_r (b := 137) rfl rfl rfl) ?_
          refine gs_aload_n rfl rfl ?_
          refine gs_get rfl (gd_r (b := 138) rfl rfl rfl) ?_
          refine gs_iload rfl rfl ?_
          by_cases hb38 : pa_in z5 625 = true
          case neg => rw [if_neg hb38] at e; cases e
          rw [if_pos hb38] at e
          refine gs_iald rfl (gd_ia (j := z5.toNatClampNeg) rfl hb38 rfl) ?_
          by_cases hb39 : pa_in (f 138 z5.toNatClampNeg) 625 = true
          case neg => rw [if_neg hb39] at e; cases e
          rw [if_pos hb39] at e
          refine gs_iald rfl (gd_ia (j := (f 138 z5.toNatClampNeg).toNatClampNeg) rfl hb39 rfl) ?_
          refine gs_iconst (x := 1) rfl (by decide) ?_
          refine gs_iadd rfl ?_
          by_cases hb40 : pa_in x30 625 = true
          case neg => rw [if_neg hb40] at e; cases e
          rw [if_pos hb40] at e
          refine gs_iast rfl (gd_si (j := x30.toNatClampNeg) rfl (by decide) hb40 rfl) ?_
          obtain ⟨f41, hf41, e⟩ := pn_some e
          refine gs_heap hf41 ?_
          refine gs_aload_n rfl rfl ?_
          refine gs_get rfl (gd_r (b := 138) rfl rfl rfl) ?_
          refine gs_iload rfl rfl ?_
          refine gs_iload rfl rfl ?_
          by_cases hb42 : pa_in z4 625 = true
          case neg => rw [if_neg hb42] at e; cases e
          rw [if_pos hb42] at e
          refine gs_iast rfl (gd_si (j := z4.toNatClampNeg) rfl (by decide) hb42 rfl) ?_
          obtain ⟨f43, hf43, e⟩ := pn_some e
          refine gs_heap hf43 ?_
          obtain ⟨x44, hx44, e⟩ := pn_some e
          refine gs_iinc1 (x1 := x44) (c := 1) (lv' := [(4, .int x44), (8, .int x30), (0, .ref 110), (1, .int z1), (3, .int z3), (5, .int z5), (6, .int z6), (7, .int z7)]) rfl rfl (by decide) hx44 rfl ?_
          obtain ⟨rfl, rfl⟩ := inj2 e
          refine gs_drop [2, 3, 4, 0, 5, 6, 7] rfl ?_
          exact KJ221
set_option maxRecDepth 100000 in
set_option maxHeartbeats 4000000 in
theorem tl_X9_letOut_113 (L : Nat) : ∀ (n : Nat) (z1 : Int32) (z3 : Int32) (z4 : Int32) (z5 : Int32) (z6 : Int32) (f : pd_M) (w0 : Int32) (w1 : pd_M) (r : Option Value) (h2 : ph_T), lp_X9_letOut_113 n z1 z3 z4 z5 z6 f = some (w0, w1) → pr_G L 5 mt_X9_letOut (233, [(0, .ref 110), (1, .int z1), (3, .int z3), (4, .int w0), (5, .int z5)], [], hH w1) r h2 → pr_G L 5 mt_X9_letOut (113, [(0, .ref 110), (1, .int z1), (3, .int z3), (4, .int z4), (5, .int z5), (6, .int z6)], [], hH f) r h2 := by
  intro n
  induction n with
  | zero => intro z1 z3 z4 z5 z6 f w0 w1 r h2 e; cases e
  | succ n ih =>
    intro z1 z3 z4 z5 z6 f w0 w1 r h2 e K
    unfold lp_X9_letOut_113 at e
    refine gs_iload rfl rfl ?_
    refine gs_iconst (x := 4) rfl (by decide) ?_
    refine gs_ge2 rfl (fun c25 => ?_) (fun c25 => ?_)
    · rw [if_pos c25] at e
      obtain ⟨rfl, rfl⟩ := inj2 e
      refine gs_drop [0, 1, 2, 3, 4] rfl ?_
      exact K
    · rw [if_neg c25] at e
      refine gs_iconst (x := 0) rfl (by decide) ?_
      refine gs_istore (lv' := [(7, .int 0), (0, .ref 110), (1, .int z1), (3, .int z3), (4, .int z4), (5, .int z5), (6, .int z6)]) rfl rfl ?_
      refine gs_drop [1, 2, 3, 4, 5, 6, 0] rfl ?_
      obtain ⟨y46, f47, el48, e⟩ := ob2_some e
      refine tl_X9_letOut_122 L 5000 z1 z3 z4 z5 z6 0 f y46 f47 _ _ el48 ?_
      obtain ⟨x49, hx49, e⟩ := pn_some e
      refine gs_iinc1 (x1 := x49) (c := 1) (lv' := [(6, .int x49), (0, .ref 110), (1, .int z1), (3, .int z3), (4, .int y46), (5, .int z5)]) rfl rfl (by decide) hx49 rfl ?_
      refine gs_goto rfl ?_
      refine gs_drop [1, 2, 3, 4, 5, 0] rfl ?_
      exact ih z1 z3 y46 z5 x49 f47 w0 w1 _ _ e K
set_option maxRecDepth 100000 in
set_option maxHeartbeats 4000000 in
theorem tl_X9_letOut_103 (L : Nat) : ∀ (n : Nat) (z1 : Int32) (z3 : Int32) (z4 : Int32) (z5 : Int32) (f : pd_M) (w0 : pd_M) (r : Option Value) (h2 : ph_T), lp_X9_letOut_103 n z1 z3 z4 z5 f = some (w0) → pr_G L 5 mt_X9_letOut (239, [(0, .ref 110), (1, .int z1), (3, .int z3)], [], hH w0) r h2 → pr_G L 5 mt_X9_letOut (103, [(0, .ref 110), (1, .int z1), (3, .int z3), (4, .int z4), (5, .int z5)], [], hH f) r h2 := by
  intro n
  induction n with
  | zero => intro z1 z3 z4 z5 f w0 r h2 e; cases e
  | succ n ih =>
    intro z1 z3 z4 z5 f w0 r h2 e K
    unfold lp_X9_letOut_103 at e
    refine gs_iload rfl rfl ?_
    refine gs_iload rfl rfl ?_
    refine gs_ge2 rfl (fun c24 => ?_) (fun c24 => ?_)
    · rw [if_pos c24] at e
      obtain rfl := inj1 e
      refine gs_drop [0, 1, 2] rfl ?_
      exact K
    · rw [if_neg c24] at e
      refine gs_iconst (x := 0) rfl (by decide) ?_
      refine gs_istore (lv' := [(6, .int 0), (0, .ref 110), (1, .int z1), (3, .int z3), (4, .int z4), (5, .int z5)]) rfl rfl ?_
      refine gs_drop [1, 2, 3, 4, 5, 0] rfl ?_
      obtain ⟨y50, f51, el52, e⟩ := ob2_some e
      refine tl_X9_letOut_113 L 5000 z1 z3 z4 z5 0 f y50 f51 _ _ el52 ?_
      obtain ⟨x53, hx53, e⟩ := pn_some e
      refine gs_iinc1 (x1 := x53) (c := 1) (lv' := [(5, .int x53), (0, .ref 110), (1, .int z1), (3, .int z3), (4, .int y50)]) rfl rfl (by decide) hx53 rfl ?_
      refine gs_goto rfl ?_
      refine gs_drop [1, 2, 3, 4, 0] rfl ?_
      exact ih z1 z3 y50 x53 f51 w0 _ _ e K
set_option maxRecDepth 100000 in
set_option maxHeartbeats 4000000 in
theorem tl_X9_letOut_285 (L : Nat) : ∀ (n : Nat) (z1 : Int32) (z5 : Int32) (z6 : Int32) (z7 : Int32) (f : pd_M) (w0 : Int32) (r : Option Value) (h2 : ph_T), lp_X9_letOut_285 n z1 z5 z6 z7 f = some (w0) → pr_G L 5 mt_X9_letOut (363, [(0, .ref 110), (1, .int z1), (5, .int w0), (6, .int z6)], [], hH f) r h2 → pr_G L 5 mt_X9_letOut (285, [(0, .ref 110), (1, .int z1), (5, .int z5), (6, .int z6), (7, .int z7)], [], hH f) r h2 := by
  intro n
  induction n with
  | zero => intro z1 z5 z6 z7 f w0 r h2 e; cases e
  | succ n ih =>
    intro z1 z5 z6 z7 f w0 r h2 e K
    unfold lp_X9_letOut_285 at e
    refine gs_iload rfl rfl ?_
    refine gs_aload_n rfl rfl ?_
    refine gs_get rfl (gd_r (b := 114) rfl rfl rfl) ?_
    refine gs_iload rfl rfl ?_
    by_cases hb62 : pa_in z6 4 = true
    case neg => rw [if_neg hb62] at e; cases e
    rw [if_pos hb62] at e
    refine gs_iald rfl (gd_ia (j := z6.toNatClampNeg) rfl hb62 rfl) ?_
    refine gs_gt2 rfl (fun c63 => ?_) (fun c63 => ?_)
    · rw [if_pos c63] at e
      obtain rfl := inj1 e
      refine gs_drop [0, 1, 2, 3] rfl ?_
      exact K
    · rw [if_neg c63] at e
      refine gs_iload_n rfl rfl ?_
      refine gs_iload rfl rfl ?_
      refine gs_iload_n rfl rfl ?_
      refine gs_iload rfl rfl ?_
      refine gs_callsI (st := [.int z7, .int z1]) rfl (pr_C_le (by decide) (th_X9_figure L z1 z6 f _ rfl)) rfl rfl rfl (by decide) ?_
      refine gs_isub rfl ?_
      refine gs_iload rfl rfl ?_
      refine gs_callsI (st := [.int (z7 - (fn_X9_figure z1 z6)), .int z1]) rfl (pr_C_le (by decide) (th_X9_worth L z6 f _ rfl)) rfl rfl rfl (by decide) ?_
      refine gs_imul rfl ?_
      refine gs_iadd rfl ?_
      obtain ⟨x64, hx64, e⟩ := pn_some e
      refine gs_topi hx64 ?_
      refine gs_istore (lv' := [(8, .int x64), (0, .ref 110), (1, .int z1), (5, .int z5), (6, .int z6), (7, .int z7)]) rfl rfl ?_
      refine gs_aload_n rfl rfl ?_
      refine gs_get rfl (gd_r (b := 137) rfl rfl rfl) ?_
      refine gs_iload rfl rfl ?_
      by_cases hb65 : pa_in x64 625 = true
      case neg => rw [if_neg hb65] at e; cases e
      rw [if_pos hb65] at e
      refine gs_iald rfl (gd_ia (j := x64.toNatClampNeg) rfl hb65 rfl) ?_
      refine gs_aload_n rfl rfl ?_
      refine gs_get rfl (gd_r (b := 137) rfl rfl rfl) ?_
      refine gs_iload_n rfl rfl ?_
      by_cases hb66 : pa_in z1 625 = true
      case neg => rw [if_neg hb66] at e; cases e
      rw [if_pos hb66] at e
      refine gs_iald rfl (gd_ia (j := z1.toNatClampNeg) rfl hb66 rfl) ?_
      refine gs_iconst (x := 1) rfl (by decide) ?_
      refine gs_isub rfl ?_
      obtain ⟨v68, ev355, e⟩ := ob1_some e
      have KJ355 : pr_G L 5 mt_X9_letOut (355, [(0, .ref 110), (1, .int z1), (6, .int z6), (7, .int z7)], [.int v68], hH f) r h2 := by
        refine gs_istore (lv' := [(5, .int v68), (0, .ref 110), (1, .int z1), (6, .int z6), (7, .int z7)]) rfl rfl ?_
        obtain ⟨x71, hx71, e⟩ := pn_some e
        refine gs_iinc1 (x1 := x71) (c := 1) (lv' := [(7, .int x71), (5, .int v68), (0, .ref 110), (1, .int z1), (6, .int z6)]) rfl rfl (by decide) hx71 rfl ?_
        refine gs_goto rfl ?_
        refine gs_drop [2, 3, 1, 4, 0] rfl ?_
        exact ih z1 v68 z6 x71 f w0 _ _ e K
      have e := ev355
      clear ev355
      refine gs_ne2 rfl (fun c67 => ?_) (fun c67 => ?_)
      · rw [if_neg c67] at e
        refine gs_iload rfl rfl ?_
        obtain rfl := inj1 e
        refine gs_drop [1, 2, 4, 5] rfl ?_
        exact KJ355
      · rw [if_pos c67] at e
        refine gs_iload rfl rfl ?_
        refine gs_ldc (x := (-1000000)) rfl (by decide) ?_
        refine gs_eq2 rfl (fun c69 => ?_) (fun c69 => ?_)
        · rw [if_pos c69] at e
          refine gs_iload rfl rfl ?_
          refine gs_goto rfl ?_
          obtain rfl := inj1 e
          refine gs_drop [1, 2, 4, 5] rfl ?_
          exact KJ355
        · rw [if_neg c69] at e
          refine gs_iload rfl rfl ?_
          refine gs_iload rfl rfl ?_
          refine gs_ge2 rfl (fun c70 => ?_) (fun c70 => ?_)
          · rw [if_pos c70] at e
            refine gs_iload rfl rfl ?_
            obtain rfl := inj1 e
            refine gs_drop [1, 2, 4, 5] rfl ?_
            exact KJ355
          · rw [if_neg c70] at e
            refine gs_iload rfl rfl ?_
            refine gs_goto rfl ?_
            obtain rfl := inj1 e
            refine gs_drop [1, 2, 4, 5] rfl ?_
            exact KJ355
set_option maxRecDepth 100000 in
set_option maxHeartbeats 4000000 in
theorem tl_X9_letOut_276 (L : Nat) : ∀ (n : Nat) (z1 : Int32) (z5 : Int32) (z6 : Int32) (f : pd_M) (w0 : Int32) (r : Option Value) (h2 : ph_T), lp_X9_letOut_276 n z1 z5 z6 f = some (w0) → pr_G L 5 mt_X9_letOut (369, [(5, .int w0)], [], hH f) r h2 → pr_G L 5 mt_X9_letOut (276, [(0, .ref 110), (1, .int z1), (5, .int z5), (6, .int z6)], [], hH f) r h2 := by
  intro n
  induction n with
  | zero => intro z1 z5 z6 f w0 r h2 e; cases e
  | succ n ih =>
    intro z1 z5 z6 f w0 r h2 e K
    unfold lp_X9_letOut_276 at e
    refine gs_iload rfl rfl ?_
    refine gs_iconst (x := 4) rfl (by decide) ?_
    refine gs_ge2 rfl (fun c61 => ?_) (fun c61 => ?_)
    · rw [if_pos c61] at e
      obtain rfl := inj1 e
      refine gs_drop [2] rfl ?_
      exact K
    · rw [if_neg c61] at e
      refine gs_iconst (x := 0) rfl (by decide) ?_
      refine gs_istore (lv' := [(7, .int 0), (0, .ref 110), (1, .int z1), (5, .int z5), (6, .int z6)]) rfl rfl ?_
      refine gs_drop [1, 2, 3, 4, 0] rfl ?_
      obtain ⟨y72, el73, e⟩ := ob1_some e
      refine tl_X9_letOut_285 L 5000 z1 z5 z6 0 f y72 _ _ el73 ?_
      obtain ⟨x74, hx74, e⟩ := pn_some e
      refine gs_iinc1 (x1 := x74) (c := 1) (lv' := [(6, .int x74), (0, .ref 110), (1, .int z1), (5, .int y72)]) rfl rfl (by decide) hx74 rfl ?_
      refine gs_goto rfl ?_
      refine gs_drop [1, 2, 3, 0] rfl ?_
      exact ih z1 y72 x74 f w0 _ _ e K
set_option maxRecDepth 100000 in
set_option maxHeartbeats 4000000 in
theorem th_X9_letOut (L : Nat) (p1 : Int32) (p2 : Int32) (p3 : Int32) (f : pd_M) (q : Int32) (g : pd_M) (e : fn_X9_letOut p1 p2 p3 f = some (q, g)) : pr_C L 6 168 [.ref 110, .int p1, .int p2, .int p3] (hH f) (some (.int q)) (hH g) := by
  refine pr_C.of (G := mt_X9_letOut) rfl rfl ?_
  show pr_G L 5 mt_X9_letOut (0, [(0, .ref 110), (1, .int p1), (2, .int p2), (3, .int p3)], [], hH f) _ _
  unfold fn_X9_letOut at e
  refine gs_aload_n rfl rfl ?_
  refine gs_iconst (x := 0) rfl (by decide) ?_
  refine gs_put rfl (gd_pi rfl rfl) ?_
  obtain ⟨f1, hf1, e⟩ := pn_some e
  refine gs_heap hf1 ?_
  refine gs_aload_n rfl rfl ?_
  refine gs_iload_n rfl rfl ?_
  obtain ⟨r2, ec3, e⟩ := ob1_some e
  refine gs_callvI (st := []) rfl (pr_C_le (by decide) (th_X9_isHouse L p1 f1 r2 ec3)) rfl rfl rfl (by decide) rfl (Or.inr (by decide)) ?_
  refine gs_eq0 rfl (fun c4 => ?_) (fun c4 => ?_)
  · rw [if_pos c4] at e
    refine gs_ldc (x := (-1000001)) rfl (by decide) ?_
    obtain ⟨rfl, rfl⟩ := inj2 e
    exact gs_iret rfl rfl rfl rfl rfl
  · rw [if_neg c4] at e
    refine gs_aload_n rfl rfl ?_
    refine gs_iload_n rfl rfl ?_
    obtain ⟨r5, ec6, e⟩ := ob1_some e
    refine gs_callvI (st := []) rfl (pr_C_le (by decide) (th_X9_isHouse L p2 f1 r5 ec6)) rfl rfl rfl (by decide) rfl (Or.inr (by decide)) ?_
    refine gs_eq0 rfl (fun c7 => ?_) (fun c7 => ?_)
    · rw [if_pos c7] at e
      refine gs_ldc (x := (-1000001)) rfl (by decide) ?_
      obtain ⟨rfl, rfl⟩ := inj2 e
      exact gs_iret rfl rfl rfl rfl rfl
    · rw [if_neg c7] at e
      refine gs_iload_n rfl rfl ?_
      refine gs_i2l rfl ?_
      refine gs_lconst (w := 0) rfl (by decide) ?_
      refine gs_lconst (w := 1) rfl (by decide) ?_
      refine gs_callsI (st := []) rfl (pr_C_le (by decide) (th_X9_in L (p3.toInt64) 0 1 f1 _ rfl)) rfl rfl rfl (by decide) ?_
      refine gs_ne0 rfl (fun c8 => ?_) (fun c8 => ?_)
      · rw [if_neg c8] at e
        refine gs_aload_n rfl rfl ?_
        refine gs_iload_n rfl rfl ?_
        obtain ⟨r9, ec10, e⟩ := ob1_some e
        refine gs_callvI (st := []) rfl (pr_C_le (by decide) (th_X9_redOf L p1 f1 r9 ec10)) rfl rfl rfl (by decide) rfl (Or.inr (by decide)) ?_
        refine gs_ldc (x := (-1000000)) rfl (by decide) ?_
        refine gs_ne2 rfl (fun c11 => ?_) (fun c11 => ?_)
        · rw [if_neg c11] at e
          refine gs_ldc (x := (-1000000)) rfl (by decide) ?_
          obtain ⟨rfl, rfl⟩ := inj2 e
          exact gs_iret rfl rfl rfl rfl rfl
        · rw [if_pos c11] at e
          refine gs_aload_n rfl rfl ?_
          refine gs_iload_n rfl rfl ?_
          obtain ⟨r12, ec13, e⟩ := ob1_some e
          refine gs_callvI (st := []) rfl (pr_C_le (by decide) (th_X9_redOf L p2 f1 r12 ec13)) rfl rfl rfl (by decide) rfl (Or.inr (by decide)) ?_
          refine gs_ldc (x := (-1000000)) rfl (by decide) ?_
          refine gs_eq2 rfl (fun c14 => ?_) (fun c14 => ?_)
          · rw [if_pos c14] at e
            refine gs_iconst (x := 0) rfl (by decide) ?_
            refine gs_istore (lv' := [(4, .int 0), (0, .ref 110), (1, .int p1), (2, .int p2), (3, .int p3)]) rfl rfl ?_
            refine gs_drop [1, 2, 3, 4, 0] rfl ?_
            obtain ⟨f19, el20, e⟩ := ob1_some e
            refine tl_X9_letOut_60 L 5000 p1 p2 p3 0 f1 f19 _ _ el20 ?_
            refine gs_aload_n rfl rfl ?_
            refine gs_get rfl (gd_r (b := 137) rfl rfl rfl) ?_
            refine gs_iload_n rfl rfl ?_
            refine gs_iconst (x := 0) rfl (by decide) ?_
            by_cases hb21 : pa_in p2 625 = true
            case neg => rw [if_neg hb21] at e; cases e
            rw [if_pos hb21] at e
            refine gs_iast rfl (gd_si (j := p2.toNatClampNeg) rfl (by decide) hb21 rfl) ?_
            obtain ⟨f22, hf22, e⟩ := pn_some e
            refine gs_heap hf22 ?_
            refine gs_aload_n rfl rfl ?_
            refine gs_get rfl (gd_r (b := 138) rfl rfl rfl) ?_
            refine gs_iconst (x := 0) rfl (by decide) ?_
            refine gs_iload_n rfl rfl ?_
            refine gs_iast rfl (gd_si (j := 0) rfl (by decide) (by decide) (by decide)) ?_
            obtain ⟨f23, hf23, e⟩ := pn_some e
            refine gs_heap hf23 ?_
            refine gs_iconst (x := 1) rfl (by decide) ?_
            refine gs_istore (lv' := [(4, .int 1), (0, .ref 110), (1, .int p1), (2, .int p2), (3, .int p3)]) rfl rfl ?_
            refine gs_iconst (x := 0) rfl (by decide) ?_
            refine gs_istore (lv' := [(5, .int 0), (4, .int 1), (0, .ref 110), (1, .int p1), (2, .int p2), (3, .int p3)]) rfl rfl ?_
            refine gs_drop [2, 3, 5, 1, 0] rfl ?_
            obtain ⟨f54, el55, e⟩ := ob1_some e
            refine tl_X9_letOut_103 L 5000 p1 p3 1 0 f23 f54 _ _ el55 ?_
            refine gs_iload_n rfl rfl ?_
            refine gs_eq0 rfl (fun c56 => ?_) (fun c56 => ?_)
            · rw [if_pos c56] at e
              refine gs_iload_n rfl rfl ?_
              refine gs_ne0 rfl (fun c57 => ?_) (fun c57 => ?_)
              · rw [if_neg c57] at e
                refine gs_ldc (x := (-1000000)) rfl (by decide) ?_
                obtain ⟨rfl, rfl⟩ := inj2 e
                exact gs_iret rfl rfl rfl rfl rfl
              · rw [if_pos c57] at e
                refine gs_aload_n rfl rfl ?_
                refine gs_get rfl (gd_r (b := 137) rfl rfl rfl) ?_
                refine gs_iload_n rfl rfl ?_
                by_cases hb58 : pa_in p1 625 = true
                case neg => rw [if_neg hb58] at e; cases e
                rw [if_pos hb58] at e
                refine gs_iald rfl (gd_ia (j := p1.toNatClampNeg) rfl hb58 rfl) ?_
                refine gs_goto rfl ?_
                obtain ⟨rfl, rfl⟩ := inj2 e
                exact gs_iret rfl rfl rfl rfl rfl
            · rw [if_neg c56] at e
              refine gs_aload_n rfl rfl ?_
              refine gs_get rfl (gd_r (b := 137) rfl rfl rfl) ?_
              refine gs_iload_n rfl rfl ?_
              by_cases hb59 : pa_in p1 625 = true
              case neg => rw [if_neg hb59] at e; cases e
              rw [if_pos hb59] at e
              refine gs_iald rfl (gd_ia (j := p1.toNatClampNeg) rfl hb59 rfl) ?_
              refine gs_iconst (x := 1) rfl (by decide) ?_
              refine gs_ge2 rfl (fun c60 => ?_) (fun c60 => ?_)
              · rw [if_pos c60] at e
                refine gs_ldc (x := (-1000000)) rfl (by decide) ?_
                refine gs_istore (lv' := [(5, .int (-1000000)), (0, .ref 110), (1, .int p1), (3, .int p3)]) rfl rfl ?_
                refine gs_iconst (x := 0) rfl (by decide) ?_
                refine gs_istore (lv' := [(6, .int 0), (5, .int (-1000000)), (0, .ref 110), (1, .int p1), (3, .int p3)]) rfl rfl ?_
                refine gs_drop [2, 3, 1, 0] rfl ?_
                obtain ⟨y75, el76, e⟩ := ob1_some e
                refine tl_X9_letOut_276 L 5000 p1 (-1000000) 0 f54 y75 _ _ el76 ?_
                refine gs_iload rfl rfl ?_
                obtain ⟨rfl, rfl⟩ := inj2 e
                exact gs_iret rfl rfl rfl rfl rfl
              · rw [if_neg c60] at e
                refine gs_iload_n rfl rfl ?_
                refine gs_ne0 rfl (fun c77 => ?_) (fun c77 => ?_)
                · rw [if_neg c77] at e
                  refine gs_ldc (x := (-1000000)) rfl (by decide) ?_
                  obtain ⟨rfl, rfl⟩ := inj2 e
                  exact gs_iret rfl rfl rfl rfl rfl
                · rw [if_pos c77] at e
                  refine gs_aload_n rfl rfl ?_
                  refine gs_get rfl (gd_r (b := 137) rfl rfl rfl) ?_
                  refine gs_iload_n rfl rfl ?_
                  by_cases hb78 : pa_in p1 625 = true
                  case neg => rw [if_neg hb78] at e; cases e
                  rw [if_pos hb78] at e
                  refine gs_iald rfl (gd_ia (j := p1.toNatClampNeg) rfl hb78 rfl) ?_
                  refine gs_goto rfl ?_
                  obtain ⟨rfl, rfl⟩ := inj2 e
                  exact gs_iret rfl rfl rfl rfl rfl
          · rw [if_neg c14] at e
            refine gs_ldc (x := (-1000000)) rfl (by decide) ?_
            obtain ⟨rfl, rfl⟩ := inj2 e
            exact gs_iret rfl rfl rfl rfl rfl
      · rw [if_pos c8] at e
        refine gs_ldc (x := (-1000001)) rfl (by decide) ?_
        obtain ⟨rfl, rfl⟩ := inj2 e
        exact gs_iret rfl rfl rfl rfl rfl
def lp_X9_hours_17 : Nat → Int32 → Int32 → pd_M → Option (pd_M)
  | 0, _, _, _ => none
  | n + 1, z1, z2, f =>
    if 4 ≤ z2 then
    some (f)
    else
    if pa_in z2 4 = true then
    pn ((pi_up f 139 (z2.toNatClampNeg) (-1000000))) fun f7 =>
    pn (z2 + 1) fun x8 =>
    lp_X9_hours_17 n z1 x8 f7
    else none
def lp_X9_hours_61 : Nat → Int32 → Int32 → Int32 → Int32 → Int32 → pd_M → Option (Int32)
  | 0, _, _, _, _, _, _ => none
  | n + 1, z1, z2, z3, z4, z5, f =>
    if 4 ≤ z5 then
    some (z4)
    else
    if z4 = (-1000000) then
    some (z4)
    else
    if pa_in z3 4 = true then
    ob1 (if (((f 133 z3.toNatClampNeg) >>> (z5 &&& 31)) &&& 1) = 1 then
    some (1)
    else
    some (0)) fun (v19 : Int32) =>
    ob1 (if v19 = 0 then
    some (z4)
    else
    if pa_in z5 4 = true then
    if (f 139 z5.toNatClampNeg) = (-1000000) then
    some ((-1000000))
    else
    if pa_in z5 4 = true then
    some ((z4 + (f 139 z5.toNatClampNeg)))
    else none
    else none) fun (v21 : Int32) =>
    pn (z5 + 1) fun x25 =>
    lp_X9_hours_61 n z1 z2 z3 v21 x25 f
    else none
def lp_X9_hours_45 : Nat → Int32 → Int32 → Int32 → pd_M → Option (pd_M)
  | 0, _, _, _, _ => none
  | n + 1, z1, z2, z3, f =>
    if 4 ≤ z3 then
    some (f)
    else
    if pa_in z3 4 = true then
    pn ((f 132 z3.toNatClampNeg)) fun x14 =>
    ob1 (lp_X9_hours_61 5000 z1 z2 z3 x14 0 f) fun y26 =>
    if pa_in z3 4 = true then
    ob1 (if (f 139 z3.toNatClampNeg) = (-1000000) then
    some (y26)
    else
    if pa_in z3 4 = true then
    some ((f 139 z3.toNatClampNeg))
    else none) fun (v30 : Int32) =>
    if pa_in z3 4 = true then
    pn ((pi_up f 139 (z3.toNatClampNeg) v30)) fun f33 =>
    pn (z3 + 1) fun x34 =>
    lp_X9_hours_45 n z1 z2 x34 f33
    else none
    else none
    else none
def lp_X9_hours_38 : Nat → Int32 → Int32 → pd_M → Option (pd_M)
  | 0, _, _, _ => none
  | n + 1, z1, z2, f =>
    if 4 ≤ z2 then
    some (f)
    else
    ob1 (lp_X9_hours_45 5000 z1 z2 0 f) fun f35 =>
    pn (z2 + 1) fun x37 =>
    lp_X9_hours_38 n z1 x37 f35
def fn_X9_hours (p1 : Int32) (f : pd_M) : Option (Int32 × pd_M) :=
  pn ((pi_up f 110 0 0)) fun f1 =>
  ob1 (fn_X9_isService p1) fun r2 =>
  if r2 = 0 then
  some ((-1000001), f1)
  else
  ob1 (lp_X9_hours_17 5000 p1 0 f1) fun f9 =>
  ob1 (lp_X9_hours_38 5000 p1 0 f9) fun f38 =>
  if pa_in p1 4 = true then
  some ((f38 139 p1.toNatClampNeg), f38)
  else none
set_option maxRecDepth 100000 in
set_option maxHeartbeats 4000000 in
theorem tl_X9_hours_17 (L : Nat) : ∀ (n : Nat) (z1 : Int32) (z2 : Int32) (f : pd_M) (w0 : pd_M) (r : Option Value) (h2 : ph_T), lp_X9_hours_17 n z1 z2 f = some (w0) → pr_G L 2 mt_X9_hours (36, [(0, .ref 110), (1, .int z1)], [], hH w0) r h2 → pr_G L 2 mt_X9_hours (17, [(0, .ref 110), (1, .int z1), (2, .int z2)], [], hH f) r h2 := by
  intro n
  induction n with
  | zero => intro z1 z2 f w0 r h2 e; cases e
  | succ n ih =>
    intro z1 z2 f w0 r h2 e K
    unfold lp_X9_hours_17 at e
    refine gs_iload_n rfl rfl ?_
    refine gs_iconst (x := 4) rfl (by decide) ?_
    refine gs_ge2 rfl (fun c5 => ?_) (fun c5 => ?_)
    · rw [if_pos c5] at e
      obtain rfl := inj1 e
      refine gs_drop [0, 1] rfl ?_
      exact K
    · rw [if_neg c5] at e
      refine gs_aload_n rfl rfl ?_
      refine gs_get rfl (gd_r (b := 139) rfl rfl rfl) ?_
      refine gs_iload_n rfl rfl ?_
      refine gs_ldc (x := (-1000000)) rfl (by decide) ?_
      by_cases hb6 : pa_in z2 4 = true
      case neg => rw [if_neg hb6] at e; cases e
      rw [if_pos hb6] at e
      refine gs_iast rfl (gd_si (j := z2.toNatClampNeg) rfl (by decide) hb6 rfl) ?_
      obtain ⟨f7, hf7, e⟩ := pn_some e
      refine gs_heap hf7 ?_
      obtain ⟨x8, hx8, e⟩ := pn_some e
      refine gs_iinc1 (x1 := x8) (c := 1) (lv' := [(2, .int x8), (0, .ref 110), (1, .int z1)]) rfl rfl (by decide) hx8 rfl ?_
      refine gs_goto rfl ?_
      refine gs_drop [1, 2, 0] rfl ?_
      exact ih z1 x8 f7 w0 _ _ e K
set_option maxRecDepth 100000 in
set_option maxHeartbeats 4000000 in
theorem tl_X9_hours_61 (L : Nat) : ∀ (n : Nat) (z1 : Int32) (z2 : Int32) (z3 : Int32) (z4 : Int32) (z5 : Int32) (f : pd_M) (w0 : Int32) (r : Option Value) (h2 : ph_T), lp_X9_hours_61 n z1 z2 z3 z4 z5 f = some (w0) → pr_G L 2 mt_X9_hours (141, [(0, .ref 110), (1, .int z1), (2, .int z2), (3, .int z3), (4, .int w0)], [], hH f) r h2 → pr_G L 2 mt_X9_hours (61, [(0, .ref 110), (1, .int z1), (2, .int z2), (3, .int z3), (4, .int z4), (5, .int z5)], [], hH f) r h2 := by
  intro n
  induction n with
  | zero => intro z1 z2 z3 z4 z5 f w0 r h2 e; cases e
  | succ n ih =>
    intro z1 z2 z3 z4 z5 f w0 r h2 e K
    unfold lp_X9_hours_61 at e
    refine gs_iload rfl rfl ?_
    refine gs_iconst (x := 4) rfl (by decide) ?_
    refine gs_ge2 rfl (fun c15 => ?_) (fun c15 => ?_)
    · rw [if_pos c15] at e
      obtain rfl := inj1 e
      refine gs_drop [0, 1, 2, 3, 4] rfl ?_
      exact K
    · rw [if_neg c15] at e
      refine gs_iload rfl rfl ?_
      refine gs_ldc (x := (-1000000)) rfl (by decide) ?_
      refine gs_eq2 rfl (fun c16 => ?_) (fun c16 => ?_)
      · rw [if_pos c16] at e
        obtain rfl := inj1 e
        refine gs_drop [0, 1, 2, 3, 4] rfl ?_
        exact K
      · rw [if_neg c16] at e
        refine gs_aload_n rfl rfl ?_
        refine gs_get rfl (gd_r (b := 133) rfl rfl rfl) ?_
        refine gs_iload_n rfl rfl ?_
        by_cases hb17 : pa_in z3 4 = true
        case neg => rw [if_neg hb17] at e; cases e
        rw [if_pos hb17] at e
        refine gs_iald rfl (gd_ia (j := z3.toNatClampNeg) rfl hb17 rfl) ?_
        refine gs_iload rfl rfl ?_
        refine gs_ishr rfl ?_
        refine gs_iconst (x := 1) rfl (by decide) ?_
        refine gs_iand rfl ?_
        refine gs_iconst (x := 1) rfl (by decide) ?_
        obtain ⟨v19, ev94, e⟩ := ob1_some e
        have KJ94 : pr_G L 2 mt_X9_hours (94, [(0, .ref 110), (1, .int z1), (2, .int z2), (3, .int z3), (4, .int z4), (5, .int z5)], [.int v19], hH f) r h2 := by
          refine gs_istore (lv' := [(6, .int v19), (0, .ref 110), (1, .int z1), (2, .int z2), (3, .int z3), (4, .int z4), (5, .int z5)]) rfl rfl ?_
          refine gs_iload rfl rfl ?_
          obtain ⟨v21, ev133, e⟩ := ob1_some e
          have KJ133 : pr_G L 2 mt_X9_hours (133, [(0, .ref 110), (1, .int z1), (2, .int z2), (3, .int z3), (5, .int z5)], [.int v21], hH f) r h2 := by
            refine gs_istore (lv' := [(4, .int v21), (0, .ref 110), (1, .int z1), (2, .int z2), (3, .int z3), (5, .int z5)]) rfl rfl ?_
            obtain ⟨x25, hx25, e⟩ := pn_some e
            refine gs_iinc1 (x1 := x25) (c := 1) (lv' := [(5, .int x25), (4, .int v21), (0, .ref 110), (1, .int z1), (2, .int z2), (3, .int z3)]) rfl rfl (by decide) hx25 rfl ?_
            refine gs_goto rfl ?_
            refine gs_drop [2, 3, 4, 5, 1, 0] rfl ?_
            exact ih z1 z2 z3 v21 x25 f w0 _ _ e K
          have e := ev133
          clear ev133
          refine gs_ne0 rfl (fun c20 => ?_) (fun c20 => ?_)
          · rw [if_neg c20] at e
            refine gs_aload_n rfl rfl ?_
            refine gs_get rfl (gd_r (b := 139) rfl rfl rfl) ?_
            refine gs_iload rfl rfl ?_
            by_cases hb22 : pa_in z5 4 = true
            case neg => rw [if_neg hb22] at e; cases e
            rw [if_pos hb22] at e
            refine gs_iald rfl (gd_ia (j := z5.toNatClampNeg) rfl hb22 rfl) ?_
            refine gs_ldc (x := (-1000000)) rfl (by decide) ?_
            refine gs_ne2 rfl (fun c23 => ?_) (fun c23 => ?_)
            · rw [if_neg c23] at e
              refine gs_iload rfl rfl ?_
              refine gs_aload_n rfl rfl ?_
              refine gs_get rfl (gd_r (b := 139) rfl rfl rfl) ?_
              refine gs_iload rfl rfl ?_
              by_cases hb24 : pa_in z5 4 = true
              case neg => rw [if_neg hb24] at e; cases e
              rw [if_pos hb24] at e
              refine gs_iald rfl (gd_ia (j := z5.toNatClampNeg) rfl hb24 rfl) ?_
              refine gs_iadd rfl ?_
              obtain rfl := inj1 e
              refine gs_drop [1, 2, 3, 4, 6] rfl ?_
              exact KJ133
            · rw [if_pos c23] at e
              refine gs_ldc (x := (-1000000)) rfl (by decide) ?_
              refine gs_goto rfl ?_
              obtain rfl := inj1 e
              refine gs_drop [1, 2, 3, 4, 6] rfl ?_
              exact KJ133
          · rw [if_pos c20] at e
            refine gs_iload rfl rfl ?_
            refine gs_goto rfl ?_
            obtain rfl := inj1 e
            refine gs_drop [1, 2, 3, 4, 6] rfl ?_
            exact KJ133
        have e := ev94
        clear ev94
        refine gs_ne2 rfl (fun c18 => ?_) (fun c18 => ?_)
        · rw [if_neg c18] at e
          refine gs_iconst (x := 0) rfl (by decide) ?_
          obtain rfl := inj1 e
          refine gs_drop [0, 1, 2, 3, 4, 5] rfl ?_
          exact KJ94
        · rw [if_pos c18] at e
          refine gs_iconst (x := 1) rfl (by decide) ?_
          refine gs_goto rfl ?_
          obtain rfl := inj1 e
          refine gs_drop [0, 1, 2, 3, 4, 5] rfl ?_
          exact KJ94
set_option maxRecDepth 100000 in
set_option maxHeartbeats 4000000 in
theorem tl_X9_hours_45 (L : Nat) : ∀ (n : Nat) (z1 : Int32) (z2 : Int32) (z3 : Int32) (f : pd_M) (w0 : pd_M) (r : Option Value) (h2 : ph_T), lp_X9_hours_45 n z1 z2 z3 f = some (w0) → pr_G L 2 mt_X9_hours (175, [(0, .ref 110), (1, .int z1), (2, .int z2)], [], hH w0) r h2 → pr_G L 2 mt_X9_hours (45, [(0, .ref 110), (1, .int z1), (2, .int z2), (3, .int z3)], [], hH f) r h2 := by
  intro n
  induction n with
  | zero => intro z1 z2 z3 f w0 r h2 e; cases e
  | succ n ih =>
    intro z1 z2 z3 f w0 r h2 e K
    unfold lp_X9_hours_45 at e
    refine gs_iload_n rfl rfl ?_
    refine gs_iconst (x := 4) rfl (by decide) ?_
    refine gs_ge2 rfl (fun c12 => ?_) (fun c12 => ?_)
    · rw [if_pos c12] at e
      obtain rfl := inj1 e
      refine gs_drop [0, 1, 2] rfl ?_
      exact K
    · rw [if_neg c12] at e
      refine gs_aload_n rfl rfl ?_
      refine gs_get rfl (gd_r (b := 132) rfl rfl rfl) ?_
      refine gs_iload_n rfl rfl ?_
      by_cases hb13 : pa_in z3 4 = true
      case neg => rw [if_neg hb13] at e; cases e
      rw [if_pos hb13] at e
      refine gs_iald rfl (gd_ia (j := z3.toNatClampNeg) rfl hb13 rfl) ?_
      obtain ⟨x14, hx14, e⟩ := pn_some e
      refine gs_topi hx14 ?_
      refine gs_istore (lv' := [(4, .int x14), (0, .ref 110), (1, .int z1), (2, .int z2), (3, .int z3)]) rfl rfl ?_
      refine gs_iconst (x := 0) rfl (by decide) ?_
      refine gs_istore (lv' := [(5, .int 0), (4, .int x14), (0, .ref 110), (1, .int z1), (2, .int z2), (3, .int z3)]) rfl rfl ?_
      refine gs_drop [2, 3, 4, 5, 1, 0] rfl ?_
      obtain ⟨y26, el27, e⟩ := ob1_some e
      refine tl_X9_hours_61 L 5000 z1 z2 z3 x14 0 f y26 _ _ el27 ?_
      refine gs_aload_n rfl rfl ?_
      refine gs_get rfl (gd_r (b := 139) rfl rfl rfl) ?_
      refine gs_iload_n rfl rfl ?_
      refine gs_aload_n rfl rfl ?_
      refine gs_get rfl (gd_r (b := 139) rfl rfl rfl) ?_
      refine gs_iload_n rfl rfl ?_
      by_cases hb28 : pa_in z3 4 = true
      case neg => rw [if_neg hb28] at e; cases e
      rw [if_pos hb28] at e
      refine gs_iald rfl (gd_ia (j := z3.toNatClampNeg) rfl hb28 rfl) ?_
      refine gs_ldc (x := (-1000000)) rfl (by decide) ?_
      obtain ⟨v30, ev168, e⟩ := ob1_some e
      have KJ168 : pr_G L 2 mt_X9_hours (168, [(0, .ref 110), (1, .int z1), (2, .int z2), (3, .int z3)], [.int v30, .int z3, .ref 139], hH f) r h2 := by
        by_cases hb32 : pa_in z3 4 = true
        case neg => rw [if_neg hb32] at e; cases e
        rw [if_pos hb32] at e
        refine gs_iast rfl (gd_si (j := z3.toNatClampNeg) rfl (by decide) hb32 rfl) ?_
        obtain ⟨f33, hf33, e⟩ := pn_some e
        refine gs_heap hf33 ?_
        obtain ⟨x34, hx34, e⟩ := pn_some e
        refine gs_iinc1 (x1 := x34) (c := 1) (lv' := [(3, .int x34), (0, .ref 110), (1, .int z1), (2, .int z2)]) rfl rfl (by decide) hx34 rfl ?_
        refine gs_goto rfl ?_
        refine gs_drop [1, 2, 3, 0] rfl ?_
        exact ih z1 z2 x34 f33 w0 _ _ e K
      have e := ev168
      clear ev168
      refine gs_ne2 rfl (fun c29 => ?_) (fun c29 => ?_)
      · rw [if_neg c29] at e
        refine gs_aload_n rfl rfl ?_
        refine gs_get rfl (gd_r (b := 139) rfl rfl rfl) ?_
        refine gs_iload_n rfl rfl ?_
        by_cases hb31 : pa_in z3 4 = true
        case neg => rw [if_neg hb31] at e; cases e
        rw [if_pos hb31] at e
        refine gs_iald rfl (gd_ia (j := z3.toNatClampNeg) rfl hb31 rfl) ?_
        obtain rfl := inj1 e
        refine gs_drop [0, 1, 2, 3] rfl ?_
        exact KJ168
      · rw [if_pos c29] at e
        refine gs_iload rfl rfl ?_
        refine gs_goto rfl ?_
        obtain rfl := inj1 e
        refine gs_drop [0, 1, 2, 3] rfl ?_
        exact KJ168
set_option maxRecDepth 100000 in
set_option maxHeartbeats 4000000 in
theorem tl_X9_hours_38 (L : Nat) : ∀ (n : Nat) (z1 : Int32) (z2 : Int32) (f : pd_M) (w0 : pd_M) (r : Option Value) (h2 : ph_T), lp_X9_hours_38 n z1 z2 f = some (w0) → pr_G L 2 mt_X9_hours (181, [(0, .ref 110), (1, .int z1)], [], hH w0) r h2 → pr_G L 2 mt_X9_hours (38, [(0, .ref 110), (1, .int z1), (2, .int z2)], [], hH f) r h2 := by
  intro n
  induction n with
  | zero => intro z1 z2 f w0 r h2 e; cases e
  | succ n ih =>
    intro z1 z2 f w0 r h2 e K
    unfold lp_X9_hours_38 at e
    refine gs_iload_n rfl rfl ?_
    refine gs_iconst (x := 4) rfl (by decide) ?_
    refine gs_ge2 rfl (fun c11 => ?_) (fun c11 => ?_)
    · rw [if_pos c11] at e
      obtain rfl := inj1 e
      refine gs_drop [0, 1] rfl ?_
      exact K
    · rw [if_neg c11] at e
      refine gs_iconst (x := 0) rfl (by decide) ?_
      refine gs_istore_n (lv' := [(3, .int 0), (0, .ref 110), (1, .int z1), (2, .int z2)]) rfl rfl ?_
      refine gs_drop [1, 2, 3, 0] rfl ?_
      obtain ⟨f35, el36, e⟩ := ob1_some e
      refine tl_X9_hours_45 L 5000 z1 z2 0 f f35 _ _ el36 ?_
      obtain ⟨x37, hx37, e⟩ := pn_some e
      refine gs_iinc1 (x1 := x37) (c := 1) (lv' := [(2, .int x37), (0, .ref 110), (1, .int z1)]) rfl rfl (by decide) hx37 rfl ?_
      refine gs_goto rfl ?_
      refine gs_drop [1, 2, 0] rfl ?_
      exact ih z1 x37 f35 w0 _ _ e K
set_option maxRecDepth 100000 in
set_option maxHeartbeats 4000000 in
theorem th_X9_hours (L : Nat) (p1 : Int32) (f : pd_M) (q : Int32) (g : pd_M) (e : fn_X9_hours p1 f = some (q, g)) : pr_C L 3 169 [.ref 110, .int p1] (hH f) (some (.int q)) (hH g) := by
  refine pr_C.of (G := mt_X9_hours) rfl rfl ?_
  show pr_G L 2 mt_X9_hours (0, [(0, .ref 110), (1, .int p1)], [], hH f) _ _
  unfold fn_X9_hours at e
  refine gs_aload_n rfl rfl ?_
  refine gs_iconst (x := 0) rfl (by decide) ?_
  refine gs_put rfl (gd_pi rfl rfl) ?_
  obtain ⟨f1, hf1, e⟩ := pn_some e
  refine gs_heap hf1 ?_
  refine gs_iload_n rfl rfl ?_
  obtain ⟨r2, ec3, e⟩ := ob1_some e
  refine gs_callsI (st := []) rfl (pr_C_le (by decide) (th_X9_isService L p1 f1 r2 ec3)) rfl rfl rfl (by decide) ?_
  refine gs_ne0 rfl (fun c4 => ?_) (fun c4 => ?_)
  · rw [if_neg c4] at e
    refine gs_iconst (x := 0) rfl (by decide) ?_
    refine gs_istore_n (lv' := [(2, .int 0), (0, .ref 110), (1, .int p1)]) rfl rfl ?_
    refine gs_drop [1, 2, 0] rfl ?_
    obtain ⟨f9, el10, e⟩ := ob1_some e
    refine tl_X9_hours_17 L 5000 p1 0 f1 f9 _ _ el10 ?_
    refine gs_iconst (x := 0) rfl (by decide) ?_
    refine gs_istore_n (lv' := [(2, .int 0), (0, .ref 110), (1, .int p1)]) rfl rfl ?_
    refine gs_drop [1, 2, 0] rfl ?_
    obtain ⟨f38, el39, e⟩ := ob1_some e
    refine tl_X9_hours_38 L 5000 p1 0 f9 f38 _ _ el39 ?_
    refine gs_aload_n rfl rfl ?_
    refine gs_get rfl (gd_r (b := 139) rfl rfl rfl) ?_
    refine gs_iload_n rfl rfl ?_
    by_cases hb40 : pa_in p1 4 = true
    case neg => rw [if_neg hb40] at e; cases e
    rw [if_pos hb40] at e
    refine gs_iald rfl (gd_ia (j := p1.toNatClampNeg) rfl hb40 rfl) ?_
    obtain ⟨rfl, rfl⟩ := inj2 e
    exact gs_iret rfl rfl rfl rfl rfl
  · rw [if_pos c4] at e
    refine gs_ldc (x := (-1000001)) rfl (by decide) ?_
    obtain ⟨rfl, rfl⟩ := inj2 e
    exact gs_iret rfl rfl rfl rfl rfl
