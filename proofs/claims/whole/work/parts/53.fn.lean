def fn_X9_mustRefuseOrGive (f : pd_M) : Option (pd_M) :=
  if (f 110 37) = 0 then
  ob1 (fn_X9_word f) fun r2 =>
  ob1 (if (lg_cmp r2 125779836236645) = 0 then
  some (1)
  else
  ob1 (fn_X9_word f) fun r6 =>
  if (lg_cmp r6 1734964837) = 0 then
  some (1)
  else
  some (0)) fun (v5 : Int32) =>
  ob1 (fn_X9_must v5 f) fun f9 =>
  some f9
  else
  some f
set_option maxRecDepth 100000 in
set_option maxHeartbeats 4000000 in
theorem th_X9_mustRefuseOrGive (L : Nat)  (f : pd_M) (g : pd_M) (e : fn_X9_mustRefuseOrGive f = some g) : pr_C L 4 133 [.ref 110] (hH f) none (hH g) := by
  refine pr_C.of (G := mt_X9_mustRefuseOrGive) rfl rfl ?_
  show pr_G L 3 mt_X9_mustRefuseOrGive (0, [(0, .ref 110)], [], hH f) _ _
  unfold fn_X9_mustRefuseOrGive at e
  refine gs_aload_n rfl rfl ?_
  refine gs_get rfl (gd_i rfl rfl) ?_
  refine gs_ne0 rfl (fun c1 => ?_) (fun c1 => ?_)
  · rw [if_neg c1] at e
    obtain rfl := inj1 e
    exact gs_vret rfl rfl rfl rfl
  · rw [if_pos c1] at e
    refine gs_aload_n rfl rfl ?_
    refine gs_aload_n rfl rfl ?_
    obtain ⟨r2, ec3, e⟩ := ob1_some e
    refine gs_callvL (st := [.ref 110]) rfl (pr_C_le (by decide) (th_X9_word L f r2 ec3)) rfl rfl rfl (by decide) rfl (Or.inr (by decide)) ?_
    refine gs_ldc2 (w := 125779836236645) rfl (by decide) ?_
    refine gs_lcmp rfl ?_
    obtain ⟨v5, ev35, e⟩ := ob1_some e
    have KJ35 : pr_G L 3 mt_X9_mustRefuseOrGive (35, [], [.int v5, .ref 110], hH f) none (hH g) := by
      obtain ⟨f9, ec10, e⟩ := ob1_some e
      refine gs_callvV (st := []) rfl (pr_C_le (by decide) (th_X9_must L v5 f f9 ec10)) rfl rfl rfl (by decide) rfl (Or.inr (by decide)) ?_
      obtain rfl := inj1 e
      exact gs_vret rfl rfl rfl rfl
    have e := ev35
    clear ev35
    refine gs_eq0 rfl (fun c4 => ?_) (fun c4 => ?_)
    · rw [if_pos c4] at e
      refine gs_iconst (x := 1) rfl (by decide) ?_
      refine gs_goto rfl ?_
      obtain rfl := inj1 e
      refine gs_drop [] rfl ?_
      exact KJ35
    · rw [if_neg c4] at e
      refine gs_aload_n rfl rfl ?_
      obtain ⟨r6, ec7, e⟩ := ob1_some e
      refine gs_callvL (st := [.ref 110]) rfl (pr_C_le (by decide) (th_X9_word L f r6 ec7)) rfl rfl rfl (by decide) rfl (Or.inr (by decide)) ?_
      refine gs_ldc2 (w := 1734964837) rfl (by decide) ?_
      refine gs_lcmp rfl ?_
      refine gs_ne0 rfl (fun c8 => ?_) (fun c8 => ?_)
      · rw [if_neg c8] at e
        refine gs_iconst (x := 0) rfl (by decide) ?_
        obtain rfl := inj1 e
        refine gs_drop [] rfl ?_
        exact KJ35
      · rw [if_pos c8] at e
        refine gs_iconst (x := 1) rfl (by decide) ?_
        refine gs_goto rfl ?_
        obtain rfl := inj1 e
        refine gs_drop [] rfl ?_
        exact KJ35
def lp_X9_readRule_103 : Nat → Int32 → Int32 → Int32 → Int32 → Int32 → Int32 → Int32 → Int32 → Int32 → pd_M → Option (Int32 × pd_M)
  | 0, _, _, _, _, _, _, _, _, _, _ => none
  | n + 1, z1, z2, z3, z4, z5, z6, z7, z8, z9, f =>
    if 4 ≤ z9 then
    some (z7, f)
    else
    if z6 = 0 then
    some (z7, f)
    else
    ob2 (fn_X9_numberIn 0 6 0 f) fun r29 f30 =>
    pn ((z7 + (z8 * r29))) fun x32 =>
    pn ((z8 * 7)) fun x33 =>
    pn (z9 + 1) fun x34 =>
    lp_X9_readRule_103 n z1 z2 z3 z4 z5 z6 x32 x33 x34 f30
def fn_X9_readRule (p1 : Int32) (f : pd_M) : Option (pd_M) :=
  if pa_in p1 16 = true then
  ob1 (if (f 116 p1.toNatClampNeg) = 6 then
  ob1 (fn_X9_bad 3 f) fun f4 =>
  some (f4)
  else
  some (f)) fun (f3 : pd_M) =>
  ob1 (fn_X9_must 1 f3) fun f6 =>
  if pa_in p1 16 = true then
  pn (((6 * p1) + (f6 116 p1.toNatClampNeg))) fun x9 =>
  ob2 (fn_X9_numberIn 0 7 0 f6) fun r10 f11 =>
  ob2 (fn_X9_numberIn r10 7 0 f11) fun r13 f14 =>
  ob2 (fn_X9_numberIn 0 3 0 f14) fun r16 f17 =>
  ob1 (fn_X9_word f17) fun r19 =>
  ob1 (if (lg_cmp r19 1734964837) = 0 then
  some (1)
  else
  some (0)) fun (v22 : Int32) =>
  ob1 (fn_X9_mustRefuseOrGive f17) fun f23 =>
  ob1 (if v22 = 0 then
  some (2401)
  else
  some (0)) fun (v26 : Int32) =>
  ob2 (lp_X9_readRule_103 5000 p1 x9 r10 r13 r16 v22 v26 1 0 f23) fun y35 f36 =>
  if (f36 110 37) = 0 then
  if pa_in x9 96 = true then
  pn ((pi_up f36 117 (x9.toNatClampNeg) r10)) fun f40 =>
  if pa_in x9 96 = true then
  pn ((pi_up f40 118 (x9.toNatClampNeg) r13)) fun f42 =>
  if pa_in x9 96 = true then
  pn ((pi_up f42 119 (x9.toNatClampNeg) r16)) fun f44 =>
  if pa_in x9 96 = true then
  pn ((pi_up f44 120 (x9.toNatClampNeg) y35)) fun f46 =>
  if pa_in p1 16 = true then
  if pa_in p1 16 = true then
  pn ((pi_up f46 116 (p1.toNatClampNeg) ((f46 116 p1.toNatClampNeg) + 1))) fun f49 =>
  some f49
  else none
  else none
  else none
  else none
  else none
  else none
  else
  some f36
  else none
  else none
set_option maxRecDepth 100000 in
set_option maxHeartbeats 4000000 in
theorem tl_X9_readRule_103 (L : Nat) : ∀ (n : Nat) (z1 : Int32) (z2 : Int32) (z3 : Int32) (z4 : Int32) (z5 : Int32) (z6 : Int32) (z7 : Int32) (z8 : Int32) (z9 : Int32) (f : pd_M) (w0 : Int32) (w1 : pd_M) (r : Option Value) (h2 : ph_T), lp_X9_readRule_103 n z1 z2 z3 z4 z5 z6 z7 z8 z9 f = some (w0, w1) → pr_G L 4 mt_X9_readRule (143, [(0, .ref 110), (1, .int z1), (2, .int z2), (3, .int z3), (4, .int z4), (5, .int z5), (7, .int w0)], [], hH w1) r h2 → pr_G L 4 mt_X9_readRule (103, [(0, .ref 110), (1, .int z1), (2, .int z2), (3, .int z3), (4, .int z4), (5, .int z5), (6, .int z6), (7, .int z7), (8, .int z8), (9, .int z9)], [], hH f) r h2 := by
  intro n
  induction n with
  | zero => intro z1 z2 z3 z4 z5 z6 z7 z8 z9 f w0 w1 r h2 e; cases e
  | succ n ih =>
    intro z1 z2 z3 z4 z5 z6 z7 z8 z9 f w0 w1 r h2 e K
    unfold lp_X9_readRule_103 at e
    refine gs_iload rfl rfl ?_
    refine gs_iconst (x := 4) rfl (by decide) ?_
    refine gs_ge2 rfl (fun c27 => ?_) (fun c27 => ?_)
    · rw [if_pos c27] at e
      obtain ⟨rfl, rfl⟩ := inj2 e
      refine gs_drop [0, 1, 2, 3, 4, 5, 7] rfl ?_
      exact K
    · rw [if_neg c27] at e
      refine gs_iload rfl rfl ?_
      refine gs_eq0 rfl (fun c28 => ?_) (fun c28 => ?_)
      · rw [if_pos c28] at e
        obtain ⟨rfl, rfl⟩ := inj2 e
        refine gs_drop [0, 1, 2, 3, 4, 5, 7] rfl ?_
        exact K
      · rw [if_neg c28] at e
        refine gs_iload rfl rfl ?_
        refine gs_iload rfl rfl ?_
        refine gs_aload_n rfl rfl ?_
        refine gs_iconst (x := 0) rfl (by decide) ?_
        refine gs_bipush (x := 6) rfl (by decide) ?_
        refine gs_iconst (x := 0) rfl (by decide) ?_
        obtain ⟨r29, f30, ec31, e⟩ := ob2_some e
        refine gs_callvI (st := [.int z8, .int z7]) rfl (pr_C_le (by decide) (th_X9_numberIn L 0 6 0 f r29 f30 ec31)) rfl rfl rfl (by decide) rfl (Or.inr (by decide)) ?_
        refine gs_imul rfl ?_
        refine gs_iadd rfl ?_
        obtain ⟨x32, hx32, e⟩ := pn_some e
        refine gs_topi hx32 ?_
        refine gs_istore (lv' := [(7, .int x32), (0, .ref 110), (1, .int z1), (2, .int z2), (3, .int z3), (4, .int z4), (5, .int z5), (6, .int z6), (8, .int z8), (9, .int z9)]) rfl rfl ?_
        refine gs_iload rfl rfl ?_
        refine gs_bipush (x := 7) rfl (by decide) ?_
        refine gs_imul rfl ?_
        obtain ⟨x33, hx33, e⟩ := pn_some e
        refine gs_topi hx33 ?_
        refine gs_istore (lv' := [(8, .int x33), (7, .int x32), (0, .ref 110), (1, .int z1), (2, .int z2), (3, .int z3), (4, .int z4), (5, .int z5), (6, .int z6), (9, .int z9)]) rfl rfl ?_
        obtain ⟨x34, hx34, e⟩ := pn_some e
        refine gs_iinc1 (x1 := x34) (c := 1) (lv' := [(9, .int x34), (8, .int x33), (7, .int x32), (0, .ref 110), (1, .int z1), (2, .int z2), (3, .int z3), (4, .int z4), (5, .int z5), (6, .int z6)]) rfl rfl (by decide) hx34 rfl ?_
        refine gs_goto rfl ?_
        refine gs_drop [3, 4, 5, 6, 7, 8, 9, 2, 1, 0] rfl ?_
        exact ih z1 z2 z3 z4 z5 z6 x32 x33 x34 f30 w0 w1 _ _ e K
set_option maxRecDepth 100000 in
set_option maxHeartbeats 4000000 in
theorem th_X9_readRule (L : Nat) (p1 : Int32) (f : pd_M) (g : pd_M) (e : fn_X9_readRule p1 f = some g) : pr_C L 5 134 [.ref 110, .int p1] (hH f) none (hH g) := by
  refine pr_C.of (G := mt_X9_readRule) rfl rfl ?_
  show pr_G L 4 mt_X9_readRule (0, [(0, .ref 110), (1, .int p1)], [], hH f) _ _
  unfold fn_X9_readRule at e
  refine gs_aload_n rfl rfl ?_
  refine gs_get rfl (gd_r (b := 116) rfl rfl rfl) ?_
  refine gs_iload_n rfl rfl ?_
  by_cases hb1 : pa_in p1 16 = true
  case neg => rw [if_neg hb1] at e; cases e
  rw [if_pos hb1] at e
  refine gs_iald rfl (gd_ia (j := p1.toNatClampNeg) rfl hb1 rfl) ?_
  refine gs_bipush (x := 6) rfl (by decide) ?_
  obtain ⟨f3, ev16, e⟩ := ob1_some e
  have KJ16 : pr_G L 4 mt_X9_readRule (16, [(0, .ref 110), (1, .int p1)], [], hH f3) none (hH g) := by
    refine gs_aload_n rfl rfl ?_
    refine gs_iconst (x := 1) rfl (by decide) ?_
    obtain ⟨f6, ec7, e⟩ := ob1_some e
    refine gs_callvV (st := []) rfl (pr_C_le (by decide) (th_X9_must L 1 f3 f6 ec7)) rfl rfl rfl (by decide) rfl (Or.inr (by decide)) ?_
    refine gs_bipush (x := 6) rfl (by decide) ?_
    refine gs_iload_n rfl rfl ?_
    refine gs_imul rfl ?_
    refine gs_aload_n rfl rfl ?_
    refine gs_get rfl (gd_r (b := 116) rfl rfl rfl) ?_
    refine gs_iload_n rfl rfl ?_
    by_cases hb8 : pa_in p1 16 = true
    case neg => rw [if_neg hb8] at e; cases e
    rw [if_pos hb8] at e
    refine gs_iald rfl (gd_ia (j := p1.toNatClampNeg) rfl hb8 rfl) ?_
    refine gs_iadd rfl ?_
    obtain ⟨x9, hx9, e⟩ := pn_some e
    refine gs_topi hx9 ?_
    refine gs_istore_n (lv' := [(2, .int x9), (0, .ref 110), (1, .int p1)]) rfl rfl ?_
    refine gs_aload_n rfl rfl ?_
    refine gs_iconst (x := 0) rfl (by decide) ?_
    refine gs_bipush (x := 7) rfl (by decide) ?_
    refine gs_iconst (x := 0) rfl (by decide) ?_
    obtain ⟨r10, f11, ec12, e⟩ := ob2_some e
    refine gs_callvI (st := []) rfl (pr_C_le (by decide) (th_X9_numberIn L 0 7 0 f6 r10 f11 ec12)) rfl rfl rfl (by decide) rfl (Or.inr (by decide)) ?_
    refine gs_istore_n (lv' := [(3, .int r10), (2, .int x9), (0, .ref 110), (1, .int p1)]) rfl rfl ?_
    refine gs_aload_n rfl rfl ?_
    refine gs_iload_n rfl rfl ?_
    refine gs_bipush (x := 7) rfl (by decide) ?_
    refine gs_iconst (x := 0) rfl (by decide) ?_
    obtain ⟨r13, f14, ec15, e⟩ := ob2_some e
    refine gs_callvI (st := []) rfl (pr_C_le (by decide) (th_X9_numberIn L r10 7 0 f11 r13 f14 ec15)) rfl rfl rfl (by decide) rfl (Or.inr (by decide)) ?_
    refine gs_istore (lv' := [(4, .int r13), (3, .int r10), (2, .int x9), (0, .ref 110), (1, .int p1)]) rfl rfl ?_
    refine gs_aload_n rfl rfl ?_
    refine gs_iconst (x := 0) rfl (by decide) ?_
    refine gs_iconst (x := 3) rfl (by decide) ?_
    refine gs_iconst (x := 0) rfl (by decide) ?_
    obtain ⟨r16, f17, ec18, e⟩ := ob2_some e
    refine gs_callvI (st := []) rfl (pr_C_le (by decide) (th_X9_numberIn L 0 3 0 f14 r16 f17 ec18)) rfl rfl rfl (by decide) rfl (Or.inr (by decide)) ?_
    refine gs_istore (lv' := [(5, .int r16), (4, .int r13), (3, .int r10), (2, .int x9), (0, .ref 110), (1, .int p1)]) rfl rfl ?_
    refine gs_aload_n rfl rfl ?_
    obtain ⟨r19, ec20, e⟩ := ob1_some e
    refine gs_callvL (st := []) rfl (pr_C_le (by decide) (th_X9_word L f17 r19 ec20)) rfl rfl rfl (by decide) rfl (Or.inr (by decide)) ?_
    refine gs_ldc2 (w := 1734964837) rfl (by decide) ?_
    refine gs_lcmp rfl ?_
    obtain ⟨v22, ev77, e⟩ := ob1_some e
    have KJ77 : pr_G L 4 mt_X9_readRule (77, [(0, .ref 110), (1, .int p1), (2, .int x9), (3, .int r10), (4, .int r13), (5, .int r16)], [.int v22], hH f17) none (hH g) := by
      refine gs_istore (lv' := [(6, .int v22), (0, .ref 110), (1, .int p1), (2, .int x9), (3, .int r10), (4, .int r13), (5, .int r16)]) rfl rfl ?_
      refine gs_aload_n rfl rfl ?_
      obtain ⟨f23, ec24, e⟩ := ob1_some e
      refine gs_callvV (st := []) rfl (pr_C_le (by decide) (th_X9_mustRefuseOrGive L f17 f23 ec24)) rfl rfl rfl (by decide) rfl (Or.inr (by decide)) ?_
      refine gs_iload rfl rfl ?_
      obtain ⟨v26, ev95, e⟩ := ob1_some e
      have KJ95 : pr_G L 4 mt_X9_readRule (95, [(0, .ref 110), (1, .int p1), (2, .int x9), (3, .int r10), (4, .int r13), (5, .int r16), (6, .int v22)], [.int v26], hH f23) none (hH g) := by
        refine gs_istore (lv' := [(7, .int v26), (0, .ref 110), (1, .int p1), (2, .int x9), (3, .int r10), (4, .int r13), (5, .int r16), (6, .int v22)]) rfl rfl ?_
        refine gs_iconst (x := 1) rfl (by decide) ?_
        refine gs_istore (lv' := [(8, .int 1), (7, .int v26), (0, .ref 110), (1, .int p1), (2, .int x9), (3, .int r10), (4, .int r13), (5, .int r16), (6, .int v22)]) rfl rfl ?_
        refine gs_iconst (x := 0) rfl (by decide) ?_
        refine gs_istore (lv' := [(9, .int 0), (8, .int 1), (7, .int v26), (0, .ref 110), (1, .int p1), (2, .int x9), (3, .int r10), (4, .int r13), (5, .int r16), (6, .int v22)]) rfl rfl ?_
        refine gs_drop [3, 4, 5, 6, 7, 8, 9, 2, 1, 0] rfl ?_
        obtain ⟨y35, f36, el37, e⟩ := ob2_some e
        refine tl_X9_readRule_103 L 5000 p1 x9 r10 r13 r16 v22 v26 1 0 f23 y35 f36 _ _ el37 ?_
        refine gs_aload_n rfl rfl ?_
        refine gs_get rfl (gd_i rfl rfl) ?_
        refine gs_ne0 rfl (fun c38 => ?_) (fun c38 => ?_)
        · rw [if_neg c38] at e
          obtain rfl := inj1 e
          exact gs_vret rfl rfl rfl rfl
        · rw [if_pos c38] at e
          refine gs_aload_n rfl rfl ?_
          refine gs_get rfl (gd_r (b := 117) rfl rfl rfl) ?_
          refine gs_iload_n rfl rfl ?_
          refine gs_iload_n rfl rfl ?_
          by_cases hb39 : pa_in x9 96 = true
          case neg => rw [if_neg hb39] at e; cases e
          rw [if_pos hb39] at e
          refine gs_iast rfl (gd_si (j := x9.toNatClampNeg) rfl (by decide) hb39 rfl) ?_
          obtain ⟨f40, hf40, e⟩ := pn_some e
          refine gs_heap hf40 ?_
          refine gs_aload_n rfl rfl ?_
          refine gs_get rfl (gd_r (b := 118) rfl rfl rfl) ?_
          refine gs_iload_n rfl rfl ?_
          refine gs_iload rfl rfl ?_
          by_cases hb41 : pa_in x9 96 = true
          case neg => rw [if_neg hb41] at e; cases e
          rw [if_pos hb41] at e
          refine gs_iast rfl (gd_si (j := x9.toNatClampNeg) rfl (by decide) hb41 rfl) ?_
          obtain ⟨f42, hf42, e⟩ := pn_some e
          refine gs_heap hf42 ?_
          refine gs_aload_n rfl rfl ?_
          refine gs_get rfl (gd_r (b := 119) rfl rfl rfl) ?_
          refine gs_iload_n rfl rfl ?_
          refine gs_iload rfl rfl ?_
          by_cases hb43 : pa_in x9 96 = true
          case neg => rw [if_neg hb43] at e; cases e
          rw [if_pos hb43] at e
          refine gs_iast rfl (gd_si (j := x9.toNatClampNeg) rfl (by decide) hb43 rfl) ?_
          obtain ⟨f44, hf44, e⟩ := pn_some e
          refine gs_heap hf44 ?_
          refine gs_aload_n rfl rfl ?_
          refine gs_get rfl (gd_r (b := 120) rfl rfl rfl) ?_
          refine gs_iload_n rfl rfl ?_
          refine gs_iload rfl rfl ?_
          by_cases hb45 : pa_in x9 96 = true
          case neg => rw [if_neg hb45] at e; cases e
          rw [if_pos hb45] at e
          refine gs_iast rfl (gd_si (j := x9.toNatClampNeg) rfl (by decide) hb45 rfl) ?_
          obtain ⟨f46, hf46, e⟩ := pn_some e
          refine gs_heap hf46 ?_
          refine gs_aload_n rfl rfl ?_
          refine gs_get rfl (gd_r (b := 116) rfl rfl rfl) ?_
          refine gs_iload_n rfl rfl ?_
          refine gs_dup2 rfl rfl rfl ?_
          by_cases hb47 : pa_in p1 16 = true
          case neg => rw [if_neg hb47] at e; cases e
          rw [if_pos hb47] at e
          refine gs_iald rfl (gd_ia (j := p1.toNatClampNeg) rfl hb47 rfl) ?_
          refine gs_iconst (x := 1) rfl (by decide) ?_
          refine gs_iadd rfl ?_
          by_cases hb48 : pa_in p1 16 = true
          case neg => rw [if_neg hb48] at e; cases e
          rw [if_pos hb48] at e
          refine gs_iast rfl (gd_si (j := p1.toNatClampNeg) rfl (by decide) hb48 rfl) ?_
          obtain ⟨f49, hf49, e⟩ := pn_some e
          refine gs_heap hf49 ?_
          obtain rfl := inj1 e
          exact gs_vret rfl rfl rfl rfl
      have e := ev95
      clear ev95
      refine gs_eq0 rfl (fun c25 => ?_) (fun c25 => ?_)
      · rw [if_pos c25] at e
        refine gs_sipush (x := 2401) rfl (by decide) ?_
        obtain rfl := inj1 e
        refine gs_drop [1, 2, 3, 4, 5, 6, 0] rfl ?_
        exact KJ95
      · rw [if_neg c25] at e
        refine gs_iconst (x := 0) rfl (by decide) ?_
        refine gs_goto rfl ?_
        obtain rfl := inj1 e
        refine gs_drop [1, 2, 3, 4, 5, 6, 0] rfl ?_
        exact KJ95
    have e := ev77
    clear ev77
    refine gs_ne0 rfl (fun c21 => ?_) (fun c21 => ?_)
    · rw [if_neg c21] at e
      refine gs_iconst (x := 0) rfl (by decide) ?_
      obtain rfl := inj1 e
      refine gs_drop [4, 5, 3, 2, 1, 0] rfl ?_
      exact KJ77
    · rw [if_pos c21] at e
      refine gs_iconst (x := 1) rfl (by decide) ?_
      refine gs_goto rfl ?_
      obtain rfl := inj1 e
      refine gs_drop [4, 5, 3, 2, 1, 0] rfl ?_
      exact KJ77
  have e := ev16
  clear ev16
  refine gs_ne2 rfl (fun c2 => ?_) (fun c2 => ?_)
  · rw [if_neg c2] at e
    obtain rfl := inj1 e
    refine gs_drop [0, 1] rfl ?_
    exact KJ16
  · rw [if_pos c2] at e
    refine gs_aload_n rfl rfl ?_
    refine gs_iconst (x := 3) rfl (by decide) ?_
    obtain ⟨f4, ec5, e⟩ := ob1_some e
    refine gs_callvV (st := []) rfl (pr_C_le (by decide) (th_X9_bad L 3 f f4 ec5)) rfl rfl rfl (by decide) rfl (Or.inr (by decide)) ?_
    obtain rfl := inj1 e
    refine gs_drop [0, 1] rfl ?_
    exact KJ16
def lp_X9_readEdition_94 : Nat → Int32 → Int32 → pd_M → Option (pd_M)
  | 0, _, _, _ => none
  | n + 1, z1, z2, f =>
    if (f 110 37) = 0 then
    ob1 (fn_X9_word f) fun r25 =>
    if (lg_cmp r25 2003330414) = 0 then
    ob1 (fn_X9_readRule z2 f) fun f28 =>
    lp_X9_readEdition_94 n z1 z2 f28
    else
    some (f)
    else
    some (f)
def fn_X9_readEdition (f : pd_M) : Option (pd_M) :=
  ob1 (fn_X9_numberHere f) fun r1 =>
  ob1 (if (f 110 34) = 3 then
  if r1 ≤ 3 then
  some (f)
  else
  ob1 (fn_X9_bad 2 f) fun f6 =>
  some (f6)
  else
  some (f)) fun (f4 : pd_M) =>
  ob1 (if (f4 110 34) = 3 then
  if 4 ≤ r1 then
  some (f4)
  else
  if pa_in r1 4 = true then
  if (f4 115 r1.toNatClampNeg) = 4 then
  ob1 (fn_X9_bad 3 f4) fun f13 =>
  some (f13)
  else
  some (f4)
  else none
  else
  some (f4)) fun (f9 : pd_M) =>
  ob1 (if (f9 110 34) = 3 then
  some (1)
  else
  some (0)) fun (v16 : Int32) =>
  ob1 (fn_X9_must v16 f9) fun f17 =>
  if (f17 110 37) ≤ 0 then
  if pa_in r1 4 = true then
  pn (((4 * r1) + (f17 115 r1.toNatClampNeg))) fun x21 =>
  if pa_in x21 16 = true then
  pn ((pi_up f17 116 (x21.toNatClampNeg) 0)) fun f23 =>
  ob1 (lp_X9_readEdition_94 5000 r1 x21 f23) fun f30 =>
  if pa_in r1 4 = true then
  if pa_in r1 4 = true then
  pn ((pi_up f30 115 (r1.toNatClampNeg) ((f30 115 r1.toNatClampNeg) + 1))) fun f34 =>
  some f34
  else none
  else none
  else none
  else none
  else
  some f17
set_option maxRecDepth 100000 in
set_option maxHeartbeats 4000000 in
theorem tl_X9_readEdition_94 (L : Nat) : ∀ (n : Nat) (z1 : Int32) (z2 : Int32) (f : pd_M) (w0 : pd_M) (r : Option Value) (h2 : ph_T), lp_X9_readEdition_94 n z1 z2 f = some (w0) → pr_G L 5 mt_X9_readEdition (120, [(0, .ref 110), (1, .int z1)], [], hH w0) r h2 → pr_G L 5 mt_X9_readEdition (94, [(0, .ref 110), (1, .int z1), (2, .int z2)], [], hH f) r h2 := by
  intro n
  induction n with
  | zero => intro z1 z2 f w0 r h2 e; cases e
  | succ n ih =>
    intro z1 z2 f w0 r h2 e K
    unfold lp_X9_readEdition_94 at e
    refine gs_aload_n rfl rfl ?_
    refine gs_get rfl (gd_i rfl rfl) ?_
    refine gs_ne0 rfl (fun c24 => ?_) (fun c24 => ?_)
    · rw [if_neg c24] at e
      obtain rfl := inj1 e
      refine gs_drop [0, 1] rfl ?_
      exact K
    · rw [if_pos c24] at e
      refine gs_aload_n rfl rfl ?_
      obtain ⟨r25, ec26, e⟩ := ob1_some e
      refine gs_callvL (st := []) rfl (pr_C_le (by decide) (th_X9_word L f r25 ec26)) rfl rfl rfl (by decide) rfl (Or.inr (by decide)) ?_
      refine gs_ldc2 (w := 2003330414) rfl (by decide) ?_
      refine gs_lcmp rfl ?_
      refine gs_ne0 rfl (fun c27 => ?_) (fun c27 => ?_)
      · rw [if_neg c27] at e
        obtain rfl := inj1 e
        refine gs_drop [0, 1] rfl ?_
        exact K
      · rw [if_pos c27] at e
        refine gs_aload_n rfl rfl ?_
        refine gs_iload_n rfl rfl ?_
        obtain ⟨f28, ec29, e⟩ := ob1_some e
        refine gs_callvV (st := []) rfl (pr_C_le (by decide) (th_X9_readRule L z2 f f28 ec29)) rfl rfl rfl (by decide) rfl (Or.inr (by decide)) ?_
        refine gs_goto rfl ?_
        refine gs_drop [0, 1, 2] rfl ?_
        exact ih z1 z2 f28 w0 _ _ e K
set_option maxRecDepth 100000 in
set_option maxHeartbeats 4000000 in
theorem th_X9_readEdition (L : Nat)  (f : pd_M) (g : pd_M) (e : fn_X9_readEdition f = some g) : pr_C L 6 135 [.ref 110] (hH f) none (hH g) := by
  refine pr_C.of (G := mt_X9_readEdition) rfl rfl ?_
  show pr_G L 5 mt_X9_readEdition (0, [(0, .ref 110)], [], hH f) _ _
  unfold fn_X9_readEdition at e
  refine gs_aload_n rfl rfl ?_
  obtain ⟨r1, ec2, e⟩ := ob1_some e
  refine gs_callvI (st := []) rfl (pr_C_le (by decide) (th_X9_numberHere L f r1 ec2)) rfl rfl rfl (by decide) rfl (Or.inr (by decide)) ?_
  refine gs_istore_n (lv' := [(1, .int r1), (0, .ref 110)]) rfl rfl ?_
  refine gs_aload_n rfl rfl ?_
  refine gs_get rfl (gd_i rfl rfl) ?_
  refine gs_iconst (x := 3) rfl (by decide) ?_
  obtain ⟨f4, ev23, e⟩ := ob1_some e
  have KJ23 : pr_G L 5 mt_X9_readEdition (23, [(0, .ref 110), (1, .int r1)], [], hH f4) none (hH g) := by
    refine gs_aload_n rfl rfl ?_
    refine gs_get rfl (gd_i rfl rfl) ?_
    refine gs_iconst (x := 3) rfl (by decide) ?_
    obtain ⟨f9, ev51, e⟩ := ob1_some e
    have KJ51 : pr_G L 5 mt_X9_readEdition (51, [(0, .ref 110), (1, .int r1)], [], hH f9) none (hH g) := by
      refine gs_aload_n rfl rfl ?_
      refine gs_aload_n rfl rfl ?_
      refine gs_get rfl (gd_i rfl rfl) ?_
      refine gs_iconst (x := 3) rfl (by decide) ?_
      obtain ⟨v16, ev65, e⟩ := ob1_some e
      have KJ65 : pr_G L 5 mt_X9_readEdition (65, [(0, .ref 110), (1, .int r1)], [.int v16, .ref 110], hH f9) none (hH g) := by
        obtain ⟨f17, ec18, e⟩ := ob1_some e
        refine gs_callvV (st := []) rfl (pr_C_le (by decide) (th_X9_must L v16 f9 f17 ec18)) rfl rfl rfl (by decide) rfl (Or.inr (by decide)) ?_
        refine gs_aload_n rfl rfl ?_
        refine gs_get rfl (gd_i rfl rfl) ?_
        refine gs_le0 rfl (fun c19 => ?_) (fun c19 => ?_)
        · rw [if_pos c19] at e
          refine gs_iconst (x := 4) rfl (by decide) ?_
          refine gs_iload_n rfl rfl ?_
          refine gs_imul rfl ?_
          refine gs_aload_n rfl rfl ?_
          refine gs_get rfl (gd_r (b := 115) rfl rfl rfl) ?_
          refine gs_iload_n rfl rfl ?_
          by_cases hb20 : pa_in r1 4 = true
          case neg => rw [if_neg hb20] at e; cases e
          rw [if_pos hb20] at e
          refine gs_iald rfl (gd_ia (j := r1.toNatClampNeg) rfl hb20 rfl) ?_
          refine gs_iadd rfl ?_
          obtain ⟨x21, hx21, e⟩ := pn_some e
          refine gs_topi hx21 ?_
          refine gs_istore_n (lv' := [(2, .int x21), (0, .ref 110), (1, .int r1)]) rfl rfl ?_
          refine gs_aload_n rfl rfl ?_
          refine gs_get rfl (gd_r (b := 116) rfl rfl rfl) ?_
          refine gs_iload_n rfl rfl ?_
          refine gs_iconst (x := 0) rfl (by decide) ?_
          by_cases hb22 : pa_in x21 16 = true
          case neg => rw [if_neg hb22] at e; cases e
          rw [if_pos hb22] at e
          refine gs_iast rfl (gd_si (j := x21.toNatClampNeg) rfl (by decide) hb22 rfl) ?_
          obtain ⟨f23, hf23, e⟩ := pn_some e
          refine gs_heap hf23 ?_
          refine gs_drop [1, 2, 0] rfl ?_
          obtain ⟨f30, el31, e⟩ := ob1_some e
          refine tl_X9_readEdition_94 L 5000 r1 x21 f23 f30 _ _ el31 ?_
          refine gs_aload_n rfl rfl ?_
          refine gs_get rfl (gd_r (b := 115) rfl rfl rfl) ?_
          refine gs_iload_n rfl rfl ?_
          refine gs_dup2 rfl rfl rfl ?_
          by_cases hb32 : pa_in r1 4 = true
          case neg => rw [if_neg hb32] at e; cases e
          rw [if_pos hb32] at e
          refine gs_iald rfl (gd_ia (j := r1.toNatClampNeg) rfl hb32 rfl) ?_
          refine gs_iconst (x := 1) rfl (by decide) ?_
          refine gs_iadd rfl ?_
          by_cases hb33 : pa_in r1 4 = true
          case neg => rw [if_neg hb33] at e; cases e
          rw [if_pos hb33] at e
          refine gs_iast rfl (gd_si (j := r1.toNatClampNeg) rfl (by decide) hb33 rfl) ?_
          obtain ⟨f34, hf34, e⟩ := pn_some e
          refine gs_heap hf34 ?_
          obtain rfl := inj1 e
          exact gs_vret rfl rfl rfl rfl
        · rw [if_neg c19] at e
          obtain rfl := inj1 e
          exact gs_vret rfl rfl rfl rfl
      have e := ev65
      clear ev65
      refine gs_ne2 rfl (fun c15 => ?_) (fun c15 => ?_)
      · rw [if_neg c15] at e
        refine gs_iconst (x := 0) rfl (by decide) ?_
        obtain rfl := inj1 e
        refine gs_drop [0, 1] rfl ?_
        exact KJ65
      · rw [if_pos c15] at e
        refine gs_iconst (x := 1) rfl (by decide) ?_
        refine gs_goto rfl ?_
        obtain rfl := inj1 e
        refine gs_drop [0, 1] rfl ?_
        exact KJ65
    have e := ev51
    clear ev51
    refine gs_ne2 rfl (fun c8 => ?_) (fun c8 => ?_)
    · rw [if_neg c8] at e
      obtain rfl := inj1 e
      refine gs_drop [0, 1] rfl ?_
      exact KJ51
    · rw [if_pos c8] at e
      refine gs_iload_n rfl rfl ?_
      refine gs_iconst (x := 4) rfl (by decide) ?_
      refine gs_ge2 rfl (fun c10 => ?_) (fun c10 => ?_)
      · rw [if_pos c10] at e
        obtain rfl := inj1 e
        refine gs_drop [0, 1] rfl ?_
        exact KJ51
      · rw [if_neg c10] at e
        refine gs_aload_n rfl rfl ?_
        refine gs_get rfl (gd_r (b := 115) rfl rfl rfl) ?_
        refine gs_iload_n rfl rfl ?_
        by_cases hb11 : pa_in r1 4 = true
        case neg => rw [if_neg hb11] at e; cases e
        rw [if_pos hb11] at e
        refine gs_iald rfl (gd_ia (j := r1.toNatClampNeg) rfl hb11 rfl) ?_
        refine gs_iconst (x := 4) rfl (by decide) ?_
        refine gs_ne2 rfl (fun c12 => ?_) (fun c12 => ?_)
        · rw [if_neg c12] at e
          obtain rfl := inj1 e
          refine gs_drop [0, 1] rfl ?_
          exact KJ51
        · rw [if_pos c12] at e
          refine gs_aload_n rfl rfl ?_
          refine gs_iconst (x := 3) rfl (by decide) ?_
          obtain ⟨f13, ec14, e⟩ := ob1_some e
          refine gs_callvV (st := []) rfl (pr_C_le (by decide) (th_X9_bad L 3 f4 f13 ec14)) rfl rfl rfl (by decide) rfl (Or.inr (by decide)) ?_
          obtain rfl := inj1 e
          refine gs_drop [0, 1] rfl ?_
          exact KJ51
  have e := ev23
  clear ev23
  refine gs_ne2 rfl (fun c3 => ?_) (fun c3 => ?_)
  · rw [if_neg c3] at e
    obtain rfl := inj1 e
    refine gs_drop [1, 0] rfl ?_
    exact KJ23
  · rw [if_pos c3] at e
    refine gs_iload_n rfl rfl ?_
    refine gs_iconst (x := 3) rfl (by decide) ?_
    refine gs_le2 rfl (fun c5 => ?_) (fun c5 => ?_)
    · rw [if_pos c5] at e
      obtain rfl := inj1 e
      refine gs_drop [1, 0] rfl ?_
      exact KJ23
    · rw [if_neg c5] at e
      refine gs_aload_n rfl rfl ?_
      refine gs_iconst (x := 2) rfl (by decide) ?_
      obtain ⟨f6, ec7, e⟩ := ob1_some e
      refine gs_callvV (st := []) rfl (pr_C_le (by decide) (th_X9_bad L 2 f f6 ec7)) rfl rfl rfl (by decide) rfl (Or.inr (by decide)) ?_
      obtain rfl := inj1 e
      refine gs_drop [1, 0] rfl ?_
      exact KJ23
def lp_X9_readSaying_132 : Nat → Int32 → Int32 → pd_M → Option (pd_M)
  | 0, _, _, _ => none
  | n + 1, z1, z2, f =>
    if 4 ≤ z2 then
    some (f)
    else
    if pa_in ((4 * z1) + z2) 80 = true then
    pn ((pi_up f 129 (((4 * z1) + z2).toNatClampNeg) 127)) fun f46 =>
    pn (z2 + 1) fun x47 =>
    lp_X9_readSaying_132 n z1 x47 f46
    else none
def lp_X9_readSaying_155 : Nat → Int32 → pd_M → Option (pd_M)
  | 0, _, _ => none
  | n + 1, z1, f =>
    if (f 110 37) = 0 then
    if pa_in z1 20 = true then
    if (f 127 z1.toNatClampNeg) = 0 then
    if (f 110 34) = 3 then
    if pa_in z1 20 = true then
    ob2 (fn_X9_numberIn 0 3 (f 128 z1.toNatClampNeg) f) fun r55 f56 =>
    ob2 (fn_X9_numberIn 0 5 0 f56) fun r58 f59 =>
    ob2 (fn_X9_numberIn r58 5 0 f59) fun r61 f62 =>
    ob2 (fn_X9_numberIn 0 1 0 f62) fun r64 f65 =>
    ob1 (if (f65 110 37) = 0 then
    if pa_in z1 20 = true then
    if pa_in z1 20 = true then
    pn ((pi_up f65 128 (z1.toNatClampNeg) ((f65 128 z1.toNatClampNeg) ||| ((1 : Int32) <<< (r55 &&& 31))))) fun f71 =>
    if pa_in ((4 * z1) + r55) 80 = true then
    pn ((pi_up f71 129 (((4 * z1) + r55).toNatClampNeg) ((((1 : Int32) <<< ((r61 + 1) &&& 31)) - ((1 : Int32) <<< (r58 &&& 31))) ||| (r64 <<< (6 &&& 31))))) fun f73 =>
    some (f73)
    else none
    else none
    else none
    else
    some (f65)) fun (f68 : pd_M) =>
    lp_X9_readSaying_155 n z1 f68
    else none
    else
    some (f)
    else
    some (f)
    else none
    else
    some (f)
def fn_X9_readSaying (f : pd_M) : Option (pd_M) :=
  pn ((f 110 13)) fun x1 =>
  ob2 (fn_X9_numberIn 0 3 0 f) fun r2 f3 =>
  if pa_in x1 20 = true then
  pn ((pi_up f3 121 (x1.toNatClampNeg) r2)) fun f6 =>
  ob2 (fn_X9_numberIn 0 3 0 f6) fun r7 f8 =>
  if pa_in x1 20 = true then
  pn ((pi_up f8 122 (x1.toNatClampNeg) r7)) fun f11 =>
  if pa_in x1 20 = true then
  ob2 (fn_X9_numberIn 0 3 ((1 : Int32) <<< ((f11 121 x1.toNatClampNeg) &&& 31)) f11) fun r13 f14 =>
  if pa_in x1 20 = true then
  pn ((pi_up f14 123 (x1.toNatClampNeg) r13)) fun f17 =>
  ob2 (fn_X9_numberIn 0 7 0 f17) fun r18 f19 =>
  if pa_in x1 20 = true then
  pn ((pi_up f19 124 (x1.toNatClampNeg) r18)) fun f22 =>
  if pa_in x1 20 = true then
  ob2 (fn_X9_numberIn (f22 124 x1.toNatClampNeg) 7 0 f22) fun r24 f25 =>
  if pa_in x1 20 = true then
  pn ((pi_up f25 125 (x1.toNatClampNeg) r24)) fun f28 =>
  ob2 (fn_X9_numberIn 0 3 0 f28) fun r29 f30 =>
  if pa_in x1 20 = true then
  pn ((pi_up f30 126 (x1.toNatClampNeg) r29)) fun f33 =>
  ob1 (fn_X9_word f33) fun r34 =>
  ob1 (if (lg_cmp r34 125779836236645) = 0 then
  some (1)
  else
  some (0)) fun (v37 : Int32) =>
  if pa_in x1 20 = true then
  pn ((pi_up f33 127 (x1.toNatClampNeg) (vp_nar .boolean v37))) fun f39 =>
  ob1 (fn_X9_mustRefuseOrGive f39) fun f40 =>
  if pa_in x1 20 = true then
  pn ((pi_up f40 128 (x1.toNatClampNeg) 0)) fun f43 =>
  ob1 (lp_X9_readSaying_132 5000 x1 0 f43) fun f48 =>
  ob1 (lp_X9_readSaying_155 5000 x1 f48) fun f74 =>
  pn ((pi_up f74 110 13 ((f74 110 13) + 1))) fun f76 =>
  some f76
  else none
  else none
  else none
  else none
  else none
  else none
  else none
  else none
  else none
  else none
set_option maxRecDepth 100000 in
set_option maxHeartbeats 4000000 in
theorem tl_X9_readSaying_132 (L : Nat) : ∀ (n : Nat) (z1 : Int32) (z2 : Int32) (f : pd_M) (w0 : pd_M) (r : Option Value) (h2 : ph_T), lp_X9_readSaying_132 n z1 z2 f = some (w0) → pr_G L 4 mt_X9_readSaying (155, [(0, .ref 110), (1, .int z1)], [], hH w0) r h2 → pr_G L 4 mt_X9_readSaying (132, [(0, .ref 110), (1, .int z1), (2, .int z2)], [], hH f) r h2 := by
  intro n
  induction n with
  | zero => intro z1 z2 f w0 r h2 e; cases e
  | succ n ih =>
    intro z1 z2 f w0 r h2 e K
    unfold lp_X9_readSaying_132 at e
    refine gs_iload_n rfl rfl ?_
    refine gs_iconst (x := 4) rfl (by decide) ?_
    refine gs_ge2 rfl (fun c44 => ?_) (fun c44 => ?_)
    · rw [if_pos c44] at e
      obtain rfl := inj1 e
      refine gs_drop [0, 1] rfl ?_
      exact K
    · rw [if_neg c44] at e
      refine gs_aload_n rfl rfl ?_
      refine gs_get rfl (gd_r (b := 129) rfl rfl rfl) ?_
      refine gs_iconst (x := 4) rfl (by decide) ?_
      refine gs_iload_n rfl rfl ?_
      refine gs_imul rfl ?_
      refine gs_iload_n rfl rfl ?_
      refine gs_iadd rfl ?_
      refine gs_bipush (x := 127) rfl (by decide) ?_
      by_cases hb45 : pa_in ((4 * z1) + z2) 80 = true
      case neg => rw [if_neg hb45] at e; cases e
      rw [if_pos hb45] at e
      refine gs_iast rfl (gd_si (j := ((4 * z1) + z2).toNatClampNeg) rfl (by decide) hb45 rfl) ?_
      obtain ⟨f46, hf46, e⟩ := pn_some e
      refine gs_heap hf46 ?_
      obtain ⟨x47, hx47, e⟩ := pn_some e
      refine gs_iinc1 (x1 := x47) (c := 1) (lv' := [(2, .int x47), (0, .ref 110), (1, .int z1)]) rfl rfl (by decide) hx47 rfl ?_
      refine gs_goto rfl ?_
      refine gs_drop [1, 2, 0] rfl ?_
      exact ih z1 x47 f46 w0 _ _ e K
set_option maxRecDepth 100000 in
set_option maxHeartbeats 4000000 in
theorem tl_X9_readSaying_155 (L : Nat) : ∀ (n : Nat) (z1 : Int32) (f : pd_M) (w0 : pd_M) (r : Option Value) (h2 : ph_T), lp_X9_readSaying_155 n z1 f = some (w0) → pr_G L 4 mt_X9_readSaying (266, [(0, .ref 110)], [], hH w0) r h2 → pr_G L 4 mt_X9_readSaying (155, [(0, .ref 110), (1, .int z1)], [], hH f) r h2 := by
  intro n
  induction n with
  | zero => intro z1 f w0 r h2 e; cases e
  | succ n ih =>
    intro z1 f w0 r h2 e K
    unfold lp_X9_readSaying_155 at e
    refine gs_aload_n rfl rfl ?_
    refine gs_get rfl (gd_i rfl rfl) ?_
    refine gs_ne0 rfl (fun c50 => ?_) (fun c50 => ?_)
    · rw [if_neg c50] at e
      obtain rfl := inj1 e
      refine gs_drop [0] rfl ?_
      exact K
    · rw [if_pos c50] at e
      refine gs_aload_n rfl rfl ?_
      refine gs_get rfl (gd_r (b := 127) rfl rfl rfl) ?_
      refine gs_iload_n rfl rfl ?_
      by_cases hb51 : pa_in z1 20 = true
      case neg => rw [if_neg hb51] at e; cases e
      rw [if_pos hb51] at e
      refine gs_bald rfl (gd_za (j := z1.toNatClampNeg) rfl hb51 rfl) ?_
      refine gs_ne0 rfl (fun c52 => ?_) (fun c52 => ?_)
      · rw [if_neg c52] at e
        obtain rfl := inj1 e
        refine gs_drop [0] rfl ?_
        exact K
      · rw [if_pos c52] at e
        refine gs_aload_n rfl rfl ?_
        refine gs_get rfl (gd_i rfl rfl) ?_
        refine gs_iconst (x := 3) rfl (by decide) ?_
        refine gs_ne2 rfl (fun c53 => ?_) (fun c53 => ?_)
        · rw [if_neg c53] at e
          obtain rfl := inj1 e
          refine gs_drop [0] rfl ?_
          exact K
        · rw [if_pos c53] at e
          refine gs_aload_n rfl rfl ?_
          refine gs_iconst (x := 0) rfl (by decide) ?_
          refine gs_iconst (x := 3) rfl (by decide) ?_
          refine gs_aload_n rfl rfl ?_
          refine gs_get rfl (gd_r (b := 128) rfl rfl rfl) ?_
          refine gs_iload_n rfl rfl ?_
          by_cases hb54 : pa_in z1 20 = true
          case neg => rw [if_neg hb54] at e; cases e
          rw [if_pos hb54] at e
          refine gs_iald rfl (gd_ia (j := z1.toNatClampNeg) rfl hb54 rfl) ?_
          obtain ⟨r55, f56, ec57, e⟩ := ob2_some e
          refine gs_callvI (st := []) rfl (pr_C_le (by decide) (th_X9_numberIn L 0 3 (f 128 z1.toNatClampNeg) f r55 f56 ec57)) rfl rfl rfl (by decide) rfl (Or.inr (by decide)) ?_
          refine gs_istore_n (lv' := [(2, .int r55), (0, .ref 110), (1, .int z1)]) rfl rfl ?_
          refine gs_aload_n rfl rfl ?_
          refine gs_iconst (x := 0) rfl (by decide) ?_
          refine gs_iconst (x := 5) rfl (by decide) ?_
          refine gs_iconst (x := 0) rfl (by decide) ?_
          obtain ⟨r58, f59, ec60, e⟩ := ob2_some e
          refine gs_callvI (st := []) rfl (pr_C_le (by decide) (th_X9_numberIn L 0 5 0 f56 r58 f59 ec60)) rfl rfl rfl (by decide) rfl (Or.inr (by decide)) ?_
          refine gs_istore_n (lv' := [(3, .int r58), (2, .int r55), (0, .ref 110), (1, .int z1)]) rfl rfl ?_
          refine gs_aload_n rfl rfl ?_
          refine gs_iload_n rfl rfl ?_
          refine gs_iconst (x := 5) rfl (by decide) ?_
          refine gs_iconst (x := 0) rfl (by decide) ?_
          obtain ⟨r61, f62, ec63, e⟩ := ob2_some e
          refine gs_callvI (st := []) rfl (pr_C_le (by decide) (th_X9_numberIn L r58 5 0 f59 r61 f62 ec63)) rfl rfl rfl (by decide) rfl (Or.inr (by decide)) ?_
          refine gs_istore (lv' := [(4, .int r61), (3, .int r58), (2, .int r55), (0, .ref 110), (1, .int z1)]) rfl rfl ?_
          refine gs_aload_n rfl rfl ?_
          refine gs_iconst (x := 0) rfl (by decide) ?_
          refine gs_iconst (x := 1) rfl (by decide) ?_
          refine gs_iconst (x := 0) rfl (by decide) ?_
          obtain ⟨r64, f65, ec66, e⟩ := ob2_some e
          refine gs_callvI (st := []) rfl (pr_C_le (by decide) (th_X9_numberIn L 0 1 0 f62 r64 f65 ec66)) rfl rfl rfl (by decide) rfl (Or.inr (by decide)) ?_
          refine gs_istore (lv' := [(5, .int r64), (4, .int r61), (3, .int r58), (2, .int r55), (0, .ref 110), (1, .int z1)]) rfl rfl ?_
          refine gs_aload_n rfl rfl ?_
          refine gs_get rfl (gd_i rfl rfl) ?_
          obtain ⟨f68, ev263, e⟩ := ob1_some e
          have KJ263 : pr_G L 4 mt_X9_readSaying (263, [(0, .ref 110), (1, .int z1)], [], hH f68) r h2 := by
            refine gs_goto rfl ?_
            refine gs_drop [0, 1] rfl ?_
            exact ih z1 f68 w0 _ _ e K
          have e := ev263
          clear ev263
          refine gs_ne0 rfl (fun c67 => ?_) (fun c67 => ?_)
          · rw [if_neg c67] at e
            obtain rfl := inj1 e
            refine gs_drop [4, 5] rfl ?_
            exact KJ263
          · rw [if_pos c67] at e
            refine gs_aload_n rfl rfl ?_
            refine gs_get rfl (gd_r (b := 128) rfl rfl rfl) ?_
            refine gs_iload_n rfl rfl ?_
            refine gs_dup2 rfl rfl rfl ?_
            by_cases hb69 : pa_in z1 20 = true
            case neg => rw [if_neg hb69] at e; cases e
            rw [if_pos hb69] at e
            refine gs_iald rfl (gd_ia (j := z1.toNatClampNeg) rfl hb69 rfl) ?_
            refine gs_iconst (x := 1) rfl (by decide) ?_
            refine gs_iload_n rfl rfl ?_
            refine gs_ishl rfl ?_
            refine gs_ior rfl ?_
            by_cases hb70 : pa_in z1 20 = true
            case neg => rw [if_neg hb70] at e; cases e
            rw [if_pos hb70] at e
            refine gs_iast rfl (gd_si (j := z1.toNatClampNeg) rfl (by decide) hb70 rfl) ?_
            obtain ⟨f71, hf71, e⟩ := pn_some e
            refine gs_heap hf71 ?_
            refine gs_aload_n rfl rfl ?_
            refine gs_get rfl (gd_r (b := 129) rfl rfl rfl) ?_
            refine gs_iconst (x := 4) rfl (by decide) ?_
            refine gs_iload_n rfl rfl ?_
            refine gs_imul rfl ?_
            refine gs_iload_n rfl rfl ?_
            refine gs_iadd rfl ?_
            refine gs_iconst (x := 1) rfl (by decide) ?_
            refine gs_iload rfl rfl ?_
            refine gs_iconst (x := 1) rfl (by decide) ?_
            refine gs_iadd rfl ?_
            refine gs_ishl rfl ?_
            refine gs_iconst (x := 1) rfl (by decide) ?_
            refine gs_iload_n rfl rfl ?_
            refine gs_ishl rfl ?_
            refine gs_isub rfl ?_
            refine gs_iload rfl rfl ?_
            refine gs_bipush (x := 6) rfl (by decide) ?_
            refine gs_ishl rfl ?_
            refine gs_ior rfl ?_
            by_cases hb72 : pa_in ((4 * z1) + r55) 80 = true
            case neg => rw [if_neg hb72] at e; cases e
            rw [if_pos hb72] at e
            refine gs_iast rfl (gd_si (j := ((4 * z1) + r55).toNatClampNeg) rfl (by decide) hb72 rfl) ?_
            obtain ⟨f73, hf73, e⟩ := pn_some e
            refine gs_heap hf73 ?_
            obtain rfl := inj1 e
            refine gs_drop [4, 5] rfl ?_
            exact KJ263
set_option maxRecDepth 100000 in
set_option maxHeartbeats 4000000 in
theorem th_X9_readSaying (L : Nat)  (f : pd_M) (g : pd_M) (e : fn_X9_readSaying f = some g) : pr_C L 5 136 [.ref 110] (hH f) none (hH g) := by
  refine pr_C.of (G := mt_X9_readSaying) rfl rfl ?_
  show pr_G L 4 mt_X9_readSaying (0, [(0, .ref 110)], [], hH f) _ _
  unfold fn_X9_readSaying at e
  refine gs_aload_n rfl rfl ?_
  refine gs_get rfl (gd_i rfl rfl) ?_
  obtain ⟨x1, hx1, e⟩ := pn_some e
  refine gs_topi hx1 ?_
  refine gs_istore_n (lv' := [(1, .int x1), (0, .ref 110)]) rfl rfl ?_
  refine gs_aload_n rfl rfl ?_
  refine gs_get rfl (gd_r (b := 121) rfl rfl rfl) ?_
  refine gs_iload_n rfl rfl ?_
  refine gs_aload_n rfl rfl ?_
  refine gs_iconst (x := 0) rfl (by decide) ?_
  refine gs_iconst (x := 3) rfl (by decide) ?_
  refine gs_iconst (x := 0) rfl (by decide) ?_
  obtain ⟨r2, f3, ec4, e⟩ := ob2_some e
  refine gs_callvI (st := [.int x1, .ref 121]) rfl (pr_C_le (by decide) (th_X9_numberIn L 0 3 0 f r2 f3 ec4)) rfl rfl rfl (by decide) rfl (Or.inr (by decide)) ?_
  by_cases hb5 : pa_in x1 20 = true
  case neg => rw [if_neg hb5] at e; cases e
  rw [if_pos hb5] at e
  refine gs_iast rfl (gd_si (j := x1.toNatClampNeg) rfl (by decide) hb5 rfl) ?_
  obtain ⟨f6, hf6, e⟩ := pn_some e
  refine gs_heap hf6 ?_
  refine gs_aload_n rfl rfl ?_
  refine gs_get rfl (gd_r (b := 122) rfl rfl rfl) ?_
  refine gs_iload_n rfl rfl ?_
  refine gs_aload_n rfl rfl ?_
  refine gs_iconst (x := 0) rfl (by decide) ?_
  refine gs_iconst (x := 3) rfl (by decide) ?_
  refine gs_iconst (x := 0) rfl (by decide) ?_
  obtain ⟨r7, f8, ec9, e⟩ := ob2_some e
  refine gs_callvI (st := [.int x1, .ref 122]) rfl (pr_C_le (by decide) (th_X9_numberIn L 0 3 0 f6 r7 f8 ec9)) rfl rfl rfl (by decide) rfl (Or.inr (by decide)) ?_
  by_cases hb10 : pa_in x1 20 = true
  case neg => rw [if_neg hb10] at e; cases e
  rw [if_pos hb10] at e
  refine gs_iast rfl (gd_si (j := x1.toNatClampNeg) rfl (by decide) hb10 rfl) ?_
  obtain ⟨f11, hf11, e⟩ := pn_some e
  refine gs_heap hf11 ?_
  refine gs_aload_n rfl rfl ?_
  refine gs_get rfl (gd_r (b := 123) rfl rfl rfl) ?_
  refine gs_iload_n rfl rfl ?_
  refine gs_aload_n rfl rfl ?_
  refine gs_iconst (x := 0) rfl (by decide) ?_
  refine gs_iconst (x := 3) rfl (by decide) ?_
  refine gs_iconst (x := 1) rfl (by decide) ?_
  refine gs_aload_n rfl rfl ?_
  refine gs_get rfl (gd_r (b := 121) rfl rfl rfl) ?_
  refine gs_iload_n rfl rfl ?_
  by_cases hb12 : pa_in x1 20 = true
  case neg => rw [if_neg hb12] at e; cases e
  rw [if_pos hb12] at e
  refine gs_iald rfl (gd_ia (j := x1.toNatClampNeg) rfl hb12 rfl) ?_
  refine gs_ishl rfl ?_
  obtain ⟨r13, f14, ec15, e⟩ := ob2_some e
  refine gs_callvI (st := [.int x1, .ref 123]) rfl (pr_C_le (by decide) (th_X9_numberIn L 0 3 ((1 : Int32) <<< ((f11 121 x1.toNatClampNeg) &&& 31)) f11 r13 f14 ec15)) rfl rfl rfl (by decide) rfl (Or.inr (by decide)) ?_
  by_cases hb16 : pa_in x1 20 = true
  case neg => rw [if_neg hb16] at e; cases e
  rw [if_pos hb16] at e
  refine gs_iast rfl (gd_si (j := x1.toNatClampNeg) rfl (by decide) hb16 rfl) ?_
  obtain ⟨f17, hf17, e⟩ := pn_some e
  refine gs_heap hf17 ?_
  refine gs_aload_n rfl rfl ?_
  refine gs_get rfl (gd_r (b := 124) rfl rfl rfl) ?_
  refine gs_iload_n rfl rfl ?_
  refine gs_aload_n rfl rfl ?_
  refine gs_iconst (x := 0) rfl (by decide) ?_
  refine gs_bipush (x := 7) rfl (by decide) ?_
  refine gs_iconst (x := 0) rfl (by decide) ?_
  obtain ⟨r18, f19, ec20, e⟩ := ob2_some e
  refine gs_callvI (st := [.int x1, .ref 124]) rfl (pr_C_le (by decide) (th_X9_numberIn L 0 7 0 f17 r18 f19 ec20)) rfl rfl rfl (by decide) rfl (Or.inr (by decide)) ?_
  by_cases hb21 : pa_in x1 20 = true
  case neg => rw [if_neg hb21] at e; cases e
  rw [if_pos hb21] at e
  refine gs_iast rfl (gd_si (j := x1.toNatClampNeg) rfl (by decide) hb21 rfl) ?_
  obtain ⟨f22, hf22, e⟩ := pn_some e
  refine gs_heap hf22 ?_
  refine gs_aload_n rfl rfl ?_
  refine gs_get rfl (gd_r (b := 125) rfl rfl rfl) ?_
  refine gs_iload_n rfl rfl ?_
  refine gs_aload_n rfl rfl ?_
  refine gs_aload_n rfl rfl ?_
  refine gs_get rfl (gd_r (b := 124) rfl rfl rfl) ?_
  refine gs_iload_n rfl rfl ?_
  by_cases hb23 : pa_in x1 20 = true
  case neg => rw [if_neg hb23] at e; cases e
  rw [if_pos hb23] at e
  refine gs_iald rfl (gd_ia (j := x1.toNatClampNeg) rfl hb23 rfl) ?_
  refine gs_bipush (x := 7) rfl (by decide) ?_
  refine gs_iconst (x := 0) rfl (by decide) ?_
  obtain ⟨r24, f25, ec26, e⟩ := ob2_some e
  refine gs_callvI (st := [.int x1, .ref 125]) rfl (pr_C_le (by decide) (th_X9_numberIn L (f22 124 x1.toNatClampNeg) 7 0 f22 r24 f25 ec26)) rfl rfl rfl (by decide) rfl (Or.inr (by decide)) ?_
  by_cases hb27 : pa_in x1 20 = true
  case neg => rw [if_neg hb27] at e; cases e
  rw [if_pos hb27] at e
  refine gs_iast rfl (gd_si (j := x1.toNatClampNeg) rfl (by decide) hb27 rfl) ?_
  obtain ⟨f28, hf28, e⟩ := pn_some e
  refine gs_heap hf28 ?_
  refine gs_aload_n rfl rfl ?_
  refine gs_get rfl (gd_r (b := 126) rfl rfl rfl) ?_
  refine gs_iload_n rfl rfl ?_
  refine gs_aload_n rfl rfl ?_
  refine gs_iconst (x := 0) rfl (by decide) ?_
  refine gs_iconst (x := 3) rfl (by decide) ?_
  refine gs_iconst (x := 0) rfl (by decide) ?_
  obtain ⟨r29, f30, ec31, e⟩ := ob2_some e
  refine gs_callvI (st := [.int x1, .ref 126]) rfl (pr_C_le (by decide) (th_X9_numberIn L 0 3 0 f28 r29 f30 ec31)) rfl rfl rfl (by decide) rfl (Or.inr (by decide)) ?_
  by_cases hb32 : pa_in x1 20 = true
  case neg => rw [if_neg hb32] at e; cases e
  rw [if_pos hb32] at e
  refine gs_iast rfl (gd_si (j := x1.toNatClampNeg) rfl (by decide) hb32 rfl) ?_
  obtain ⟨f33, hf33, e⟩ := pn_some e
  refine gs_heap hf33 ?_
  refine gs_aload_n rfl rfl ?_
  refine gs_get rfl (gd_r (b := 127) rfl rfl rfl) ?_
  refine gs_iload_n rfl rfl ?_
  refine gs_aload_n rfl rfl ?_
  obtain ⟨r34, ec35, e⟩ := ob1_some e
  refine gs_callvL (st := [.int x1, .ref 127]) rfl (pr_C_le (by decide) (th_X9_word L f33 r34 ec35)) rfl rfl rfl (by decide) rfl (Or.inr (by decide)) ?_
  refine gs_ldc2 (w := 125779836236645) rfl (by decide) ?_
  refine gs_lcmp rfl ?_
  obtain ⟨v37, ev118, e⟩ := ob1_some e
  have KJ118 : pr_G L 4 mt_X9_readSaying (118, [(0, .ref 110), (1, .int x1)], [.int v37, .int x1, .ref 127], hH f33) none (hH g) := by
    by_cases hb38 : pa_in x1 20 = true
    case neg => rw [if_neg hb38] at e; cases e
    rw [if_pos hb38] at e
    refine gs_bast rfl (gd_sz (j := x1.toNatClampNeg) rfl (by decide) hb38 rfl) ?_
    obtain ⟨f39, hf39, e⟩ := pn_some e
    refine gs_heap hf39 ?_
    refine gs_aload_n rfl rfl ?_
    obtain ⟨f40, ec41, e⟩ := ob1_some e
    refine gs_callvV (st := []) rfl (pr_C_le (by decide) (th_X9_mustRefuseOrGive L f39 f40 ec41)) rfl rfl rfl (by decide) rfl (Or.inr (by decide)) ?_
    refine gs_aload_n rfl rfl ?_
    refine gs_get rfl (gd_r (b := 128) rfl rfl rfl) ?_
    refine gs_iload_n rfl rfl ?_
    refine gs_iconst (x := 0) rfl (by decide) ?_
    by_cases hb42 : pa_in x1 20 = true
    case neg => rw [if_neg hb42] at e; cases e
    rw [if_pos hb42] at e
    refine gs_iast rfl (gd_si (j := x1.toNatClampNeg) rfl (by decide) hb42 rfl) ?_
    obtain ⟨f43, hf43, e⟩ := pn_some e
    refine gs_heap hf43 ?_
    refine gs_iconst (x := 0) rfl (by decide) ?_
    refine gs_istore_n (lv' := [(2, .int 0), (0, .ref 110), (1, .int x1)]) rfl rfl ?_
    refine gs_drop [1, 2, 0] rfl ?_
    obtain ⟨f48, el49, e⟩ := ob1_some e
    refine tl_X9_readSaying_132 L 5000 x1 0 f43 f48 _ _ el49 ?_
    refine gs_drop [0, 1] rfl ?_
    obtain ⟨f74, el75, e⟩ := ob1_some e
    refine tl_X9_readSaying_155 L 5000 x1 f48 f74 _ _ el75 ?_
    refine gs_aload_n rfl rfl ?_
    refine gs_dup rfl rfl ?_
    refine gs_get rfl (gd_i rfl rfl) ?_
    refine gs_iconst (x := 1) rfl (by decide) ?_
    refine gs_iadd rfl ?_
    refine gs_put rfl (gd_pi rfl rfl) ?_
    obtain ⟨f76, hf76, e⟩ := pn_some e
    refine gs_heap hf76 ?_
    obtain rfl := inj1 e
    exact gs_vret rfl rfl rfl rfl
  have e := ev118
  clear ev118
  refine gs_ne0 rfl (fun c36 => ?_) (fun c36 => ?_)
  · rw [if_neg c36] at e
    refine gs_iconst (x := 0) rfl (by decide) ?_
    obtain rfl := inj1 e
    refine gs_drop [1, 0] rfl ?_
    exact KJ118
  · rw [if_pos c36] at e
    refine gs_iconst (x := 1) rfl (by decide) ?_
    refine gs_goto rfl ?_
    obtain rfl := inj1 e
    refine gs_drop [1, 0] rfl ?_
    exact KJ118
