def lp_X9_readWithin_19 : Nat → Int32 → Int32 → Int32 → pd_M → Option (Int32 × pd_M)
  | 0, _, _, _, _ => none
  | n + 1, z1, z2, z3, f =>
    if (f 110 37) = 0 then
    if (f 110 34) = 3 then
    ob2 (fn_X9_numberIn 0 3 (z3 ||| ((1 : Int32) <<< (z1 &&& 31))) f) fun r9 f10 =>
    ob1 (if (f10 110 37) = 0 then
    some (((1 : Int32) <<< (r9 &&& 31)))
    else
    some (0)) fun (v13 : Int32) =>
    pn ((z3 ||| v13)) fun x14 =>
    lp_X9_readWithin_19 n z1 z2 x14 f10
    else
    some (z3, f)
    else
    some (z3, f)
def fn_X9_readWithin (f : pd_M) : Option (pd_M) :=
  ob2 (fn_X9_numberIn 0 3 0 f) fun r1 f2 =>
  ob2 (fn_X9_numberIn 0 99 0 f2) fun r4 f5 =>
  ob2 (lp_X9_readWithin_19 5000 r1 r4 0 f5) fun y15 f16 =>
  if (f16 110 37) = 0 then
  if pa_in r1 4 = true then
  pn ((pi_up f16 134 (r1.toNatClampNeg) r4)) fun f20 =>
  if pa_in r1 4 = true then
  pn ((pi_up f20 135 (r1.toNatClampNeg) y15)) fun f22 =>
  some f22
  else none
  else none
  else
  some f16
set_option maxRecDepth 100000 in
set_option maxHeartbeats 4000000 in
theorem tl_X9_readWithin_19 (L : Nat) : ∀ (n : Nat) (z1 : Int32) (z2 : Int32) (z3 : Int32) (f : pd_M) (w0 : Int32) (w1 : pd_M) (r : Option Value) (h2 : ph_T), lp_X9_readWithin_19 n z1 z2 z3 f = some (w0, w1) → pr_G L 4 mt_X9_readWithin (68, [(0, .ref 110), (1, .int z1), (2, .int z2), (3, .int w0)], [], hH w1) r h2 → pr_G L 4 mt_X9_readWithin (19, [(0, .ref 110), (1, .int z1), (2, .int z2), (3, .int z3)], [], hH f) r h2 := by
  intro n
  induction n with
  | zero => intro z1 z2 z3 f w0 w1 r h2 e; cases e
  | succ n ih =>
    intro z1 z2 z3 f w0 w1 r h2 e K
    unfold lp_X9_readWithin_19 at e
    refine gs_aload_n rfl rfl ?_
    refine gs_get rfl (gd_i rfl rfl) ?_
    refine gs_ne0 rfl (fun c7 => ?_) (fun c7 => ?_)
    · rw [if_neg c7] at e
      obtain ⟨rfl, rfl⟩ := inj2 e
      refine gs_drop [0, 1, 2, 3] rfl ?_
      exact K
    · rw [if_pos c7] at e
      refine gs_aload_n rfl rfl ?_
      refine gs_get rfl (gd_i rfl rfl) ?_
      refine gs_iconst (x := 3) rfl (by decide) ?_
      refine gs_ne2 rfl (fun c8 => ?_) (fun c8 => ?_)
      · rw [if_neg c8] at e
        obtain ⟨rfl, rfl⟩ := inj2 e
        refine gs_drop [0, 1, 2, 3] rfl ?_
        exact K
      · rw [if_pos c8] at e
        refine gs_aload_n rfl rfl ?_
        refine gs_iconst (x := 0) rfl (by decide) ?_
        refine gs_iconst (x := 3) rfl (by decide) ?_
        refine gs_iload_n rfl rfl ?_
        refine gs_iconst (x := 1) rfl (by decide) ?_
        refine gs_iload_n rfl rfl ?_
        refine gs_ishl rfl ?_
        refine gs_ior rfl ?_
        obtain ⟨r9, f10, ec11, e⟩ := ob2_some e
        refine gs_callvI (st := []) rfl (pr_C_le (by decide) (th_X9_numberIn L 0 3 (z3 ||| ((1 : Int32) <<< (z1 &&& 31))) f r9 f10 ec11)) rfl rfl rfl (by decide) rfl (Or.inr (by decide)) ?_
        refine gs_istore (lv' := [(4, .int r9), (0, .ref 110), (1, .int z1), (2, .int z2), (3, .int z3)]) rfl rfl ?_
        refine gs_iload_n rfl rfl ?_
        refine gs_aload_n rfl rfl ?_
        refine gs_get rfl (gd_i rfl rfl) ?_
        obtain ⟨v13, ev63, e⟩ := ob1_some e
        have KJ63 : pr_G L 4 mt_X9_readWithin (63, [(0, .ref 110), (1, .int z1), (2, .int z2)], [.int v13, .int z3], hH f10) r h2 := by
          refine gs_ior rfl ?_
          obtain ⟨x14, hx14, e⟩ := pn_some e
          refine gs_topi hx14 ?_
          refine gs_istore_n (lv' := [(3, .int x14), (0, .ref 110), (1, .int z1), (2, .int z2)]) rfl rfl ?_
          refine gs_goto rfl ?_
          refine gs_drop [1, 2, 3, 0] rfl ?_
          exact ih z1 z2 x14 f10 w0 w1 _ _ e K
        have e := ev63
        clear ev63
        refine gs_ne0 rfl (fun c12 => ?_) (fun c12 => ?_)
        · rw [if_neg c12] at e
          refine gs_iconst (x := 0) rfl (by decide) ?_
          obtain rfl := inj1 e
          refine gs_drop [1, 2, 3] rfl ?_
          exact KJ63
        · rw [if_pos c12] at e
          refine gs_iconst (x := 1) rfl (by decide) ?_
          refine gs_iload rfl rfl ?_
          refine gs_ishl rfl ?_
          refine gs_goto rfl ?_
          obtain rfl := inj1 e
          refine gs_drop [1, 2, 3] rfl ?_
          exact KJ63
set_option maxRecDepth 100000 in
set_option maxHeartbeats 4000000 in
theorem th_X9_readWithin (L : Nat)  (f : pd_M) (g : pd_M) (e : fn_X9_readWithin f = some g) : pr_C L 5 137 [.ref 110] (hH f) none (hH g) := by
  refine pr_C.of (G := mt_X9_readWithin) rfl rfl ?_
  show pr_G L 4 mt_X9_readWithin (0, [(0, .ref 110)], [], hH f) _ _
  unfold fn_X9_readWithin at e
  refine gs_aload_n rfl rfl ?_
  refine gs_iconst (x := 0) rfl (by decide) ?_
  refine gs_iconst (x := 3) rfl (by decide) ?_
  refine gs_iconst (x := 0) rfl (by decide) ?_
  obtain ⟨r1, f2, ec3, e⟩ := ob2_some e
  refine gs_callvI (st := []) rfl (pr_C_le (by decide) (th_X9_numberIn L 0 3 0 f r1 f2 ec3)) rfl rfl rfl (by decide) rfl (Or.inr (by decide)) ?_
  refine gs_istore_n (lv' := [(1, .int r1), (0, .ref 110)]) rfl rfl ?_
  refine gs_aload_n rfl rfl ?_
  refine gs_iconst (x := 0) rfl (by decide) ?_
  refine gs_bipush (x := 99) rfl (by decide) ?_
  refine gs_iconst (x := 0) rfl (by decide) ?_
  obtain ⟨r4, f5, ec6, e⟩ := ob2_some e
  refine gs_callvI (st := []) rfl (pr_C_le (by decide) (th_X9_numberIn L 0 99 0 f2 r4 f5 ec6)) rfl rfl rfl (by decide) rfl (Or.inr (by decide)) ?_
  refine gs_istore_n (lv' := [(2, .int r4), (1, .int r1), (0, .ref 110)]) rfl rfl ?_
  refine gs_iconst (x := 0) rfl (by decide) ?_
  refine gs_istore_n (lv' := [(3, .int 0), (2, .int r4), (1, .int r1), (0, .ref 110)]) rfl rfl ?_
  refine gs_drop [3, 2, 1, 0] rfl ?_
  obtain ⟨y15, f16, el17, e⟩ := ob2_some e
  refine tl_X9_readWithin_19 L 5000 r1 r4 0 f5 y15 f16 _ _ el17 ?_
  refine gs_aload_n rfl rfl ?_
  refine gs_get rfl (gd_i rfl rfl) ?_
  refine gs_ne0 rfl (fun c18 => ?_) (fun c18 => ?_)
  · rw [if_neg c18] at e
    obtain rfl := inj1 e
    exact gs_vret rfl rfl rfl rfl
  · rw [if_pos c18] at e
    refine gs_aload_n rfl rfl ?_
    refine gs_get rfl (gd_r (b := 134) rfl rfl rfl) ?_
    refine gs_iload_n rfl rfl ?_
    refine gs_iload_n rfl rfl ?_
    by_cases hb19 : pa_in r1 4 = true
    case neg => rw [if_neg hb19] at e; cases e
    rw [if_pos hb19] at e
    refine gs_iast rfl (gd_si (j := r1.toNatClampNeg) rfl (by decide) hb19 rfl) ?_
    obtain ⟨f20, hf20, e⟩ := pn_some e
    refine gs_heap hf20 ?_
    refine gs_aload_n rfl rfl ?_
    refine gs_get rfl (gd_r (b := 135) rfl rfl rfl) ?_
    refine gs_iload_n rfl rfl ?_
    refine gs_iload_n rfl rfl ?_
    by_cases hb21 : pa_in r1 4 = true
    case neg => rw [if_neg hb21] at e; cases e
    rw [if_pos hb21] at e
    refine gs_iast rfl (gd_si (j := r1.toNatClampNeg) rfl (by decide) hb21 rfl) ?_
    obtain ⟨f22, hf22, e⟩ := pn_some e
    refine gs_heap hf22 ?_
    obtain rfl := inj1 e
    exact gs_vret rfl rfl rfl rfl
def fn_X9_readOne (f : pd_M) : Option (pd_M) :=
  ob1 (fn_X9_word f) fun r1 =>
  ob1 (if (lg_cmp r1 126862485974631) = 0 then
  if (f 110 13) = 20 then
  ob1 (fn_X9_bad 3 f) fun f6 =>
  some (f6)
  else
  some (f)
  else
  some (f)) fun (f4 : pd_M) =>
  ob1 (if (lg_cmp r1 28539376735186798) = 0 then
  some (1)
  else
  if (lg_cmp r1 126862485974631) = 0 then
  some (1)
  else
  if (lg_cmp r1 7631481) = 0 then
  some (1)
  else
  if (lg_cmp r1 131294808271214) = 0 then
  some (1)
  else
  some (0)) fun (v9 : Int32) =>
  ob1 (fn_X9_must v9 f4) fun f13 =>
  if (f13 110 37) ≤ 0 then
  ob1 (if (lg_cmp r1 28539376735186798) = 0 then
  ob1 (fn_X9_readEdition f13) fun f38 =>
  some (f38)
  else
  if (lg_cmp r1 126862485974631) = 0 then
  ob1 (fn_X9_readSaying f13) fun f36 =>
  some (f36)
  else
  if (lg_cmp r1 7631481) = 0 then
  ob2 (fn_X9_numberIn 0 3 0 f13) fun r22 f23 =>
  ob2 (fn_X9_numberIn 0 3 0 f23) fun r25 f26 =>
  ob2 (fn_X9_numberIn 0 15 0 f26) fun r28 f29 =>
  ob1 (if (f29 110 37) = 0 then
  if pa_in ((4 * r22) + r25) 16 = true then
  if pa_in ((4 * r22) + r25) 16 = true then
  pn ((pi_up f29 131 (((4 * r22) + r25).toNatClampNeg) ((f29 131 ((4 * r22) + r25).toNatClampNeg) ||| r28))) fun f35 =>
  some (f35)
  else none
  else none
  else
  some (f29)) fun (f32 : pd_M) =>
  some (f32)
  else
  ob1 (fn_X9_readWithin f13) fun f20 =>
  some (f20)) fun (f17 : pd_M) =>
  if (f17 110 37) = 0 then
  ob1 (if (f17 110 34) = 4 then
  some (1)
  else
  some (0)) fun (v42 : Int32) =>
  ob1 (fn_X9_must v42 f17) fun f43 =>
  some f43
  else
  some f17
  else
  some f13
set_option maxRecDepth 100000 in
set_option maxHeartbeats 4000000 in
theorem th_X9_readOne (L : Nat)  (f : pd_M) (g : pd_M) (e : fn_X9_readOne f = some g) : pr_C L 7 138 [.ref 110] (hH f) none (hH g) := by
  refine pr_C.of (G := mt_X9_readOne) rfl rfl ?_
  show pr_G L 6 mt_X9_readOne (0, [(0, .ref 110)], [], hH f) _ _
  unfold fn_X9_readOne at e
  refine gs_aload_n rfl rfl ?_
  obtain ⟨r1, ec2, e⟩ := ob1_some e
  refine gs_callvL (st := []) rfl (pr_C_le (by decide) (th_X9_word L f r1 ec2)) rfl rfl rfl (by decide) rfl (Or.inr (by decide)) ?_
  refine gs_lstore_n (lv' := [(1, .long r1), (0, .ref 110)]) rfl rfl ?_
  refine gs_lload_n rfl rfl ?_
  refine gs_ldc2 (w := 126862485974631) rfl (by decide) ?_
  refine gs_lcmp rfl ?_
  obtain ⟨f4, ev27, e⟩ := ob1_some e
  have KJ27 : pr_G L 6 mt_X9_readOne (27, [(0, .ref 110), (1, .long r1)], [], hH f4) none (hH g) := by
    refine gs_aload_n rfl rfl ?_
    refine gs_lload_n rfl rfl ?_
    refine gs_ldc2 (w := 28539376735186798) rfl (by decide) ?_
    refine gs_lcmp rfl ?_
    obtain ⟨v9, ev65, e⟩ := ob1_some e
    have KJ65 : pr_G L 6 mt_X9_readOne (65, [(0, .ref 110), (1, .long r1)], [.int v9, .ref 110], hH f4) none (hH g) := by
      obtain ⟨f13, ec14, e⟩ := ob1_some e
      refine gs_callvV (st := []) rfl (pr_C_le (by decide) (th_X9_must L v9 f4 f13 ec14)) rfl rfl rfl (by decide) rfl (Or.inr (by decide)) ?_
      refine gs_aload_n rfl rfl ?_
      refine gs_get rfl (gd_i rfl rfl) ?_
      refine gs_le0 rfl (fun c15 => ?_) (fun c15 => ?_)
      · rw [if_pos c15] at e
        refine gs_lload_n rfl rfl ?_
        refine gs_ldc2 (w := 28539376735186798) rfl (by decide) ?_
        refine gs_lcmp rfl ?_
        obtain ⟨f17, ev171, e⟩ := ob1_some e
        have KJ171 : pr_G L 6 mt_X9_readOne (171, [(0, .ref 110)], [], hH f17) none (hH g) := by
          refine gs_aload_n rfl rfl ?_
          refine gs_get rfl (gd_i rfl rfl) ?_
          refine gs_ne0 rfl (fun c40 => ?_) (fun c40 => ?_)
          · rw [if_neg c40] at e
            obtain rfl := inj1 e
            exact gs_vret rfl rfl rfl rfl
          · rw [if_pos c40] at e
            refine gs_aload_n rfl rfl ?_
            refine gs_aload_n rfl rfl ?_
            refine gs_get rfl (gd_i rfl rfl) ?_
            refine gs_iconst (x := 4) rfl (by decide) ?_
            obtain ⟨v42, ev192, e⟩ := ob1_some e
            have KJ192 : pr_G L 6 mt_X9_readOne (192, [], [.int v42, .ref 110], hH f17) none (hH g) := by
              obtain ⟨f43, ec44, e⟩ := ob1_some e
              refine gs_callvV (st := []) rfl (pr_C_le (by decide) (th_X9_must L v42 f17 f43 ec44)) rfl rfl rfl (by decide) rfl (Or.inr (by decide)) ?_
              obtain rfl := inj1 e
              exact gs_vret rfl rfl rfl rfl
            have e := ev192
            clear ev192
            refine gs_ne2 rfl (fun c41 => ?_) (fun c41 => ?_)
            · rw [if_neg c41] at e
              refine gs_iconst (x := 0) rfl (by decide) ?_
              obtain rfl := inj1 e
              refine gs_drop [] rfl ?_
              exact KJ192
            · rw [if_pos c41] at e
              refine gs_iconst (x := 1) rfl (by decide) ?_
              refine gs_goto rfl ?_
              obtain rfl := inj1 e
              refine gs_drop [] rfl ?_
              exact KJ192
        have e := ev171
        clear ev171
        refine gs_ne0 rfl (fun c16 => ?_) (fun c16 => ?_)
        · rw [if_neg c16] at e
          refine gs_lload_n rfl rfl ?_
          refine gs_ldc2 (w := 126862485974631) rfl (by decide) ?_
          refine gs_lcmp rfl ?_
          refine gs_ne0 rfl (fun c18 => ?_) (fun c18 => ?_)
          · rw [if_neg c18] at e
            refine gs_lload_n rfl rfl ?_
            refine gs_ldc2 (w := 7631481) rfl (by decide) ?_
            refine gs_lcmp rfl ?_
            refine gs_ne0 rfl (fun c19 => ?_) (fun c19 => ?_)
            · rw [if_neg c19] at e
              refine gs_aload_n rfl rfl ?_
              obtain ⟨f20, ec21, e⟩ := ob1_some e
              refine gs_callvV (st := []) rfl (pr_C_le (by decide) (th_X9_readWithin L f13 f20 ec21)) rfl rfl rfl (by decide) rfl (Or.inr (by decide)) ?_
              obtain rfl := inj1 e
              refine gs_drop [0] rfl ?_
              exact KJ171
            · rw [if_pos c19] at e
              refine gs_aload_n rfl rfl ?_
              refine gs_iconst (x := 0) rfl (by decide) ?_
              refine gs_iconst (x := 3) rfl (by decide) ?_
              refine gs_iconst (x := 0) rfl (by decide) ?_
              obtain ⟨r22, f23, ec24, e⟩ := ob2_some e
              refine gs_callvI (st := []) rfl (pr_C_le (by decide) (th_X9_numberIn L 0 3 0 f13 r22 f23 ec24)) rfl rfl rfl (by decide) rfl (Or.inr (by decide)) ?_
              refine gs_istore_n (lv' := [(3, .int r22), (0, .ref 110), (1, .long r1)]) rfl rfl ?_
              refine gs_aload_n rfl rfl ?_
              refine gs_iconst (x := 0) rfl (by decide) ?_
              refine gs_iconst (x := 3) rfl (by decide) ?_
              refine gs_iconst (x := 0) rfl (by decide) ?_
              obtain ⟨r25, f26, ec27, e⟩ := ob2_some e
              refine gs_callvI (st := []) rfl (pr_C_le (by decide) (th_X9_numberIn L 0 3 0 f23 r25 f26 ec27)) rfl rfl rfl (by decide) rfl (Or.inr (by decide)) ?_
              refine gs_istore (lv' := [(4, .int r25), (3, .int r22), (0, .ref 110), (1, .long r1)]) rfl rfl ?_
              refine gs_aload_n rfl rfl ?_
              refine gs_iconst (x := 0) rfl (by decide) ?_
              refine gs_bipush (x := 15) rfl (by decide) ?_
              refine gs_iconst (x := 0) rfl (by decide) ?_
              obtain ⟨r28, f29, ec30, e⟩ := ob2_some e
              refine gs_callvI (st := []) rfl (pr_C_le (by decide) (th_X9_numberIn L 0 15 0 f26 r28 f29 ec30)) rfl rfl rfl (by decide) rfl (Or.inr (by decide)) ?_
              refine gs_istore (lv' := [(5, .int r28), (4, .int r25), (3, .int r22), (0, .ref 110), (1, .long r1)]) rfl rfl ?_
              refine gs_aload_n rfl rfl ?_
              refine gs_get rfl (gd_i rfl rfl) ?_
              obtain ⟨f32, ev164, e⟩ := ob1_some e
              have KJ164 : pr_G L 6 mt_X9_readOne (164, [(0, .ref 110)], [], hH f32) none (hH g) := by
                refine gs_goto rfl ?_
                obtain rfl := inj1 e
                refine gs_drop [0] rfl ?_
                exact KJ171
              have e := ev164
              clear ev164
              refine gs_ne0 rfl (fun c31 => ?_) (fun c31 => ?_)
              · rw [if_neg c31] at e
                obtain rfl := inj1 e
                refine gs_drop [3] rfl ?_
                exact KJ164
              · rw [if_pos c31] at e
                refine gs_aload_n rfl rfl ?_
                refine gs_get rfl (gd_r (b := 131) rfl rfl rfl) ?_
                refine gs_iconst (x := 4) rfl (by decide) ?_
                refine gs_iload_n rfl rfl ?_
                refine gs_imul rfl ?_
                refine gs_iload rfl rfl ?_
                refine gs_iadd rfl ?_
                refine gs_dup2 rfl rfl rfl ?_
                by_cases hb33 : pa_in ((4 * r22) + r25) 16 = true
                case neg => rw [if_neg hb33] at e; cases e
                rw [if_pos hb33] at e
                refine gs_iald rfl (gd_ia (j := ((4 * r22) + r25).toNatClampNeg) rfl hb33 rfl) ?_
                refine gs_iload rfl rfl ?_
                refine gs_ior rfl ?_
                by_cases hb34 : pa_in ((4 * r22) + r25) 16 = true
                case neg => rw [if_neg hb34] at e; cases e
                rw [if_pos hb34] at e
                refine gs_iast rfl (gd_si (j := ((4 * r22) + r25).toNatClampNeg) rfl (by decide) hb34 rfl) ?_
                obtain ⟨f35, hf35, e⟩ := pn_some e
                refine gs_heap hf35 ?_
                obtain rfl := inj1 e
                refine gs_drop [3] rfl ?_
                exact KJ164
          · rw [if_pos c18] at e
            refine gs_aload_n rfl rfl ?_
            obtain ⟨f36, ec37, e⟩ := ob1_some e
            refine gs_callvV (st := []) rfl (pr_C_le (by decide) (th_X9_readSaying L f13 f36 ec37)) rfl rfl rfl (by decide) rfl (Or.inr (by decide)) ?_
            refine gs_goto rfl ?_
            obtain rfl := inj1 e
            refine gs_drop [0] rfl ?_
            exact KJ171
        · rw [if_pos c16] at e
          refine gs_aload_n rfl rfl ?_
          obtain ⟨f38, ec39, e⟩ := ob1_some e
          refine gs_callvV (st := []) rfl (pr_C_le (by decide) (th_X9_readEdition L f13 f38 ec39)) rfl rfl rfl (by decide) rfl (Or.inr (by decide)) ?_
          refine gs_goto rfl ?_
          obtain rfl := inj1 e
          refine gs_drop [0] rfl ?_
          exact KJ171
      · rw [if_neg c15] at e
        obtain rfl := inj1 e
        exact gs_vret rfl rfl rfl rfl
    have e := ev65
    clear ev65
    refine gs_eq0 rfl (fun c8 => ?_) (fun c8 => ?_)
    · rw [if_pos c8] at e
      refine gs_iconst (x := 1) rfl (by decide) ?_
      refine gs_goto rfl ?_
      obtain rfl := inj1 e
      refine gs_drop [0, 1] rfl ?_
      exact KJ65
    · rw [if_neg c8] at e
      refine gs_lload_n rfl rfl ?_
      refine gs_ldc2 (w := 126862485974631) rfl (by decide) ?_
      refine gs_lcmp rfl ?_
      refine gs_eq0 rfl (fun c10 => ?_) (fun c10 => ?_)
      · rw [if_pos c10] at e
        refine gs_iconst (x := 1) rfl (by decide) ?_
        refine gs_goto rfl ?_
        obtain rfl := inj1 e
        refine gs_drop [0, 1] rfl ?_
        exact KJ65
      · rw [if_neg c10] at e
        refine gs_lload_n rfl rfl ?_
        refine gs_ldc2 (w := 7631481) rfl (by decide) ?_
        refine gs_lcmp rfl ?_
        refine gs_eq0 rfl (fun c11 => ?_) (fun c11 => ?_)
        · rw [if_pos c11] at e
          refine gs_iconst (x := 1) rfl (by decide) ?_
          refine gs_goto rfl ?_
          obtain rfl := inj1 e
          refine gs_drop [0, 1] rfl ?_
          exact KJ65
        · rw [if_neg c11] at e
          refine gs_lload_n rfl rfl ?_
          refine gs_ldc2 (w := 131294808271214) rfl (by decide) ?_
          refine gs_lcmp rfl ?_
          refine gs_ne0 rfl (fun c12 => ?_) (fun c12 => ?_)
          · rw [if_neg c12] at e
            refine gs_iconst (x := 0) rfl (by decide) ?_
            obtain rfl := inj1 e
            refine gs_drop [0, 1] rfl ?_
            exact KJ65
          · rw [if_pos c12] at e
            refine gs_iconst (x := 1) rfl (by decide) ?_
            refine gs_goto rfl ?_
            obtain rfl := inj1 e
            refine gs_drop [0, 1] rfl ?_
            exact KJ65
  have e := ev27
  clear ev27
  refine gs_ne0 rfl (fun c3 => ?_) (fun c3 => ?_)
  · rw [if_neg c3] at e
    obtain rfl := inj1 e
    refine gs_drop [1, 0] rfl ?_
    exact KJ27
  · rw [if_pos c3] at e
    refine gs_aload_n rfl rfl ?_
    refine gs_get rfl (gd_i rfl rfl) ?_
    refine gs_bipush (x := 20) rfl (by decide) ?_
    refine gs_ne2 rfl (fun c5 => ?_) (fun c5 => ?_)
    · rw [if_neg c5] at e
      obtain rfl := inj1 e
      refine gs_drop [1, 0] rfl ?_
      exact KJ27
    · rw [if_pos c5] at e
      refine gs_aload_n rfl rfl ?_
      refine gs_iconst (x := 3) rfl (by decide) ?_
      obtain ⟨f6, ec7, e⟩ := ob1_some e
      refine gs_callvV (st := []) rfl (pr_C_le (by decide) (th_X9_bad L 3 f f6 ec7)) rfl rfl rfl (by decide) rfl (Or.inr (by decide)) ?_
      obtain rfl := inj1 e
      refine gs_drop [1, 0] rfl ?_
      exact KJ27
def lp_X9_laws_38 : Nat → Int32 → pd_M → Option (pd_M)
  | 0, _, _ => none
  | n + 1, z1, f =>
    if 16 ≤ z1 then
    some (f)
    else
    if pa_in z1 16 = true then
    if pa_in z1 16 = true then
    pn ((pi_up f 131 (z1.toNatClampNeg) (f 130 z1.toNatClampNeg))) fun f10 =>
    pn (z1 + 1) fun x11 =>
    lp_X9_laws_38 n x11 f10
    else none
    else none
def lp_X9_laws_64 : Nat → Int32 → pd_M → Option (pd_M)
  | 0, _, _ => none
  | n + 1, z1, f =>
    if 4 ≤ z1 then
    some (f)
    else
    if pa_in z1 4 = true then
    if pa_in z1 4 = true then
    pn ((pi_up f 115 (z1.toNatClampNeg) (f 114 z1.toNatClampNeg))) fun f17 =>
    if pa_in z1 4 = true then
    if pa_in z1 4 = true then
    pn ((pi_up f17 134 (z1.toNatClampNeg) (f17 132 z1.toNatClampNeg))) fun f20 =>
    if pa_in z1 4 = true then
    if pa_in z1 4 = true then
    pn ((pi_up f20 135 (z1.toNatClampNeg) (f20 133 z1.toNatClampNeg))) fun f23 =>
    pn (z1 + 1) fun x24 =>
    lp_X9_laws_64 n x24 f23
    else none
    else none
    else none
    else none
    else none
    else none
def lp_X9_laws_115 : Nat → pd_M → Option (pd_M)
  | 0, _ => none
  | n + 1, f =>
    if (f 110 37) = 0 then
    if (f 110 34) = 1 then
    some (f)
    else
    ob1 (fn_X9_readOne f) fun f31 =>
    lp_X9_laws_115 n f31
    else
    some (f)
def lp_X9_laws_170 : Nat → Int32 → pd_M → Option (pd_M)
  | 0, _, _ => none
  | n + 1, z1, f =>
    if 16 ≤ z1 then
    some (f)
    else
    if pa_in z1 16 = true then
    if pa_in z1 16 = true then
    pn ((pi_up f 130 (z1.toNatClampNeg) (f 131 z1.toNatClampNeg))) fun f40 =>
    pn (z1 + 1) fun x41 =>
    lp_X9_laws_170 n x41 f40
    else none
    else none
def lp_X9_laws_196 : Nat → Int32 → pd_M → Option (pd_M)
  | 0, _, _ => none
  | n + 1, z1, f =>
    if 4 ≤ z1 then
    some (f)
    else
    if pa_in z1 4 = true then
    if pa_in z1 4 = true then
    pn ((pi_up f 114 (z1.toNatClampNeg) (f 115 z1.toNatClampNeg))) fun f47 =>
    if pa_in z1 4 = true then
    if pa_in z1 4 = true then
    pn ((pi_up f47 132 (z1.toNatClampNeg) (f47 134 z1.toNatClampNeg))) fun f50 =>
    if pa_in z1 4 = true then
    if pa_in z1 4 = true then
    pn ((pi_up f50 133 (z1.toNatClampNeg) (f50 135 z1.toNatClampNeg))) fun f53 =>
    pn (z1 + 1) fun x54 =>
    lp_X9_laws_196 n x54 f53
    else none
    else none
    else none
    else none
    else none
    else none
def fn_X9_laws (f : pd_M) : Option (Int32 × pd_M) :=
  pn ((pi_up f 110 0 0)) fun f1 =>
  pn ((pi_up f1 110 32 (f1 110 30))) fun f2 =>
  pn ((pi_up f2 110 30 0)) fun f3 =>
  pn ((pi_up f3 110 33 0)) fun f4 =>
  pn ((pi_up f4 110 37 0)) fun f5 =>
  pn ((pi_up f5 110 13 (f5 110 12))) fun f6 =>
  ob1 (lp_X9_laws_38 5000 0 f6) fun f12 =>
  ob1 (lp_X9_laws_64 5000 0 f12) fun f25 =>
  ob1 (fn_X9_next f25) fun f27 =>
  ob1 (lp_X9_laws_115 5000 f27) fun f33 =>
  if (f33 110 37) ≤ 0 then
  pn ((pi_up f33 110 12 (f33 110 13))) fun f36 =>
  ob1 (lp_X9_laws_170 5000 0 f36) fun f42 =>
  ob1 (lp_X9_laws_196 5000 0 f42) fun f55 =>
  some ((f55 110 12), f55)
  else
  pn ((pi_up f33 110 31 (f33 110 37))) fun f57 =>
  some (((-1000100) - (f57 110 38)), f57)
set_option maxRecDepth 100000 in
set_option maxHeartbeats 4000000 in
theorem tl_X9_laws_38 (L : Nat) : ∀ (n : Nat) (z1 : Int32) (f : pd_M) (w0 : pd_M) (r : Option Value) (h2 : ph_T), lp_X9_laws_38 n z1 f = some (w0) → pr_G L 7 mt_X9_laws (62, [(0, .ref 110)], [], hH w0) r h2 → pr_G L 7 mt_X9_laws (38, [(0, .ref 110), (1, .int z1)], [], hH f) r h2 := by
  intro n
  induction n with
  | zero => intro z1 f w0 r h2 e; cases e
  | succ n ih =>
    intro z1 f w0 r h2 e K
    unfold lp_X9_laws_38 at e
    refine gs_iload_n rfl rfl ?_
    refine gs_bipush (x := 16) rfl (by decide) ?_
    refine gs_ge2 rfl (fun c7 => ?_) (fun c7 => ?_)
    · rw [if_pos c7] at e
      obtain rfl := inj1 e
      refine gs_drop [0] rfl ?_
      exact K
    · rw [if_neg c7] at e
      refine gs_aload_n rfl rfl ?_
      refine gs_get rfl (gd_r (b := 131) rfl rfl rfl) ?_
      refine gs_iload_n rfl rfl ?_
      refine gs_aload_n rfl rfl ?_
      refine gs_get rfl (gd_r (b := 130) rfl rfl rfl) ?_
      refine gs_iload_n rfl rfl ?_
      by_cases hb8 : pa_in z1 16 = true
      case neg => rw [if_neg hb8] at e; cases e
      rw [if_pos hb8] at e
      refine gs_iald rfl (gd_ia (j := z1.toNatClampNeg) rfl hb8 rfl) ?_
      by_cases hb9 : pa_in z1 16 = true
      case neg => rw [if_neg hb9] at e; cases e
      rw [if_pos hb9] at e
      refine gs_iast rfl (gd_si (j := z1.toNatClampNeg) rfl (by decide) hb9 rfl) ?_
      obtain ⟨f10, hf10, e⟩ := pn_some e
      refine gs_heap hf10 ?_
      obtain ⟨x11, hx11, e⟩ := pn_some e
      refine gs_iinc1 (x1 := x11) (c := 1) (lv' := [(1, .int x11), (0, .ref 110)]) rfl rfl (by decide) hx11 rfl ?_
      refine gs_goto rfl ?_
      refine gs_drop [1, 0] rfl ?_
      exact ih x11 f10 w0 _ _ e K
set_option maxRecDepth 100000 in
set_option maxHeartbeats 4000000 in
theorem tl_X9_laws_64 (L : Nat) : ∀ (n : Nat) (z1 : Int32) (f : pd_M) (w0 : pd_M) (r : Option Value) (h2 : ph_T), lp_X9_laws_64 n z1 f = some (w0) → pr_G L 7 mt_X9_laws (111, [(0, .ref 110)], [], hH w0) r h2 → pr_G L 7 mt_X9_laws (64, [(0, .ref 110), (1, .int z1)], [], hH f) r h2 := by
  intro n
  induction n with
  | zero => intro z1 f w0 r h2 e; cases e
  | succ n ih =>
    intro z1 f w0 r h2 e K
    unfold lp_X9_laws_64 at e
    refine gs_iload_n rfl rfl ?_
    refine gs_iconst (x := 4) rfl (by decide) ?_
    refine gs_ge2 rfl (fun c14 => ?_) (fun c14 => ?_)
    · rw [if_pos c14] at e
      obtain rfl := inj1 e
      refine gs_drop [0] rfl ?_
      exact K
    · rw [if_neg c14] at e
      refine gs_aload_n rfl rfl ?_
      refine gs_get rfl (gd_r (b := 115) rfl rfl rfl) ?_
      refine gs_iload_n rfl rfl ?_
      refine gs_aload_n rfl rfl ?_
      refine gs_get rfl (gd_r (b := 114) rfl rfl rfl) ?_
      refine gs_iload_n rfl rfl ?_
      by_cases hb15 : pa_in z1 4 = true
      case neg => rw [if_neg hb15] at e; cases e
      rw [if_pos hb15] at e
      refine gs_iald rfl (gd_ia (j := z1.toNatClampNeg) rfl hb15 rfl) ?_
      by_cases hb16 : pa_in z1 4 = true
      case neg => rw [if_neg hb16] at e; cases e
      rw [if_pos hb16] at e
      refine gs_iast rfl (gd_si (j := z1.toNatClampNeg) rfl (by decide) hb16 rfl) ?_
      obtain ⟨f17, hf17, e⟩ := pn_some e
      refine gs_heap hf17 ?_
      refine gs_aload_n rfl rfl ?_
      refine gs_get rfl (gd_r (b := 134) rfl rfl rfl) ?_
      refine gs_iload_n rfl rfl ?_
      refine gs_aload_n rfl rfl ?_
      refine gs_get rfl (gd_r (b := 132) rfl rfl rfl) ?_
      refine gs_iload_n rfl rfl ?_
      by_cases hb18 : pa_in z1 4 = true
      case neg => rw [if_neg hb18] at e; cases e
      rw [if_pos hb18] at e
      refine gs_iald rfl (gd_ia (j := z1.toNatClampNeg) rfl hb18 rfl) ?_
      by_cases hb19 : pa_in z1 4 = true
      case neg => rw [if_neg hb19] at e; cases e
      rw [if_pos hb19] at e
      refine gs_iast rfl (gd_si (j := z1.toNatClampNeg) rfl (by decide) hb19 rfl) ?_
      obtain ⟨f20, hf20, e⟩ := pn_some e
      refine gs_heap hf20 ?_
      refine gs_aload_n rfl rfl ?_
      refine gs_get rfl (gd_r (b := 135) rfl rfl rfl) ?_
      refine gs_iload_n rfl rfl ?_
      refine gs_aload_n rfl rfl ?_
      refine gs_get rfl (gd_r (b := 133) rfl rfl rfl) ?_
      refine gs_iload_n rfl rfl ?_
      by_cases hb21 : pa_in z1 4 = true
      case neg => rw [if_neg hb21] at e; cases e
      rw [if_pos hb21] at e
      refine gs_iald rfl (gd_ia (j := z1.toNatClampNeg) rfl hb21 rfl) ?_
      by_cases hb22 : pa_in z1 4 = true
      case neg => rw [if_neg hb22] at e; cases e
      rw [if_pos hb22] at e
      refine gs_iast rfl (gd_si (j := z1.toNatClampNeg) rfl (by decide) hb22 rfl) ?_
      obtain ⟨f23, hf23, e⟩ := pn_some e
      refine gs_heap hf23 ?_
      obtain ⟨x24, hx24, e⟩ := pn_some e
      refine gs_iinc1 (x1 := x24) (c := 1) (lv' := [(1, .int x24), (0, .ref 110)]) rfl rfl (by decide) hx24 rfl ?_
      refine gs_goto rfl ?_
      refine gs_drop [1, 0] rfl ?_
      exact ih x24 f23 w0 _ _ e K
set_option maxRecDepth 100000 in
set_option maxHeartbeats 4000000 in
theorem tl_X9_laws_115 (L : Nat) : ∀ (n : Nat)  (f : pd_M) (w0 : pd_M) (r : Option Value) (h2 : ph_T), lp_X9_laws_115 n f = some (w0) → pr_G L 7 mt_X9_laws (137, [(0, .ref 110)], [], hH w0) r h2 → pr_G L 7 mt_X9_laws (115, [(0, .ref 110)], [], hH f) r h2 := by
  intro n
  induction n with
  | zero => intro f w0 r h2 e; cases e
  | succ n ih =>
    intro f w0 r h2 e K
    unfold lp_X9_laws_115 at e
    refine gs_aload_n rfl rfl ?_
    refine gs_get rfl (gd_i rfl rfl) ?_
    refine gs_ne0 rfl (fun c29 => ?_) (fun c29 => ?_)
    · rw [if_neg c29] at e
      obtain rfl := inj1 e
      refine gs_drop [0] rfl ?_
      exact K
    · rw [if_pos c29] at e
      refine gs_aload_n rfl rfl ?_
      refine gs_get rfl (gd_i rfl rfl) ?_
      refine gs_iconst (x := 1) rfl (by decide) ?_
      refine gs_eq2 rfl (fun c30 => ?_) (fun c30 => ?_)
      · rw [if_pos c30] at e
        obtain rfl := inj1 e
        refine gs_drop [0] rfl ?_
        exact K
      · rw [if_neg c30] at e
        refine gs_aload_n rfl rfl ?_
        obtain ⟨f31, ec32, e⟩ := ob1_some e
        refine gs_callvV (st := []) rfl (pr_C_le (by decide) (th_X9_readOne L f f31 ec32)) rfl rfl rfl (by decide) rfl (Or.inr (by decide)) ?_
        refine gs_goto rfl ?_
        refine gs_drop [0] rfl ?_
        exact ih f31 w0 _ _ e K
set_option maxRecDepth 100000 in
set_option maxHeartbeats 4000000 in
theorem tl_X9_laws_170 (L : Nat) : ∀ (n : Nat) (z1 : Int32) (f : pd_M) (w0 : pd_M) (r : Option Value) (h2 : ph_T), lp_X9_laws_170 n z1 f = some (w0) → pr_G L 7 mt_X9_laws (194, [(0, .ref 110)], [], hH w0) r h2 → pr_G L 7 mt_X9_laws (170, [(0, .ref 110), (1, .int z1)], [], hH f) r h2 := by
  intro n
  induction n with
  | zero => intro z1 f w0 r h2 e; cases e
  | succ n ih =>
    intro z1 f w0 r h2 e K
    unfold lp_X9_laws_170 at e
    refine gs_iload_n rfl rfl ?_
    refine gs_bipush (x := 16) rfl (by decide) ?_
    refine gs_ge2 rfl (fun c37 => ?_) (fun c37 => ?_)
    · rw [if_pos c37] at e
      obtain rfl := inj1 e
      refine gs_drop [0] rfl ?_
      exact K
    · rw [if_neg c37] at e
      refine gs_aload_n rfl rfl ?_
      refine gs_get rfl (gd_r (b := 130) rfl rfl rfl) ?_
      refine gs_iload_n rfl rfl ?_
      refine gs_aload_n rfl rfl ?_
      refine gs_get rfl (gd_r (b := 131) rfl rfl rfl) ?_
      refine gs_iload_n rfl rfl ?_
      by_cases hb38 : pa_in z1 16 = true
      case neg => rw [if_neg hb38] at e; cases e
      rw [if_pos hb38] at e
      refine gs_iald rfl (gd_ia (j := z1.toNatClampNeg) rfl hb38 rfl) ?_
      by_cases hb39 : pa_in z1 16 = true
      case neg => rw [if_neg hb39] at e; cases e
      rw [if_pos hb39] at e
      refine gs_iast rfl (gd_si (j := z1.toNatClampNeg) rfl (by decide) hb39 rfl) ?_
      obtain ⟨f40, hf40, e⟩ := pn_some e
      refine gs_heap hf40 ?_
      obtain ⟨x41, hx41, e⟩ := pn_some e
      refine gs_iinc1 (x1 := x41) (c := 1) (lv' := [(1, .int x41), (0, .ref 110)]) rfl rfl (by decide) hx41 rfl ?_
      refine gs_goto rfl ?_
      refine gs_drop [1, 0] rfl ?_
      exact ih x41 f40 w0 _ _ e K
set_option maxRecDepth 100000 in
set_option maxHeartbeats 4000000 in
theorem tl_X9_laws_196 (L : Nat) : ∀ (n : Nat) (z1 : Int32) (f : pd_M) (w0 : pd_M) (r : Option Value) (h2 : ph_T), lp_X9_laws_196 n z1 f = some (w0) → pr_G L 7 mt_X9_laws (243, [(0, .ref 110)], [], hH w0) r h2 → pr_G L 7 mt_X9_laws (196, [(0, .ref 110), (1, .int z1)], [], hH f) r h2 := by
  intro n
  induction n with
  | zero => intro z1 f w0 r h2 e; cases e
  | succ n ih =>
    intro z1 f w0 r h2 e K
    unfold lp_X9_laws_196 at e
    refine gs_iload_n rfl rfl ?_
    refine gs_iconst (x := 4) rfl (by decide) ?_
    refine gs_ge2 rfl (fun c44 => ?_) (fun c44 => ?_)
    · rw [if_pos c44] at e
      obtain rfl := inj1 e
      refine gs_drop [0] rfl ?_
      exact K
    · rw [if_neg c44] at e
      refine gs_aload_n rfl rfl ?_
      refine gs_get rfl (gd_r (b := 114) rfl rfl rfl) ?_
      refine gs_iload_n rfl rfl ?_
      refine gs_aload_n rfl rfl ?_
      refine gs_get rfl (gd_r (b := 115) rfl rfl rfl) ?_
      refine gs_iload_n rfl rfl ?_
      by_cases hb45 : pa_in z1 4 = true
      case neg => rw [if_neg hb45] at e; cases e
      rw [if_pos hb45] at e
      refine gs_iald rfl (gd_ia (j := z1.toNatClampNeg) rfl hb45 rfl) ?_
      by_cases hb46 : pa_in z1 4 = true
      case neg => rw [if_neg hb46] at e; cases e
      rw [if_pos hb46] at e
      refine gs_iast rfl (gd_si (j := z1.toNatClampNeg) rfl (by decide) hb46 rfl) ?_
      obtain ⟨f47, hf47, e⟩ := pn_some e
      refine gs_heap hf47 ?_
      refine gs_aload_n rfl rfl ?_
      refine gs_get rfl (gd_r (b := 132) rfl rfl rfl) ?_
      refine gs_iload_n rfl rfl ?_
      refine gs_aload_n rfl rfl ?_
      refine gs_get rfl (gd_r (b := 134) rfl rfl rfl) ?_
      refine gs_iload_n rfl rfl ?_
      by_cases hb48 : pa_in z1 4 = true
      case neg => rw [if_neg hb48] at e; cases e
      rw [if_pos hb48] at e
      refine gs_iald rfl (gd_ia (j := z1.toNatClampNeg) rfl hb48 rfl) ?_
      by_cases hb49 : pa_in z1 4 = true
      case neg => rw [if_neg hb49] at e; cases e
      rw [if_pos hb49] at e
      refine gs_iast rfl (gd_si (j := z1.toNatClampNeg) rfl (by decide) hb49 rfl) ?_
      obtain ⟨f50, hf50, e⟩ := pn_some e
      refine gs_heap hf50 ?_
      refine gs_aload_n rfl rfl ?_
      refine gs_get rfl (gd_r (b := 133) rfl rfl rfl) ?_
      refine gs_iload_n rfl rfl ?_
      refine gs_aload_n rfl rfl ?_
      refine gs_get rfl (gd_r (b := 135) rfl rfl rfl) ?_
      refine gs_iload_n rfl rfl ?_
      by_cases hb51 : pa_in z1 4 = true
      case neg => rw [if_neg hb51] at e; cases e
      rw [if_pos hb51] at e
      refine gs_iald rfl (gd_ia (j := z1.toNatClampNeg) rfl hb51 rfl) ?_
      by_cases hb52 : pa_in z1 4 = true
      case neg => rw [if_neg hb52] at e; cases e
      rw [if_pos hb52] at e
      refine gs_iast rfl (gd_si (j := z1.toNatClampNeg) rfl (by decide) hb52 rfl) ?_
      obtain ⟨f53, hf53, e⟩ := pn_some e
      refine gs_heap hf53 ?_
      obtain ⟨x54, hx54, e⟩ := pn_some e
      refine gs_iinc1 (x1 := x54) (c := 1) (lv' := [(1, .int x54), (0, .ref 110)]) rfl rfl (by decide) hx54 rfl ?_
      refine gs_goto rfl ?_
      refine gs_drop [1, 0] rfl ?_
      exact ih x54 f53 w0 _ _ e K
set_option maxRecDepth 100000 in
set_option maxHeartbeats 4000000 in
theorem th_X9_laws (L : Nat)  (f : pd_M) (q : Int32) (g : pd_M) (e : fn_X9_laws f = some (q, g)) : pr_C L 8 139 [.ref 110] (hH f) (some (.int q)) (hH g) := by
  refine pr_C.of (G := mt_X9_laws) rfl rfl ?_
  show pr_G L 7 mt_X9_laws (0, [(0, .ref 110)], [], hH f) _ _
  unfold fn_X9_laws at e
  refine gs_aload_n rfl rfl ?_
  refine gs_iconst (x := 0) rfl (by decide) ?_
  refine gs_put rfl (gd_pi rfl rfl) ?_
  obtain ⟨f1, hf1, e⟩ := pn_some e
  refine gs_heap hf1 ?_
  refine gs_aload_n rfl rfl ?_
  refine gs_aload_n rfl rfl ?_
  refine gs_get rfl (gd_i rfl rfl) ?_
  refine gs_put rfl (gd_pi rfl rfl) ?_
  obtain ⟨f2, hf2, e⟩ := pn_some e
  refine gs_heap hf2 ?_
  refine gs_aload_n rfl rfl ?_
  refine gs_iconst (x := 0) rfl (by decide) ?_
  refine gs_put rfl (gd_pi rfl rfl) ?_
  obtain ⟨f3, hf3, e⟩ := pn_some e
  refine gs_heap hf3 ?_
  refine gs_aload_n rfl rfl ?_
  refine gs_iconst (x := 0) rfl (by decide) ?_
  refine gs_put rfl (gd_pi rfl rfl) ?_
  obtain ⟨f4, hf4, e⟩ := pn_some e
  refine gs_heap hf4 ?_
  refine gs_aload_n rfl rfl ?_
  refine gs_iconst (x := 0) rfl (by decide) ?_
  refine gs_put rfl (gd_pi rfl rfl) ?_
  obtain ⟨f5, hf5, e⟩ := pn_some e
  refine gs_heap hf5 ?_
  refine gs_aload_n rfl rfl ?_
  refine gs_aload_n rfl rfl ?_
  refine gs_get rfl (gd_i rfl rfl) ?_
  refine gs_put rfl (gd_pi rfl rfl) ?_
  obtain ⟨f6, hf6, e⟩ := pn_some e
  refine gs_heap hf6 ?_
  refine gs_iconst (x := 0) rfl (by decide) ?_
  refine gs_istore_n (lv' := [(1, .int 0), (0, .ref 110)]) rfl rfl ?_
  refine gs_drop [1, 0] rfl ?_
  obtain ⟨f12, el13, e⟩ := ob1_some e
  refine tl_X9_laws_38 L 5000 0 f6 f12 _ _ el13 ?_
  refine gs_iconst (x := 0) rfl (by decide) ?_
  refine gs_istore_n (lv' := [(1, .int 0), (0, .ref 110)]) rfl rfl ?_
  refine gs_drop [1, 0] rfl ?_
  obtain ⟨f25, el26, e⟩ := ob1_some e
  refine tl_X9_laws_64 L 5000 0 f12 f25 _ _ el26 ?_
  refine gs_aload_n rfl rfl ?_
  obtain ⟨f27, ec28, e⟩ := ob1_some e
  refine gs_callvV (st := []) rfl (pr_C_le (by decide) (th_X9_next L f25 f27 ec28)) rfl rfl rfl (by decide) rfl (Or.inr (by decide)) ?_
  refine gs_drop [0] rfl ?_
  obtain ⟨f33, el34, e⟩ := ob1_some e
  refine tl_X9_laws_115 L 5000 f27 f33 _ _ el34 ?_
  refine gs_aload_n rfl rfl ?_
  refine gs_get rfl (gd_i rfl rfl) ?_
  refine gs_le0 rfl (fun c35 => ?_) (fun c35 => ?_)
  · rw [if_pos c35] at e
    refine gs_aload_n rfl rfl ?_
    refine gs_aload_n rfl rfl ?_
    refine gs_get rfl (gd_i rfl rfl) ?_
    refine gs_put rfl (gd_pi rfl rfl) ?_
    obtain ⟨f36, hf36, e⟩ := pn_some e
    refine gs_heap hf36 ?_
    refine gs_iconst (x := 0) rfl (by decide) ?_
    refine gs_istore_n (lv' := [(1, .int 0), (0, .ref 110)]) rfl rfl ?_
    refine gs_drop [1, 0] rfl ?_
    obtain ⟨f42, el43, e⟩ := ob1_some e
    refine tl_X9_laws_170 L 5000 0 f36 f42 _ _ el43 ?_
    refine gs_iconst (x := 0) rfl (by decide) ?_
    refine gs_istore_n (lv' := [(1, .int 0), (0, .ref 110)]) rfl rfl ?_
    refine gs_drop [1, 0] rfl ?_
    obtain ⟨f55, el56, e⟩ := ob1_some e
    refine tl_X9_laws_196 L 5000 0 f42 f55 _ _ el56 ?_
    refine gs_aload_n rfl rfl ?_
    refine gs_get rfl (gd_i rfl rfl) ?_
    obtain ⟨rfl, rfl⟩ := inj2 e
    exact gs_iret rfl rfl rfl rfl rfl
  · rw [if_neg c35] at e
    refine gs_aload_n rfl rfl ?_
    refine gs_aload_n rfl rfl ?_
    refine gs_get rfl (gd_i rfl rfl) ?_
    refine gs_put rfl (gd_pi rfl rfl) ?_
    obtain ⟨f57, hf57, e⟩ := pn_some e
    refine gs_heap hf57 ?_
    refine gs_ldc (x := (-1000100)) rfl (by decide) ?_
    refine gs_aload_n rfl rfl ?_
    refine gs_get rfl (gd_i rfl rfl) ?_
    refine gs_isub rfl ?_
    obtain ⟨rfl, rfl⟩ := inj2 e
    exact gs_iret rfl rfl rfl rfl rfl
def fn_X9_fault (f : pd_M) : Option (Int32 × pd_M) :=
  pn ((pi_up f 110 0 0)) fun f1 =>
  some ((f1 110 31), f1)
set_option maxRecDepth 100000 in
set_option maxHeartbeats 4000000 in
theorem th_X9_fault (L : Nat)  (f : pd_M) (q : Int32) (g : pd_M) (e : fn_X9_fault f = some (q, g)) : pr_C L 1 140 [.ref 110] (hH f) (some (.int q)) (hH g) := by
  refine pr_C.of (G := mt_X9_fault) rfl rfl ?_
  show pr_G L 0 mt_X9_fault (0, [(0, .ref 110)], [], hH f) _ _
  unfold fn_X9_fault at e
  refine gs_aload_n rfl rfl ?_
  refine gs_iconst (x := 0) rfl (by decide) ?_
  refine gs_put rfl (gd_pi rfl rfl) ?_
  obtain ⟨f1, hf1, e⟩ := pn_some e
  refine gs_heap hf1 ?_
  refine gs_aload_n rfl rfl ?_
  refine gs_get rfl (gd_i rfl rfl) ?_
  obtain ⟨rfl, rfl⟩ := inj2 e
  exact gs_iret rfl rfl rfl rfl rfl
def fn_X9_isService (p1 : Int32) : Option (Int32) :=
  if (fn_X9_in (p1.toInt64) 0 3) = 0 ∨ (fn_X9_in (p1.toInt64) 0 3) = 1 then some (fn_X9_in (p1.toInt64) 0 3) else none
set_option maxRecDepth 100000 in
set_option maxHeartbeats 4000000 in
theorem th_X9_isService (L : Nat) (p1 : Int32) (f : pd_M) (q : Int32) (e : fn_X9_isService p1 = some q) : pr_C L 2 141 [.int p1] (hH f) (some (.int q)) (hH f) := by
  refine pr_C.of (G := mt_X9_isService) rfl rfl ?_
  show pr_G L 1 mt_X9_isService (0, [(0, .int p1)], [], hH f) _ _
  unfold fn_X9_isService at e
  refine gs_iload_n rfl rfl ?_
  refine gs_i2l rfl ?_
  refine gs_lconst (w := 0) rfl (by decide) ?_
  refine gs_ldc2 (w := 3) rfl (by decide) ?_
  refine gs_callsI (st := []) rfl (pr_C_le (by decide) (th_X9_in L (p1.toInt64) 0 3 f _ rfl)) rfl rfl rfl (by decide) ?_
  by_cases hz : (fn_X9_in (p1.toInt64) 0 3) = 0 ∨ (fn_X9_in (p1.toInt64) 0 3) = 1
  · rw [if_pos hz] at e
    obtain rfl := inj1 e
    exact gs_iret rfl rfl (nar_z hz) rfl rfl
  · rw [if_neg hz] at e
    cases e
