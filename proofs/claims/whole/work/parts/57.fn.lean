def lp_X9_noMore_122 : Nat → Int32 → Int32 → Int32 → Int32 → pd_M → Option (Int32)
  | 0, _, _, _, _, _ => none
  | n + 1, z1, z2, z3, z4, f =>
    if 4 ≤ z4 then
    some (z3)
    else
    if pa_in z1 20 = true then
    if (f 127 z1.toNatClampNeg) = 0 then
    ob1 (if z3 = 0 then
    some (0)
    else
    if pa_in ((4 * z2) + z4) 80 = true then
    if pa_in ((4 * z1) + z4) 80 = true then
    if ((f 129 ((4 * z2) + z4).toNatClampNeg) &&& ((f 129 ((4 * z1) + z4).toNatClampNeg) ^^^ (-1))) = 0 then
    some (1)
    else
    some (0)
    else none
    else none) fun (v33 : Int32) =>
    pn (z4 + 1) fun x37 =>
    lp_X9_noMore_122 n z1 z2 v33 x37 f
    else
    some (z3)
    else none
def fn_X9_noMore (p1 : Int32) (p2 : Int32) (f : pd_M) : Option (Int32 × pd_M) :=
  pn ((pi_up f 110 0 0)) fun f1 =>
  ob1 (fn_X9_isSaying p1 f1) fun r2 =>
  if r2 = 0 then
  some ((-1000001), f1)
  else
  ob1 (fn_X9_isSaying p2 f1) fun r5 =>
  if r5 = 0 then
  some ((-1000001), f1)
  else
  if pa_in p1 20 = true then
  if pa_in p2 20 = true then
  if (f1 123 p1.toNatClampNeg) = (f1 123 p2.toNatClampNeg) then
  if pa_in p2 20 = true then
  if pa_in p1 20 = true then
  ob1 (if (f1 124 p1.toNatClampNeg) < (f1 124 p2.toNatClampNeg) then
  some (0)
  else
  if pa_in p2 20 = true then
  if pa_in p1 20 = true then
  if (f1 125 p2.toNatClampNeg) < (f1 125 p1.toNatClampNeg) then
  some (0)
  else
  if pa_in p2 20 = true then
  if (f1 126 p2.toNatClampNeg) = 3 then
  if pa_in p1 20 = true then
  if pa_in p2 20 = true then
  if (f1 127 p1.toNatClampNeg) = (f1 127 p2.toNatClampNeg) then
  some (1)
  else
  some (0)
  else none
  else none
  else
  if pa_in p2 20 = true then
  if pa_in p1 20 = true then
  if (f1 126 p2.toNatClampNeg) = (f1 126 p1.toNatClampNeg) then
  if pa_in p1 20 = true then
  if pa_in p2 20 = true then
  if (f1 127 p1.toNatClampNeg) = (f1 127 p2.toNatClampNeg) then
  some (1)
  else
  some (0)
  else none
  else none
  else
  some (0)
  else none
  else none
  else none
  else none
  else none) fun (v14 : Int32) =>
  ob1 (lp_X9_noMore_122 5000 p1 p2 v14 0 f1) fun y38 =>
  if y38 = 0 then
  some (0, f1)
  else
  some (1, f1)
  else none
  else none
  else
  some ((-1000002), f1)
  else none
  else none
set_option maxRecDepth 100000 in
set_option maxHeartbeats 4000000 in
theorem tl_X9_noMore_122 (L : Nat) : ∀ (n : Nat) (z1 : Int32) (z2 : Int32) (z3 : Int32) (z4 : Int32) (f : pd_M) (w0 : Int32) (r : Option Value) (h2 : ph_T), lp_X9_noMore_122 n z1 z2 z3 z4 f = some (w0) → pr_G L 2 mt_X9_noMore (181, [(3, .int w0)], [], hH f) r h2 → pr_G L 2 mt_X9_noMore (122, [(0, .ref 110), (1, .int z1), (2, .int z2), (3, .int z3), (4, .int z4)], [], hH f) r h2 := by
  intro n
  induction n with
  | zero => intro z1 z2 z3 z4 f w0 r h2 e; cases e
  | succ n ih =>
    intro z1 z2 z3 z4 f w0 r h2 e K
    unfold lp_X9_noMore_122 at e
    refine gs_iload rfl rfl ?_
    refine gs_iconst (x := 4) rfl (by decide) ?_
    refine gs_ge2 rfl (fun c29 => ?_) (fun c29 => ?_)
    · rw [if_pos c29] at e
      obtain rfl := inj1 e
      refine gs_drop [3] rfl ?_
      exact K
    · rw [if_neg c29] at e
      refine gs_aload_n rfl rfl ?_
      refine gs_get rfl (gd_r (b := 127) rfl rfl rfl) ?_
      refine gs_iload_n rfl rfl ?_
      by_cases hb30 : pa_in z1 20 = true
      case neg => rw [if_neg hb30] at e; cases e
      rw [if_pos hb30] at e
      refine gs_bald rfl (gd_za (j := z1.toNatClampNeg) rfl hb30 rfl) ?_
      refine gs_ne0 rfl (fun c31 => ?_) (fun c31 => ?_)
      · rw [if_neg c31] at e
        obtain rfl := inj1 e
        refine gs_drop [3] rfl ?_
        exact K
      · rw [if_pos c31] at e
        refine gs_iload_n rfl rfl ?_
        obtain ⟨v33, ev174, e⟩ := ob1_some e
        have KJ174 : pr_G L 2 mt_X9_noMore (174, [(0, .ref 110), (1, .int z1), (2, .int z2), (4, .int z4)], [.int v33], hH f) r h2 := by
          refine gs_istore_n (lv' := [(3, .int v33), (0, .ref 110), (1, .int z1), (2, .int z2), (4, .int z4)]) rfl rfl ?_
          obtain ⟨x37, hx37, e⟩ := pn_some e
          refine gs_iinc1 (x1 := x37) (c := 1) (lv' := [(4, .int x37), (3, .int v33), (0, .ref 110), (1, .int z1), (2, .int z2)]) rfl rfl (by decide) hx37 rfl ?_
          refine gs_goto rfl ?_
          refine gs_drop [2, 3, 4, 1, 0] rfl ?_
          exact ih z1 z2 v33 x37 f w0 _ _ e K
        have e := ev174
        clear ev174
        refine gs_eq0 rfl (fun c32 => ?_) (fun c32 => ?_)
        · rw [if_pos c32] at e
          refine gs_iconst (x := 0) rfl (by decide) ?_
          obtain rfl := inj1 e
          refine gs_drop [0, 1, 2, 4] rfl ?_
          exact KJ174
        · rw [if_neg c32] at e
          refine gs_aload_n rfl rfl ?_
          refine gs_get rfl (gd_r (b := 129) rfl rfl rfl) ?_
          refine gs_iconst (x := 4) rfl (by decide) ?_
          refine gs_iload_n rfl rfl ?_
          refine gs_imul rfl ?_
          refine gs_iload rfl rfl ?_
          refine gs_iadd rfl ?_
          by_cases hb34 : pa_in ((4 * z2) + z4) 80 = true
          case neg => rw [if_neg hb34] at e; cases e
          rw [if_pos hb34] at e
          refine gs_iald rfl (gd_ia (j := ((4 * z2) + z4).toNatClampNeg) rfl hb34 rfl) ?_
          refine gs_aload_n rfl rfl ?_
          refine gs_get rfl (gd_r (b := 129) rfl rfl rfl) ?_
          refine gs_iconst (x := 4) rfl (by decide) ?_
          refine gs_iload_n rfl rfl ?_
          refine gs_imul rfl ?_
          refine gs_iload rfl rfl ?_
          refine gs_iadd rfl ?_
          by_cases hb35 : pa_in ((4 * z1) + z4) 80 = true
          case neg => rw [if_neg hb35] at e; cases e
          rw [if_pos hb35] at e
          refine gs_iald rfl (gd_ia (j := ((4 * z1) + z4).toNatClampNeg) rfl hb35 rfl) ?_
          refine gs_iconst (x := (-1)) rfl (by decide) ?_
          refine gs_ixor rfl ?_
          refine gs_iand rfl ?_
          refine gs_ne0 rfl (fun c36 => ?_) (fun c36 => ?_)
          · rw [if_neg c36] at e
            refine gs_iconst (x := 0) rfl (by decide) ?_
            obtain rfl := inj1 e
            refine gs_drop [0, 1, 2, 4] rfl ?_
            exact KJ174
          · rw [if_pos c36] at e
            refine gs_iconst (x := 1) rfl (by decide) ?_
            refine gs_goto rfl ?_
            obtain rfl := inj1 e
            refine gs_drop [0, 1, 2, 4] rfl ?_
            exact KJ174
set_option maxRecDepth 100000 in
set_option maxHeartbeats 4000000 in
theorem th_X9_noMore (L : Nat) (p1 : Int32) (p2 : Int32) (f : pd_M) (q : Int32) (g : pd_M) (e : fn_X9_noMore p1 p2 f = some (q, g)) : pr_C L 3 157 [.ref 110, .int p1, .int p2] (hH f) (some (.int q)) (hH g) := by
  refine pr_C.of (G := mt_X9_noMore) rfl rfl ?_
  show pr_G L 2 mt_X9_noMore (0, [(0, .ref 110), (1, .int p1), (2, .int p2)], [], hH f) _ _
  unfold fn_X9_noMore at e
  refine gs_aload_n rfl rfl ?_
  refine gs_iconst (x := 0) rfl (by decide) ?_
  refine gs_put rfl (gd_pi rfl rfl) ?_
  obtain ⟨f1, hf1, e⟩ := pn_some e
  refine gs_heap hf1 ?_
  refine gs_aload_n rfl rfl ?_
  refine gs_iload_n rfl rfl ?_
  obtain ⟨r2, ec3, e⟩ := ob1_some e
  refine gs_callvI (st := []) rfl (pr_C_le (by decide) (th_X9_isSaying L p1 f1 r2 ec3)) rfl rfl rfl (by decide) rfl (Or.inr (by decide)) ?_
  refine gs_eq0 rfl (fun c4 => ?_) (fun c4 => ?_)
  · rw [if_pos c4] at e
    refine gs_ldc (x := (-1000001)) rfl (by decide) ?_
    obtain ⟨rfl, rfl⟩ := inj2 e
    exact gs_iret rfl rfl rfl rfl rfl
  · rw [if_neg c4] at e
    refine gs_aload_n rfl rfl ?_
    refine gs_iload_n rfl rfl ?_
    obtain ⟨r5, ec6, e⟩ := ob1_some e
    refine gs_callvI (st := []) rfl (pr_C_le (by decide) (th_X9_isSaying L p2 f1 r5 ec6)) rfl rfl rfl (by decide) rfl (Or.inr (by decide)) ?_
    refine gs_ne0 rfl (fun c7 => ?_) (fun c7 => ?_)
    · rw [if_neg c7] at e
      refine gs_aload_n rfl rfl ?_
      refine gs_get rfl (gd_r (b := 123) rfl rfl rfl) ?_
      refine gs_iload_n rfl rfl ?_
      by_cases hb8 : pa_in p1 20 = true
      case neg => rw [if_neg hb8] at e; cases e
      rw [if_pos hb8] at e
      refine gs_iald rfl (gd_ia (j := p1.toNatClampNeg) rfl hb8 rfl) ?_
      refine gs_aload_n rfl rfl ?_
      refine gs_get rfl (gd_r (b := 123) rfl rfl rfl) ?_
      refine gs_iload_n rfl rfl ?_
      by_cases hb9 : pa_in p2 20 = true
      case neg => rw [if_neg hb9] at e; cases e
      rw [if_pos hb9] at e
      refine gs_iald rfl (gd_ia (j := p2.toNatClampNeg) rfl hb9 rfl) ?_
      refine gs_eq2 rfl (fun c10 => ?_) (fun c10 => ?_)
      · rw [if_pos c10] at e
        refine gs_aload_n rfl rfl ?_
        refine gs_get rfl (gd_r (b := 124) rfl rfl rfl) ?_
        refine gs_iload_n rfl rfl ?_
        by_cases hb11 : pa_in p2 20 = true
        case neg => rw [if_neg hb11] at e; cases e
        rw [if_pos hb11] at e
        refine gs_iald rfl (gd_ia (j := p2.toNatClampNeg) rfl hb11 rfl) ?_
        refine gs_aload_n rfl rfl ?_
        refine gs_get rfl (gd_r (b := 124) rfl rfl rfl) ?_
        refine gs_iload_n rfl rfl ?_
        by_cases hb12 : pa_in p1 20 = true
        case neg => rw [if_neg hb12] at e; cases e
        rw [if_pos hb12] at e
        refine gs_iald rfl (gd_ia (j := p1.toNatClampNeg) rfl hb12 rfl) ?_
        obtain ⟨v14, ev118, e⟩ := ob1_some e
        have KJ118 : pr_G L 2 mt_X9_noMore (118, [(0, .ref 110), (1, .int p1), (2, .int p2)], [.int v14], hH f1) (some (.int q)) (hH g) := by
          refine gs_istore_n (lv' := [(3, .int v14), (0, .ref 110), (1, .int p1), (2, .int p2)]) rfl rfl ?_
          refine gs_iconst (x := 0) rfl (by decide) ?_
          refine gs_istore (lv' := [(4, .int 0), (3, .int v14), (0, .ref 110), (1, .int p1), (2, .int p2)]) rfl rfl ?_
          refine gs_drop [2, 3, 4, 1, 0] rfl ?_
          obtain ⟨y38, el39, e⟩ := ob1_some e
          refine tl_X9_noMore_122 L 5000 p1 p2 v14 0 f1 y38 _ _ el39 ?_
          refine gs_iload_n rfl rfl ?_
          refine gs_eq0 rfl (fun c40 => ?_) (fun c40 => ?_)
          · rw [if_pos c40] at e
            refine gs_iconst (x := 0) rfl (by decide) ?_
            obtain ⟨rfl, rfl⟩ := inj2 e
            exact gs_iret rfl rfl rfl rfl rfl
          · rw [if_neg c40] at e
            refine gs_iconst (x := 1) rfl (by decide) ?_
            refine gs_goto rfl ?_
            obtain ⟨rfl, rfl⟩ := inj2 e
            exact gs_iret rfl rfl rfl rfl rfl
        have e := ev118
        clear ev118
        refine gs_gt2 rfl (fun c13 => ?_) (fun c13 => ?_)
        · rw [if_pos c13] at e
          refine gs_iconst (x := 0) rfl (by decide) ?_
          obtain rfl := inj1 e
          refine gs_drop [0, 1, 2] rfl ?_
          exact KJ118
        · rw [if_neg c13] at e
          refine gs_aload_n rfl rfl ?_
          refine gs_get rfl (gd_r (b := 125) rfl rfl rfl) ?_
          refine gs_iload_n rfl rfl ?_
          by_cases hb15 : pa_in p2 20 = true
          case neg => rw [if_neg hb15] at e; cases e
          rw [if_pos hb15] at e
          refine gs_iald rfl (gd_ia (j := p2.toNatClampNeg) rfl hb15 rfl) ?_
          refine gs_aload_n rfl rfl ?_
          refine gs_get rfl (gd_r (b := 125) rfl rfl rfl) ?_
          refine gs_iload_n rfl rfl ?_
          by_cases hb16 : pa_in p1 20 = true
          case neg => rw [if_neg hb16] at e; cases e
          rw [if_pos hb16] at e
          refine gs_iald rfl (gd_ia (j := p1.toNatClampNeg) rfl hb16 rfl) ?_
          refine gs_lt2 rfl (fun c17 => ?_) (fun c17 => ?_)
          · rw [if_pos c17] at e
            refine gs_iconst (x := 0) rfl (by decide) ?_
            obtain rfl := inj1 e
            refine gs_drop [0, 1, 2] rfl ?_
            exact KJ118
          · rw [if_neg c17] at e
            refine gs_aload_n rfl rfl ?_
            refine gs_get rfl (gd_r (b := 126) rfl rfl rfl) ?_
            refine gs_iload_n rfl rfl ?_
            by_cases hb18 : pa_in p2 20 = true
            case neg => rw [if_neg hb18] at e; cases e
            rw [if_pos hb18] at e
            refine gs_iald rfl (gd_ia (j := p2.toNatClampNeg) rfl hb18 rfl) ?_
            refine gs_iconst (x := 3) rfl (by decide) ?_
            refine gs_eq2 rfl (fun c19 => ?_) (fun c19 => ?_)
            · rw [if_pos c19] at e
              refine gs_aload_n rfl rfl ?_
              refine gs_get rfl (gd_r (b := 127) rfl rfl rfl) ?_
              refine gs_iload_n rfl rfl ?_
              by_cases hb20 : pa_in p1 20 = true
              case neg => rw [if_neg hb20] at e; cases e
              rw [if_pos hb20] at e
              refine gs_bald rfl (gd_za (j := p1.toNatClampNeg) rfl hb20 rfl) ?_
              refine gs_aload_n rfl rfl ?_
              refine gs_get rfl (gd_r (b := 127) rfl rfl rfl) ?_
              refine gs_iload_n rfl rfl ?_
              by_cases hb21 : pa_in p2 20 = true
              case neg => rw [if_neg hb21] at e; cases e
              rw [if_pos hb21] at e
              refine gs_bald rfl (gd_za (j := p2.toNatClampNeg) rfl hb21 rfl) ?_
              refine gs_ne2 rfl (fun c22 => ?_) (fun c22 => ?_)
              · rw [if_neg c22] at e
                refine gs_iconst (x := 0) rfl (by decide) ?_
                obtain rfl := inj1 e
                refine gs_drop [0, 1, 2] rfl ?_
                exact KJ118
              · rw [if_pos c22] at e
                refine gs_iconst (x := 1) rfl (by decide) ?_
                refine gs_goto rfl ?_
                obtain rfl := inj1 e
                refine gs_drop [0, 1, 2] rfl ?_
                exact KJ118
            · rw [if_neg c19] at e
              refine gs_aload_n rfl rfl ?_
              refine gs_get rfl (gd_r (b := 126) rfl rfl rfl) ?_
              refine gs_iload_n rfl rfl ?_
              by_cases hb23 : pa_in p2 20 = true
              case neg => rw [if_neg hb23] at e; cases e
              rw [if_pos hb23] at e
              refine gs_iald rfl (gd_ia (j := p2.toNatClampNeg) rfl hb23 rfl) ?_
              refine gs_aload_n rfl rfl ?_
              refine gs_get rfl (gd_r (b := 126) rfl rfl rfl) ?_
              refine gs_iload_n rfl rfl ?_
              by_cases hb24 : pa_in p1 20 = true
              case neg => rw [if_neg hb24] at e; cases e
              rw [if_pos hb24] at e
              refine gs_iald rfl (gd_ia (j := p1.toNatClampNeg) rfl hb24 rfl) ?_
              refine gs_ne2 rfl (fun c25 => ?_) (fun c25 => ?_)
              · rw [if_neg c25] at e
                refine gs_iconst (x := 0) rfl (by decide) ?_
                obtain rfl := inj1 e
                refine gs_drop [0, 1, 2] rfl ?_
                exact KJ118
              · rw [if_pos c25] at e
                refine gs_aload_n rfl rfl ?_
                refine gs_get rfl (gd_r (b := 127) rfl rfl rfl) ?_
                refine gs_iload_n rfl rfl ?_
                by_cases hb26 : pa_in p1 20 = true
                case neg => rw [if_neg hb26] at e; cases e
                rw [if_pos hb26] at e
                refine gs_bald rfl (gd_za (j := p1.toNatClampNeg) rfl hb26 rfl) ?_
                refine gs_aload_n rfl rfl ?_
                refine gs_get rfl (gd_r (b := 127) rfl rfl rfl) ?_
                refine gs_iload_n rfl rfl ?_
                by_cases hb27 : pa_in p2 20 = true
                case neg => rw [if_neg hb27] at e; cases e
                rw [if_pos hb27] at e
                refine gs_bald rfl (gd_za (j := p2.toNatClampNeg) rfl hb27 rfl) ?_
                refine gs_ne2 rfl (fun c28 => ?_) (fun c28 => ?_)
                · rw [if_neg c28] at e
                  refine gs_iconst (x := 0) rfl (by decide) ?_
                  obtain rfl := inj1 e
                  refine gs_drop [0, 1, 2] rfl ?_
                  exact KJ118
                · rw [if_pos c28] at e
                  refine gs_iconst (x := 1) rfl (by decide) ?_
                  refine gs_goto rfl ?_
                  obtain rfl := inj1 e
                  refine gs_drop [0, 1, 2] rfl ?_
                  exact KJ118
      · rw [if_neg c10] at e
        refine gs_ldc_w (x := (-1000002)) rfl (by decide) ?_
        obtain ⟨rfl, rfl⟩ := inj2 e
        exact gs_iret rfl rfl rfl rfl rfl
    · rw [if_pos c7] at e
      refine gs_ldc (x := (-1000001)) rfl (by decide) ?_
      obtain ⟨rfl, rfl⟩ := inj2 e
      exact gs_iret rfl rfl rfl rfl rfl
def lp_X9_doQuarrel_35 : Nat → Int32 → Int32 → Int32 → Int32 → Int32 → Int32 → Int32 → Int32 → Int32 → Int32 → Int32 → Int32 → pd_M → Option ((Int32) ⊕ (Int32 × Int32 × Int32 × Int32 × Int32 × Int32 × Int32 × Int32 × Int32))
  | 0, _, _, _, _, _, _, _, _, _, _, _, _, _ => none
  | n + 1, z1, z2, z3, z4, z5, z6, z7, z8, z9, z10, z11, z12, f =>
    if (f 110 12) ≤ z12 then
    some (.inr (z3, z4, z5, z6, z7, z8, z9, z10, z11))
    else
    if ((z2 >>> (z12 &&& 31)) &&& 1) = 1 then
    if pa_in z12 20 = true then
    if (f 123 z12.toNatClampNeg) = z1 then
    if pa_in z12 20 = true then
    ob1 (if (f 124 z12.toNatClampNeg) ≤ z3 then
    some (z3)
    else
    if pa_in z12 20 = true then
    some ((f 124 z12.toNatClampNeg))
    else none) fun (v8 : Int32) =>
    if pa_in z12 20 = true then
    ob1 (if z4 ≤ (f 125 z12.toNatClampNeg) then
    some (z4)
    else
    if pa_in z12 20 = true then
    some ((f 125 z12.toNatClampNeg))
    else none) fun (v12 : Int32) =>
    if pa_in z12 20 = true then
    ob1 (if (f 126 z12.toNatClampNeg) = 3 then
    some (7)
    else
    if pa_in z12 20 = true then
    some (((1 : Int32) <<< ((f 126 z12.toNatClampNeg) &&& 31)))
    else none) fun (v16 : Int32) =>
    pn ((z5 &&& v16)) fun x18 =>
    if pa_in z12 20 = true then
    ob1 (if (f 127 z12.toNatClampNeg) = 0 then
    some (0)
    else
    some (1)) fun (v21 : Int32) =>
    pn ((z6 + v21)) fun x22 =>
    if pa_in z12 20 = true then
    ob1 (if (f 127 z12.toNatClampNeg) = 0 then
    some (1)
    else
    some (0)) fun (v25 : Int32) =>
    pn ((z7 + v25)) fun x26 =>
    if pa_in (4 * z12) 80 = true then
    pn ((z8 &&& (f 129 (4 * z12).toNatClampNeg))) fun x28 =>
    if pa_in ((4 * z12) + 1) 80 = true then
    pn ((z9 &&& (f 129 ((4 * z12) + 1).toNatClampNeg))) fun x30 =>
    if pa_in ((4 * z12) + 2) 80 = true then
    pn ((z10 &&& (f 129 ((4 * z12) + 2).toNatClampNeg))) fun x32 =>
    if pa_in ((4 * z12) + 3) 80 = true then
    pn ((z11 &&& (f 129 ((4 * z12) + 3).toNatClampNeg))) fun x34 =>
    pn (z12 + 1) fun x35 =>
    lp_X9_doQuarrel_35 n z1 z2 v8 v12 x18 x22 x26 x28 x30 x32 x34 x35 f
    else none
    else none
    else none
    else none
    else none
    else none
    else none
    else none
    else none
    else
    some (.inl 0)
    else none
    else
    pn (z12 + 1) fun x3 =>
    lp_X9_doQuarrel_35 n z1 z2 z3 z4 z5 z6 z7 z8 z9 z10 z11 x3 f
def fn_X9_doQuarrel (p1 : Int32) (p2 : Int32) (f : pd_M) : Option (Int32) :=
  os9 (lp_X9_doQuarrel_35 5000 p1 p2 0 7 7 0 0 127 127 127 127 0 f) (fun q => some q) fun y36 y37 y38 y39 y40 y41 y42 y43 y44 =>
  if y37 < y36 then
  some 0
  else
  if y38 = 0 then
  some 0
  else
  if y39 ≤ 0 then
  if y39 = 0 then
  if y41 = 0 then
  some 1
  else
  if y42 = 0 then
  some 1
  else
  if y43 = 0 then
  some 1
  else
  if y44 = 0 then
  some 1
  else
  some 0
  else
  some 0
  else
  if 0 < y40 then
  some 1
  else
  if y39 = 0 then
  if y41 = 0 then
  some 1
  else
  if y42 = 0 then
  some 1
  else
  if y43 = 0 then
  some 1
  else
  if y44 = 0 then
  some 1
  else
  some 0
  else
  some 0
set_option maxRecDepth 100000 in
set_option maxHeartbeats 4000000 in
theorem tl_X9_doQuarrel_35 (L : Nat) : ∀ (n : Nat) (z1 : Int32) (z2 : Int32) (z3 : Int32) (z4 : Int32) (z5 : Int32) (z6 : Int32) (z7 : Int32) (z8 : Int32) (z9 : Int32) (z10 : Int32) (z11 : Int32) (z12 : Int32) (f : pd_M) (o : (Int32) ⊕ (Int32 × Int32 × Int32 × Int32 × Int32 × Int32 × Int32 × Int32 × Int32)), lp_X9_doQuarrel_35 n z1 z2 z3 z4 z5 z6 z7 z8 z9 z10 z11 z12 f = some o → (∀ q, o = .inl q → pr_G L 0 mt_X9_doQuarrel (35, [(0, .ref 110), (1, .int z1), (2, .int z2), (3, .int z3), (4, .int z4), (5, .int z5), (6, .int z6), (7, .int z7), (8, .int z8), (9, .int z9), (10, .int z10), (11, .int z11), (12, .int z12)], [], hH f) (some (.int q)) (hH f)) ∧ (∀ (w0 : Int32) (w1 : Int32) (w2 : Int32) (w3 : Int32) (w4 : Int32) (w5 : Int32) (w6 : Int32) (w7 : Int32) (w8 : Int32), o = .inr (w0, w1, w2, w3, w4, w5, w6, w7, w8) → ∀ (r : Option Value) (h2 : ph_T), pr_G L 0 mt_X9_doQuarrel (254, [(3, .int w0), (4, .int w1), (5, .int w2), (6, .int w3), (7, .int w4), (8, .int w5), (9, .int w6), (10, .int w7), (11, .int w8)], [], hH f) r h2 → pr_G L 0 mt_X9_doQuarrel (35, [(0, .ref 110), (1, .int z1), (2, .int z2), (3, .int z3), (4, .int z4), (5, .int z5), (6, .int z6), (7, .int z7), (8, .int z8), (9, .int z9), (10, .int z10), (11, .int z11), (12, .int z12)], [], hH f) r h2) := by
  intro n
  induction n with
  | zero => intro z1 z2 z3 z4 z5 z6 z7 z8 z9 z10 z11 z12 f o e; cases e
  | succ n ih =>
    intro z1 z2 z3 z4 z5 z6 z7 z8 z9 z10 z11 z12 f o e
    refine ⟨fun q hq => ?_, fun w0 w1 w2 w3 w4 w5 w6 w7 w8 hq r h2 K => ?_⟩
    · subst hq
      unfold lp_X9_doQuarrel_35 at e
      refine gs_iload rfl rfl ?_
      refine gs_aload_n rfl rfl ?_
      refine gs_get rfl (gd_i rfl rfl) ?_
      refine gs_ge2 rfl (fun c1 => ?_) (fun c1 => ?_)
      · rw [if_pos c1] at e
        cases e
      · rw [if_neg c1] at e
        refine gs_iload_n rfl rfl ?_
        refine gs_iload rfl rfl ?_
        refine gs_ishr rfl ?_
        refine gs_iconst (x := 1) rfl (by decide) ?_
        refine gs_iand rfl ?_
        refine gs_iconst (x := 1) rfl (by decide) ?_
        refine gs_ne2 rfl (fun c2 => ?_) (fun c2 => ?_)
        · rw [if_neg c2] at e
          obtain ⟨x3, hx3, e⟩ := pn_some e
          refine gs_iinc1 (x1 := x3) (c := 1) (lv' := [(12, .int x3), (0, .ref 110), (1, .int z1), (2, .int z2), (3, .int z3), (4, .int z4), (5, .int z5), (6, .int z6), (7, .int z7), (8, .int z8), (9, .int z9), (10, .int z10), (11, .int z11)]) rfl rfl (by decide) hx3 rfl ?_
          refine gs_goto rfl ?_
          refine gs_drop [1, 2, 3, 4, 5, 6, 7, 8, 9, 10, 11, 12, 0] rfl ?_
          exact (ih z1 z2 z3 z4 z5 z6 z7 z8 z9 z10 z11 x3 f _ e).1 _ rfl
        · rw [if_pos c2] at e
          refine gs_aload_n rfl rfl ?_
          refine gs_get rfl (gd_r (b := 123) rfl rfl rfl) ?_
          refine gs_iload rfl rfl ?_
          by_cases hb4 : pa_in z12 20 = true
          case neg => rw [if_neg hb4] at e; cases e
          rw [if_pos hb4] at e
          refine gs_iald rfl (gd_ia (j := z12.toNatClampNeg) rfl hb4 rfl) ?_
          refine gs_iload_n rfl rfl ?_
          refine gs_eq2 rfl (fun c5 => ?_) (fun c5 => ?_)
          · rw [if_pos c5] at e
            refine gs_aload_n rfl rfl ?_
            refine gs_get rfl (gd_r (b := 124) rfl rfl rfl) ?_
            refine gs_iload rfl rfl ?_
            by_cases hb6 : pa_in z12 20 = true
            case neg => rw [if_neg hb6] at e; cases e
            rw [if_pos hb6] at e
            refine gs_iald rfl (gd_ia (j := z12.toNatClampNeg) rfl hb6 rfl) ?_
            refine gs_iload_n rfl rfl ?_
            obtain ⟨v8, ev89, e⟩ := ob1_some e
            have KJ89 : pr_G L 0 mt_X9_doQuarrel (89, [(0, .ref 110), (1, .int z1), (2, .int z2), (4, .int z4), (5, .int z5), (6, .int z6), (7, .int z7), (8, .int z8), (9, .int z9), (10, .int z10), (11, .int z11), (12, .int z12)], [.int v8], hH f) (some (.int q)) (hH f) := by
              refine gs_istore_n (lv' := [(3, .int v8), (0, .ref 110), (1, .int z1), (2, .int z2), (4, .int z4), (5, .int z5), (6, .int z6), (7, .int z7), (8, .int z8), (9, .int z9), (10, .int z10), (11, .int z11), (12, .int z12)]) rfl rfl ?_
              refine gs_aload_n rfl rfl ?_
              refine gs_get rfl (gd_r (b := 125) rfl rfl rfl) ?_
              refine gs_iload rfl rfl ?_
              by_cases hb10 : pa_in z12 20 = true
              case neg => rw [if_neg hb10] at e; cases e
              rw [if_pos hb10] at e
              refine gs_iald rfl (gd_ia (j := z12.toNatClampNeg) rfl hb10 rfl) ?_
              refine gs_iload rfl rfl ?_
              obtain ⟨v12, ev114, e⟩ := ob1_some e
              have KJ114 : pr_G L 0 mt_X9_doQuarrel (114, [(0, .ref 110), (1, .int z1), (2, .int z2), (3, .int v8), (5, .int z5), (6, .int z6), (7, .int z7), (8, .int z8), (9, .int z9), (10, .int z10), (11, .int z11), (12, .int z12)], [.int v12], hH f) (some (.int q)) (hH f) := by
                refine gs_istore (lv' := [(4, .int v12), (0, .ref 110), (1, .int z1), (2, .int z2), (3, .int v8), (5, .int z5), (6, .int z6), (7, .int z7), (8, .int z8), (9, .int z9), (10, .int z10), (11, .int z11), (12, .int z12)]) rfl rfl ?_
                refine gs_iload rfl rfl ?_
                refine gs_aload_n rfl rfl ?_
                refine gs_get rfl (gd_r (b := 126) rfl rfl rfl) ?_
                refine gs_iload rfl rfl ?_
                by_cases hb14 : pa_in z12 20 = true
                case neg => rw [if_neg hb14] at e; cases e
                rw [if_pos hb14] at e
                refine gs_iald rfl (gd_ia (j := z12.toNatClampNeg) rfl hb14 rfl) ?_
                refine gs_iconst (x := 3) rfl (by decide) ?_
                obtain ⟨v16, ev143, e⟩ := ob1_some e
                have KJ143 : pr_G L 0 mt_X9_doQuarrel (143, [(0, .ref 110), (1, .int z1), (2, .int z2), (3, .int v8), (4, .int v12), (6, .int z6), (7, .int z7), (8, .int z8), (9, .int z9), (10, .int z10), (11, .int z11), (12, .int z12)], [.int v16, .int z5], hH f) (some (.int q)) (hH f) := by
                  refine gs_iand rfl ?_
                  obtain ⟨x18, hx18, e⟩ := pn_some e
                  refine gs_topi hx18 ?_
                  refine gs_istore (lv' := [(5, .int x18), (0, .ref 110), (1, .int z1), (2, .int z2), (3, .int v8), (4, .int v12), (6, .int z6), (7, .int z7), (8, .int z8), (9, .int z9), (10, .int z10), (11, .int z11), (12, .int z12)]) rfl rfl ?_
                  refine gs_iload rfl rfl ?_
                  refine gs_aload_n rfl rfl ?_
                  refine gs_get rfl (gd_r (b := 127) rfl rfl rfl) ?_
                  refine gs_iload rfl rfl ?_
                  by_cases hb19 : pa_in z12 20 = true
                  case neg => rw [if_neg hb19] at e; cases e
                  rw [if_pos hb19] at e
                  refine gs_bald rfl (gd_za (j := z12.toNatClampNeg) rfl hb19 rfl) ?_
                  obtain ⟨v21, ev163, e⟩ := ob1_some e
                  have KJ163 : pr_G L 0 mt_X9_doQuarrel (163, [(0, .ref 110), (1, .int z1), (2, .int z2), (3, .int v8), (4, .int v12), (5, .int x18), (7, .int z7), (8, .int z8), (9, .int z9), (10, .int z10), (11, .int z11), (12, .int z12)], [.int v21, .int z6], hH f) (some (.int q)) (hH f) := by
                    refine gs_iadd rfl ?_
                    obtain ⟨x22, hx22, e⟩ := pn_some e
                    refine gs_topi hx22 ?_
                    refine gs_istore (lv' := [(6, .int x22), (0, .ref 110), (1, .int z1), (2, .int z2), (3, .int v8), (4, .int v12), (5, .int x18), (7, .int z7), (8, .int z8), (9, .int z9), (10, .int z10), (11, .int z11), (12, .int z12)]) rfl rfl ?_
                    refine gs_iload rfl rfl ?_
                    refine gs_aload_n rfl rfl ?_
                    refine gs_get rfl (gd_r (b := 127) rfl rfl rfl) ?_
                    refine gs_iload rfl rfl ?_
                    by_cases hb23 : pa_in z12 20 = true
                    case neg => rw [if_neg hb23] at e; cases e
                    rw [if_pos hb23] at e
                    refine gs_bald rfl (gd_za (j := z12.toNatClampNeg) rfl hb23 rfl) ?_
                    obtain ⟨v25, ev183, e⟩ := ob1_some e
                    have KJ183 : pr_G L 0 mt_X9_doQuarrel (183, [(0, .ref 110), (1, .int z1), (2, .int z2), (3, .int v8), (4, .int v12), (5, .int x18), (6, .int x22), (8, .int z8), (9, .int z9), (10, .int z10), (11, .int z11), (12, .int z12)], [.int v25, .int z7], hH f) (some (.int q)) (hH f) := by
                      refine gs_iadd rfl ?_
                      obtain ⟨x26, hx26, e⟩ := pn_some e
                      refine gs_topi hx26 ?_
                      refine gs_istore (lv' := [(7, .int x26), (0, .ref 110), (1, .int z1), (2, .int z2), (3, .int v8), (4, .int v12), (5, .int x18), (6, .int x22), (8, .int z8), (9, .int z9), (10, .int z10), (11, .int z11), (12, .int z12)]) rfl rfl ?_
                      refine gs_iload rfl rfl ?_
                      refine gs_aload_n rfl rfl ?_
                      refine gs_get rfl (gd_r (b := 129) rfl rfl rfl) ?_
                      refine gs_iconst (x := 4) rfl (by decide) ?_
                      refine gs_iload rfl rfl ?_
                      refine gs_imul rfl ?_
                      by_cases hb27 : pa_in (4 * z12) 80 = true
                      case neg => rw [if_neg hb27] at e; cases e
                      rw [if_pos hb27] at e
                      refine gs_iald rfl (gd_ia (j := (4 * z12).toNatClampNeg) rfl hb27 rfl) ?_
                      refine gs_iand rfl ?_
                      obtain ⟨x28, hx28, e⟩ := pn_some e
                      refine gs_topi hx28 ?_
                      refine gs_istore (lv' := [(8, .int x28), (7, .int x26), (0, .ref 110), (1, .int z1), (2, .int z2), (3, .int v8), (4, .int v12), (5, .int x18), (6, .int x22), (9, .int z9), (10, .int z10), (11, .int z11), (12, .int z12)]) rfl rfl ?_
                      refine gs_iload rfl rfl ?_
                      refine gs_aload_n rfl rfl ?_
                      refine gs_get rfl (gd_r (b := 129) rfl rfl rfl) ?_
                      refine gs_iconst (x := 4) rfl (by decide) ?_
                      refine gs_iload rfl rfl ?_
                      refine gs_imul rfl ?_
                      refine gs_iconst (x := 1) rfl (by decide) ?_
                      refine gs_iadd rfl ?_
                      by_cases hb29 : pa_in ((4 * z12) + 1) 80 = true
                      case neg => rw [if_neg hb29] at e; cases e
                      rw [if_pos hb29] at e
                      refine gs_iald rfl (gd_ia (j := ((4 * z12) + 1).toNatClampNeg) rfl hb29 rfl) ?_
                      refine gs_iand rfl ?_
                      obtain ⟨x30, hx30, e⟩ := pn_some e
                      refine gs_topi hx30 ?_
                      refine gs_istore (lv' := [(9, .int x30), (8, .int x28), (7, .int x26), (0, .ref 110), (1, .int z1), (2, .int z2), (3, .int v8), (4, .int v12), (5, .int x18), (6, .int x22), (10, .int z10), (11, .int z11), (12, .int z12)]) rfl rfl ?_
                      refine gs_iload rfl rfl ?_
                      refine gs_aload_n rfl rfl ?_
                      refine gs_get rfl (gd_r (b := 129) rfl rfl rfl) ?_
                      refine gs_iconst (x := 4) rfl (by decide) ?_
                      refine gs_iload rfl rfl ?_
                      refine gs_imul rfl ?_
                      refine gs_iconst (x := 2) rfl (by decide) ?_
                      refine gs_iadd rfl ?_
                      by_cases hb31 : pa_in ((4 * z12) + 2) 80 = true
                      case neg => rw [if_neg hb31] at e; cases e
                      rw [if_pos hb31] at e
                      refine gs_iald rfl (gd_ia (j := ((4 * z12) + 2).toNatClampNeg) rfl hb31 rfl) ?_
                      refine gs_iand rfl ?_
                      obtain ⟨x32, hx32, e⟩ := pn_some e
                      refine gs_topi hx32 ?_
                      refine gs_istore (lv' := [(10, .int x32), (9, .int x30), (8, .int x28), (7, .int x26), (0, .ref 110), (1, .int z1), (2, .int z2), (3, .int v8), (4, .int v12), (5, .int x18), (6, .int x22), (11, .int z11), (12, .int z12)]) rfl rfl ?_
                      refine gs_iload rfl rfl ?_
                      refine gs_aload_n rfl rfl ?_
                      refine gs_get rfl (gd_r (b := 129) rfl rfl rfl) ?_
                      refine gs_iconst (x := 4) rfl (by decide) ?_
                      refine gs_iload rfl rfl ?_
                      refine gs_imul rfl ?_
                      refine gs_iconst (x := 3) rfl (by decide) ?_
                      refine gs_iadd rfl ?_
                      by_cases hb33 : pa_in ((4 * z12) + 3) 80 = true
                      case neg => rw [if_neg hb33] at e; cases e
                      rw [if_pos hb33] at e
                      refine gs_iald rfl (gd_ia (j := ((4 * z12) + 3).toNatClampNeg) rfl hb33 rfl) ?_
                      refine gs_iand rfl ?_
                      obtain ⟨x34, hx34, e⟩ := pn_some e
                      refine gs_topi hx34 ?_
                      refine gs_istore (lv' := [(11, .int x34), (10, .int x32), (9, .int x30), (8, .int x28), (7, .int x26), (0, .ref 110), (1, .int z1), (2, .int z2), (3, .int v8), (4, .int v12), (5, .int x18), (6, .int x22), (12, .int z12)]) rfl rfl ?_
                      obtain ⟨x35, hx35, e⟩ := pn_some e
                      refine gs_iinc1 (x1 := x35) (c := 1) (lv' := [(12, .int x35), (11, .int x34), (10, .int x32), (9, .int x30), (8, .int x28), (7, .int x26), (0, .ref 110), (1, .int z1), (2, .int z2), (3, .int v8), (4, .int v12), (5, .int x18), (6, .int x22)]) rfl rfl (by decide) hx35 rfl ?_
                      refine gs_goto rfl ?_
                      refine gs_drop [6, 7, 8, 9, 10, 11, 12, 5, 4, 3, 2, 1, 0] rfl ?_
                      exact (ih z1 z2 v8 v12 x18 x22 x26 x28 x30 x32 x34 x35 f _ e).1 _ rfl
                    have e := ev183
                    clear ev183
                    refine gs_eq0 rfl (fun c24 => ?_) (fun c24 => ?_)
                    · rw [if_pos c24] at e
                      refine gs_iconst (x := 1) rfl (by decide) ?_
                      obtain rfl := inj1 e
                      refine gs_drop [1, 2, 3, 4, 5, 6, 0, 8, 9, 10, 11, 12] rfl ?_
                      exact KJ183
                    · rw [if_neg c24] at e
                      refine gs_iconst (x := 0) rfl (by decide) ?_
                      refine gs_goto rfl ?_
                      obtain rfl := inj1 e
                      refine gs_drop [1, 2, 3, 4, 5, 6, 0, 8, 9, 10, 11, 12] rfl ?_
                      exact KJ183
                  have e := ev163
                  clear ev163
                  refine gs_eq0 rfl (fun c20 => ?_) (fun c20 => ?_)
                  · rw [if_pos c20] at e
                    refine gs_iconst (x := 0) rfl (by decide) ?_
                    obtain rfl := inj1 e
                    refine gs_drop [1, 2, 3, 4, 5, 0, 7, 8, 9, 10, 11, 12] rfl ?_
                    exact KJ163
                  · rw [if_neg c20] at e
                    refine gs_iconst (x := 1) rfl (by decide) ?_
                    refine gs_goto rfl ?_
                    obtain rfl := inj1 e
                    refine gs_drop [1, 2, 3, 4, 5, 0, 7, 8, 9, 10, 11, 12] rfl ?_
                    exact KJ163
                have e := ev143
                clear ev143
                refine gs_ne2 rfl (fun c15 => ?_) (fun c15 => ?_)
                · rw [if_neg c15] at e
                  refine gs_iconst (x := 1) rfl (by decide) ?_
                  refine gs_aload_n rfl rfl ?_
                  refine gs_get rfl (gd_r (b := 126) rfl rfl rfl) ?_
                  refine gs_iload rfl rfl ?_
                  by_cases hb17 : pa_in z12 20 = true
                  case neg => rw [if_neg hb17] at e; cases e
                  rw [if_pos hb17] at e
                  refine gs_iald rfl (gd_ia (j := z12.toNatClampNeg) rfl hb17 rfl) ?_
                  refine gs_ishl rfl ?_
                  obtain rfl := inj1 e
                  refine gs_drop [1, 2, 3, 4, 0, 6, 7, 8, 9, 10, 11, 12] rfl ?_
                  exact KJ143
                · rw [if_pos c15] at e
                  refine gs_bipush (x := 7) rfl (by decide) ?_
                  refine gs_goto rfl ?_
                  obtain rfl := inj1 e
                  refine gs_drop [1, 2, 3, 4, 0, 6, 7, 8, 9, 10, 11, 12] rfl ?_
                  exact KJ143
              have e := ev114
              clear ev114
              refine gs_ge2 rfl (fun c11 => ?_) (fun c11 => ?_)
              · rw [if_pos c11] at e
                refine gs_iload rfl rfl ?_
                obtain rfl := inj1 e
                refine gs_drop [1, 2, 3, 0, 5, 6, 7, 8, 9, 10, 11, 12] rfl ?_
                exact KJ114
              · rw [if_neg c11] at e
                refine gs_aload_n rfl rfl ?_
                refine gs_get rfl (gd_r (b := 125) rfl rfl rfl) ?_
                refine gs_iload rfl rfl ?_
                by_cases hb13 : pa_in z12 20 = true
                case neg => rw [if_neg hb13] at e; cases e
                rw [if_pos hb13] at e
                refine gs_iald rfl (gd_ia (j := z12.toNatClampNeg) rfl hb13 rfl) ?_
                refine gs_goto rfl ?_
                obtain rfl := inj1 e
                refine gs_drop [1, 2, 3, 0, 5, 6, 7, 8, 9, 10, 11, 12] rfl ?_
                exact KJ114
            have e := ev89
            clear ev89
            refine gs_le2 rfl (fun c7 => ?_) (fun c7 => ?_)
            · rw [if_pos c7] at e
              refine gs_iload_n rfl rfl ?_
              obtain rfl := inj1 e
              refine gs_drop [0, 1, 2, 4, 5, 6, 7, 8, 9, 10, 11, 12] rfl ?_
              exact KJ89
            · rw [if_neg c7] at e
              refine gs_aload_n rfl rfl ?_
              refine gs_get rfl (gd_r (b := 124) rfl rfl rfl) ?_
              refine gs_iload rfl rfl ?_
              by_cases hb9 : pa_in z12 20 = true
              case neg => rw [if_neg hb9] at e; cases e
              rw [if_pos hb9] at e
              refine gs_iald rfl (gd_ia (j := z12.toNatClampNeg) rfl hb9 rfl) ?_
              refine gs_goto rfl ?_
              obtain rfl := inj1 e
              refine gs_drop [0, 1, 2, 4, 5, 6, 7, 8, 9, 10, 11, 12] rfl ?_
              exact KJ89
          · rw [if_neg c5] at e
            refine gs_iconst (x := 0) rfl (by decide) ?_
            obtain rfl := injl e
            exact gs_iret rfl rfl (by decide) rfl rfl
    · subst hq
      unfold lp_X9_doQuarrel_35 at e
      refine gs_iload rfl rfl ?_
      refine gs_aload_n rfl rfl ?_
      refine gs_get rfl (gd_i rfl rfl) ?_
      refine gs_ge2 rfl (fun c1 => ?_) (fun c1 => ?_)
      · rw [if_pos c1] at e
        obtain ⟨rfl, rfl, rfl, rfl, rfl, rfl, rfl, rfl, rfl⟩ := injr9 e
        refine gs_drop [3, 4, 5, 6, 7, 8, 9, 10, 11] rfl ?_
        exact K
      · rw [if_neg c1] at e
        refine gs_iload_n rfl rfl ?_
        refine gs_iload rfl rfl ?_
        refine gs_ishr rfl ?_
        refine gs_iconst (x := 1) rfl (by decide) ?_
        refine gs_iand rfl ?_
        refine gs_iconst (x := 1) rfl (by decide) ?_
        refine gs_ne2 rfl (fun c2 => ?_) (fun c2 => ?_)
        · rw [if_neg c2] at e
          obtain ⟨x3, hx3, e⟩ := pn_some e
          refine gs_iinc1 (x1 := x3) (c := 1) (lv' := [(12, .int x3), (0, .ref 110), (1, .int z1), (2, .int z2), (3, .int z3), (4, .int z4), (5, .int z5), (6, .int z6), (7, .int z7), (8, .int z8), (9, .int z9), (10, .int z10), (11, .int z11)]) rfl rfl (by decide) hx3 rfl ?_
          refine gs_goto rfl ?_
          refine gs_drop [1, 2, 3, 4, 5, 6, 7, 8, 9, 10, 11, 12, 0] rfl ?_
          exact (ih z1 z2 z3 z4 z5 z6 z7 z8 z9 z10 z11 x3 f _ e).2 w0 w1 w2 w3 w4 w5 w6 w7 w8 rfl _ _ K
        · rw [if_pos c2] at e
          refine gs_aload_n rfl rfl ?_
          refine gs_get rfl (gd_r (b := 123) rfl rfl rfl) ?_
          refine gs_iload rfl rfl ?_
          by_cases hb4 : pa_in z12 20 = true
          case neg => rw [if_neg hb4] at e; cases e
          rw [if_pos hb4] at e
          refine gs_iald rfl (gd_ia (j := z12.toNatClampNeg) rfl hb4 rfl) ?_
          refine gs_iload_n rfl rfl ?_
          refine gs_eq2 rfl (fun c5 => ?_) (fun c5 => ?_)
          · rw [if_pos c5] at e
            refine gs_aload_n rfl rfl ?_
            refine gs_get rfl (gd_r (b := 124) rfl rfl rfl) ?_
            refine gs_iload rfl rfl ?_
            by_cases hb6 : pa_in z12 20 = true
            case neg => rw [if_neg hb6] at e; cases e
            rw [if_pos hb6] at e
            refine gs_iald rfl (gd_ia (j := z12.toNatClampNeg) rfl hb6 rfl) ?_
            refine gs_iload_n rfl rfl ?_
            obtain ⟨v8, ev89, e⟩ := ob1_some e
            have KJ89 : pr_G L 0 mt_X9_doQuarrel (89, [(0, .ref 110), (1, .int z1), (2, .int z2), (4, .int z4), (5, .int z5), (6, .int z6), (7, .int z7), (8, .int z8), (9, .int z9), (10, .int z10), (11, .int z11), (12, .int z12)], [.int v8], hH f) r h2 := by
              refine gs_istore_n (lv' := [(3, .int v8), (0, .ref 110), (1, .int z1), (2, .int z2), (4, .int z4), (5, .int z5), (6, .int z6), (7, .int z7), (8, .int z8), (9, .int z9), (10, .int z10), (11, .int z11), (12, .int z12)]) rfl rfl ?_
              refine gs_aload_n rfl rfl ?_
              refine gs_get rfl (gd_r (b := 125) rfl rfl rfl) ?_
              refine gs_iload rfl rfl ?_
              by_cases hb10 : pa_in z12 20 = true
              case neg => rw [if_neg hb10] at e; cases e
              rw [if_pos hb10] at e
              refine gs_iald rfl (gd_ia (j := z12.toNatClampNeg) rfl hb10 rfl) ?_
              refine gs_iload rfl rfl ?_
              obtain ⟨v12, ev114, e⟩ := ob1_some e
              have KJ114 : pr_G L 0 mt_X9_doQuarrel (114, [(0, .ref 110), (1, .int z1), (2, .int z2), (3, .int v8), (5, .int z5), (6, .int z6), (7, .int z7), (8, .int z8), (9, .int z9), (10, .int z10), (11, .int z11), (12, .int z12)], [.int v12], hH f) r h2 := by
                refine gs_istore (lv' := [(4, .int v12), (0, .ref 110), (1, .int z1), (2, .int z2), (3, .int v8), (5, .int z5), (6, .int z6), (7, .int z7), (8, .int z8), (9, .int z9), (10, .int z10), (11, .int z11), (12, .int z12)]) rfl rfl ?_
                refine gs_iload rfl rfl ?_
                refine gs_aload_n rfl rfl ?_
                refine gs_get rfl (gd_r (b := 126) rfl rfl rfl) ?_
                refine gs_iload rfl rfl ?_
                by_cases hb14 : pa_in z12 20 = true
                case neg => rw [if_neg hb14] at e; cases e
                rw [if_pos hb14] at e
                refine gs_iald rfl (gd_ia (j := z12.toNatClampNeg) rfl hb14 rfl) ?_
                refine gs_iconst (x := 3) rfl (by decide) ?_
                obtain ⟨v16, ev143, e⟩ := ob1_some e
                have KJ143 : pr_G L 0 mt_X9_doQuarrel (143, [(0, .ref 110), (1, .int z1), (2, .int z2), (3, .int v8), (4, .int v12), (6, .int z6), (7, .int z7), (8, .int z8), (9, .int z9), (10, .int z10), (11, .int z11), (12, .int z12)], [.int v16, .int z5], hH f) r h2 := by
                  refine gs_iand rfl ?_
                  obtain ⟨x18, hx18, e⟩ := pn_some e
                  refine gs_topi hx18 ?_
                  refine gs_istore (lv' := [(5, .int x18), (0, .ref 110), (1, .int z1), (2, .int z2), (3, .int v8), (4, .int v12), (6, .int z6), (7, .int z7), (8, .int z8), (9, .int z9), (10, .int z10), (11, .int z11), (12, .int z12)]) rfl rfl ?_
                  refine gs_iload rfl rfl ?_
                  refine gs_aload_n rfl rfl ?_
                  refine gs_get rfl (gd_r (b := 127) rfl rfl rfl) ?_
                  refine gs_iload rfl rfl ?_
                  by_cases hb19 : pa_in z12 20 = true
                  case neg => rw [if_neg hb19] at e; cases e
                  rw [if_pos hb19] at e
                  refine gs_bald rfl (gd_za (j := z12.toNatClampNeg) rfl hb19 rfl) ?_
                  obtain ⟨v21, ev163, e⟩ := ob1_some e
                  have KJ163 : pr_G L 0 mt_X9_doQuarrel (163, [(0, .ref 110), (1, .int z1), (2, .int z2), (3, .int v8), (4, .int v12), (5, .int x18), (7, .int z7), (8, .int z8), (9, .int z9), (10, .int z10), (11, .int z11), (12, .int z12)], [.int v21, .int z6], hH f) r h2 := by
                    refine gs_iadd rfl ?_
                    obtain ⟨x22, hx22, e⟩ := pn_some e
                    refine gs_topi hx22 ?_
                    refine gs_istore (lv' := [(6, .int x22), (0, .ref 110), (1, .int z1), (2, .int z2), (3, .int v8), (4, .int v12), (5, .int x18), (7, .int z7), (8, .int z8), (9, .int z9), (10, .int z10), (11, .int z11), (12, .int z12)]) rfl rfl ?_
                    refine gs_iload rfl rfl ?_
                    refine gs_aload_n rfl rfl ?_
                    refine gs_get rfl (gd_r (b := 127) rfl rfl rfl) ?_
                    refine gs_iload rfl rfl ?_
                    by_cases hb23 : pa_in z12 20 = true
                    case neg => rw [if_neg hb23] at e; cases e
                    rw [if_pos hb23] at e
                    refine gs_bald rfl (gd_za (j := z12.toNatClampNeg) rfl hb23 rfl) ?_
                    obtain ⟨v25, ev183, e⟩ := ob1_some e
                    have KJ183 : pr_G L 0 mt_X9_doQuarrel (183, [(0, .ref 110), (1, .int z1), (2, .int z2), (3, .int v8), (4, .int v12), (5, .int x18), (6, .int x22), (8, .int z8), (9, .int z9), (10, .int z10), (11, .int z11), (12, .int z12)], [.int v25, .int z7], hH f) r h2 := by
                      refine gs_iadd rfl ?_
                      obtain ⟨x26, hx26, e⟩ := pn_some e
                      refine gs_topi hx26 ?_
                      refine gs_istore (lv' := [(7, .int x26), (0, .ref 110), (1, .int z1), (2, .int z2), (3, .int v8), (4, .int v12), (5, .int x18), (6, .int x22), (8, .int z8), (9, .int z9), (10, .int z10), (11, .int z11), (12, .int z12)]) rfl rfl ?_
                      refine gs_iload rfl rfl ?_
                      refine gs_aload_n rfl rfl ?_
                      refine gs_get rfl (gd_r (b := 129) rfl rfl rfl) ?_
                      refine gs_iconst (x := 4) rfl (by decide) ?_
                      refine gs_iload rfl rfl ?_
                      refine gs_imul rfl ?_
                      by_cases hb27 : pa_in (4 * z12) 80 = true
                      case neg => rw [if_neg hb27] at e; cases e
                      rw [if_pos hb27] at e
                      refine gs_iald rfl (gd_ia (j := (4 * z12).toNatClampNeg) rfl hb27 rfl) ?_
                      refine gs_iand rfl ?_
                      obtain ⟨x28, hx28, e⟩ := pn_some e
                      refine gs_topi hx28 ?_
                      refine gs_istore (lv' := [(8, .int x28), (7, .int x26), (0, .ref 110), (1, .int z1), (2, .int z2), (3, .int v8), (4, .int v12), (5, .int x18), (6, .int x22), (9, .int z9), (10, .int z10), (11, .int z11), (12, .int z12)]) rfl rfl ?_
                      refine gs_iload rfl rfl ?_
                      refine gs_aload_n rfl rfl ?_
                      refine gs_get rfl (gd_r (b := 129) rfl rfl rfl) ?_
                      refine gs_iconst (x := 4) rfl (by decide) ?_
                      refine gs_iload rfl rfl ?_
                      refine gs_imul rfl ?_
                      refine gs_iconst (x := 1) rfl (by decide) ?_
                      refine gs_iadd rfl ?_
                      by_cases hb29 : pa_in ((4 * z12) + 1) 80 = true
                      case neg => rw [if_neg hb29] at e; cases e
                      rw [if_pos hb29] at e
                      refine gs_iald rfl (gd_ia (j := ((4 * z12) + 1).toNatClampNeg) rfl hb29 rfl) ?_
                      refine gs_iand rfl ?_
                      obtain ⟨x30, hx30, e⟩ := pn_some e
                      refine gs_topi hx30 ?_
                      refine gs_istore (lv' := [(9, .int x30), (8, .int x28), (7, .int x26), (0, .ref 110), (1, .int z1), (2, .int z2), (3, .int v8), (4, .int v12), (5, .int x18), (6, .int x22), (10, .int z10), (11, .int z11), (12, .int z12)]) rfl rfl ?_
                      refine gs_iload rfl rfl ?_
                      refine gs_aload_n rfl rfl ?_
                      refine gs_get rfl (gd_r (b := 129) rfl rfl rfl) ?_
                      refine gs_iconst (x := 4) rfl (by decide) ?_
                      refine gs_iload rfl rfl ?_
                      refine gs_imul rfl ?_
                      refine gs_iconst (x := 2) rfl (by decide) ?_
                      refine gs_iadd rfl ?_
                      by_cases hb31 : pa_in ((4 * z12) + 2) 80 = true
                      case neg => rw [if_neg hb31] at e; cases e
                      rw [if_pos hb31] at e
                      refine gs_iald rfl (gd_ia (j := ((4 * z12) + 2).toNatClampNeg) rfl hb31 rfl) ?_
                      refine gs_iand rfl ?_
                      obtain ⟨x32, hx32, e⟩ := pn_some e
                      refine gs_topi hx32 ?_
                      refine gs_istore (lv' := [(10, .int x32), (9, .int x30), (8, .int x28), (7, .int x26), (0, .ref 110), (1, .int z1), (2, .int z2), (3, .int v8), (4, .int v12), (5, .int x18), (6, .int x22), (11, .int z11), (12, .int z12)]) rfl rfl ?_
                      refine gs_iload rfl rfl ?_
                      refine gs_aload_n rfl rfl ?_
                      refine gs_get rfl (gd_r (b := 129) rfl rfl rfl) ?_
                      refine gs_iconst (x := 4) rfl (by decide) ?_
                      refine gs_iload rfl rfl ?_
                      refine gs_imul rfl ?_
                      refine gs_iconst (x := 3) rfl (by decide) ?_
                      refine gs_iadd rfl ?_
                      by_cases hb33 : pa_in ((4 * z12) + 3) 80 = true
                      case neg => rw [if_neg hb33] at e; cases e
                      rw [if_pos hb33] at e
                      refine gs_iald rfl (gd_ia (j := ((4 * z12) + 3).toNatClampNeg) rfl hb33 rfl) ?_
                      refine gs_iand rfl ?_
                      obtain ⟨x34, hx34, e⟩ := pn_some e
                      refine gs_topi hx34 ?_
                      refine gs_istore (lv' := [(11, .int x34), (10, .int x32), (9, .int x30), (8, .int x28), (7, .int x26), (0, .ref 110), (1, .int z1), (2, .int z2), (3, .int v8), (4, .int v12), (5, .int x18), (6, .int x22), (12, .int z12)]) rfl rfl ?_
                      obtain ⟨x35, hx35, e⟩ := pn_some e
                      refine gs_iinc1 (x1 := x35) (c := 1) (lv' := [(12, .int x35), (11, .int x34), (10, .int x32), (9, .int x30), (8, .int x28), (7, .int x26), (0, .ref 110), (1, .int z1), (2, .int z2), (3, .int v8), (4, .int v12), (5, .int x18), (6, .int x22)]) rfl rfl (by decide) hx35 rfl ?_
                      refine gs_goto rfl ?_
                      refine gs_drop [6, 7, 8, 9, 10, 11, 12, 5, 4, 3, 2, 1, 0] rfl ?_
                      exact (ih z1 z2 v8 v12 x18 x22 x26 x28 x30 x32 x34 x35 f _ e).2 w0 w1 w2 w3 w4 w5 w6 w7 w8 rfl _ _ K
                    have e := ev183
                    clear ev183
                    refine gs_eq0 rfl (fun c24 => ?_) (fun c24 => ?_)
                    · rw [if_pos c24] at e
                      refine gs_iconst (x := 1) rfl (by decide) ?_
                      obtain rfl := inj1 e
                      refine gs_drop [1, 2, 3, 4, 5, 6, 0, 8, 9, 10, 11, 12] rfl ?_
                      exact KJ183
                    · rw [if_neg c24] at e
                      refine gs_iconst (x := 0) rfl (by decide) ?_
                      refine gs_goto rfl ?_
                      obtain rfl := inj1 e
                      refine gs_drop [1, 2, 3, 4, 5, 6, 0, 8, 9, 10, 11, 12] rfl ?_
                      exact KJ183
                  have e := ev163
                  clear ev163
                  refine gs_eq0 rfl (fun c20 => ?_) (fun c20 => ?_)
                  · rw [if_pos c20] at e
                    refine gs_iconst (x := 0) rfl (by decide) ?_
                    obtain rfl := inj1 e
                    refine gs_drop [1, 2, 3, 4, 5, 0, 7, 8, 9, 10, 11, 12] rfl ?_
                    exact KJ163
                  · rw [if_neg c20] at e
                    refine gs_iconst (x := 1) rfl (by decide) ?_
                    refine gs_goto rfl ?_
                    obtain rfl := inj1 e
                    refine gs_drop [1, 2, 3, 4, 5, 0, 7, 8, 9, 10, 11, 12] rfl ?_
                    exact KJ163
                have e := ev143
                clear ev143
                refine gs_ne2 rfl (fun c15 => ?_) (fun c15 => ?_)
                · rw [if_neg c15] at e
                  refine gs_iconst (x := 1) rfl (by decide) ?_
                  refine gs_aload_n rfl rfl ?_
                  refine gs_get rfl (gd_r (b := 126) rfl rfl rfl) ?_
                  refine gs_iload rfl rfl ?_
                  by_cases hb17 : pa_in z12 20 = true
                  case neg => rw [if_neg hb17] at e; cases e
                  rw [if_pos hb17] at e
                  refine gs_iald rfl (gd_ia (j := z12.toNatClampNeg) rfl hb17 rfl) ?_
                  refine gs_ishl rfl ?_
                  obtain rfl := inj1 e
                  refine gs_drop [1, 2, 3, 4, 0, 6, 7, 8, 9, 10, 11, 12] rfl ?_
                  exact KJ143
                · rw [if_pos c15] at e
                  refine gs_bipush (x := 7) rfl (by decide) ?_
                  refine gs_goto rfl ?_
                  obtain rfl := inj1 e
                  refine gs_drop [1, 2, 3, 4, 0, 6, 7, 8, 9, 10, 11, 12] rfl ?_
                  exact KJ143
              have e := ev114
              clear ev114
              refine gs_ge2 rfl (fun c11 => ?_) (fun c11 => ?_)
              · rw [if_pos c11] at e
                refine gs_iload rfl rfl ?_
                obtain rfl := inj1 e
                refine gs_drop [1, 2, 3, 0, 5, 6, 7, 8, 9, 10, 11, 12] rfl ?_
                exact KJ114
              · rw [if_neg c11] at e
                refine gs_aload_n rfl rfl ?_
                refine gs_get rfl (gd_r (b := 125) rfl rfl rfl) ?_
                refine gs_iload rfl rfl ?_
                by_cases hb13 : pa_in z12 20 = true
                case neg => rw [if_neg hb13] at e; cases e
                rw [if_pos hb13] at e
                refine gs_iald rfl (gd_ia (j := z12.toNatClampNeg) rfl hb13 rfl) ?_
                refine gs_goto rfl ?_
                obtain rfl := inj1 e
                refine gs_drop [1, 2, 3, 0, 5, 6, 7, 8, 9, 10, 11, 12] rfl ?_
                exact KJ114
            have e := ev89
            clear ev89
            refine gs_le2 rfl (fun c7 => ?_) (fun c7 => ?_)
            · rw [if_pos c7] at e
              refine gs_iload_n rfl rfl ?_
              obtain rfl := inj1 e
              refine gs_drop [0, 1, 2, 4, 5, 6, 7, 8, 9, 10, 11, 12] rfl ?_
              exact KJ89
            · rw [if_neg c7] at e
              refine gs_aload_n rfl rfl ?_
              refine gs_get rfl (gd_r (b := 124) rfl rfl rfl) ?_
              refine gs_iload rfl rfl ?_
              by_cases hb9 : pa_in z12 20 = true
              case neg => rw [if_neg hb9] at e; cases e
              rw [if_pos hb9] at e
              refine gs_iald rfl (gd_ia (j := z12.toNatClampNeg) rfl hb9 rfl) ?_
              refine gs_goto rfl ?_
              obtain rfl := inj1 e
              refine gs_drop [0, 1, 2, 4, 5, 6, 7, 8, 9, 10, 11, 12] rfl ?_
              exact KJ89
          · rw [if_neg c5] at e
            refine gs_iconst (x := 0) rfl (by decide) ?_
            cases e
set_option maxRecDepth 100000 in
set_option maxHeartbeats 4000000 in
theorem th_X9_doQuarrel (L : Nat) (p1 : Int32) (p2 : Int32) (f : pd_M) (q : Int32) (e : fn_X9_doQuarrel p1 p2 f = some q) : pr_C L 1 158 [.ref 110, .int p1, .int p2] (hH f) (some (.int q)) (hH f) := by
  refine pr_C.of (G := mt_X9_doQuarrel) rfl rfl ?_
  show pr_G L 0 mt_X9_doQuarrel (0, [(0, .ref 110), (1, .int p1), (2, .int p2)], [], hH f) _ _
  unfold fn_X9_doQuarrel at e
  refine gs_iconst (x := 0) rfl (by decide) ?_
  refine gs_istore_n (lv' := [(3, .int 0), (0, .ref 110), (1, .int p1), (2, .int p2)]) rfl rfl ?_
  refine gs_bipush (x := 7) rfl (by decide) ?_
  refine gs_istore (lv' := [(4, .int 7), (3, .int 0), (0, .ref 110), (1, .int p1), (2, .int p2)]) rfl rfl ?_
  refine gs_bipush (x := 7) rfl (by decide) ?_
  refine gs_istore (lv' := [(5, .int 7), (4, .int 7), (3, .int 0), (0, .ref 110), (1, .int p1), (2, .int p2)]) rfl rfl ?_
  refine gs_iconst (x := 0) rfl (by decide) ?_
  refine gs_istore (lv' := [(6, .int 0), (5, .int 7), (4, .int 7), (3, .int 0), (0, .ref 110), (1, .int p1), (2, .int p2)]) rfl rfl ?_
  refine gs_iconst (x := 0) rfl (by decide) ?_
  refine gs_istore (lv' := [(7, .int 0), (6, .int 0), (5, .int 7), (4, .int 7), (3, .int 0), (0, .ref 110), (1, .int p1), (2, .int p2)]) rfl rfl ?_
  refine gs_bipush (x := 127) rfl (by decide) ?_
  refine gs_istore (lv' := [(8, .int 127), (7, .int 0), (6, .int 0), (5, .int 7), (4, .int 7), (3, .int 0), (0, .ref 110), (1, .int p1), (2, .int p2)]) rfl rfl ?_
  refine gs_bipush (x := 127) rfl (by decide) ?_
  refine gs_istore (lv' := [(9, .int 127), (8, .int 127), (7, .int 0), (6, .int 0), (5, .int 7), (4, .int 7), (3, .int 0), (0, .ref 110), (1, .int p1), (2, .int p2)]) rfl rfl ?_
  refine gs_bipush (x := 127) rfl (by decide) ?_
  refine gs_istore (lv' := [(10, .int 127), (9, .int 127), (8, .int 127), (7, .int 0), (6, .int 0), (5, .int 7), (4, .int 7), (3, .int 0), (0, .ref 110), (1, .int p1), (2, .int p2)]) rfl rfl ?_
  refine gs_bipush (x := 127) rfl (by decide) ?_
  refine gs_istore (lv' := [(11, .int 127), (10, .int 127), (9, .int 127), (8, .int 127), (7, .int 0), (6, .int 0), (5, .int 7), (4, .int 7), (3, .int 0), (0, .ref 110), (1, .int p1), (2, .int p2)]) rfl rfl ?_
  refine gs_iconst (x := 0) rfl (by decide) ?_
  refine gs_istore (lv' := [(12, .int 0), (11, .int 127), (10, .int 127), (9, .int 127), (8, .int 127), (7, .int 0), (6, .int 0), (5, .int 7), (4, .int 7), (3, .int 0), (0, .ref 110), (1, .int p1), (2, .int p2)]) rfl rfl ?_
  refine gs_drop [10, 11, 12, 9, 8, 7, 6, 5, 4, 3, 2, 1, 0] rfl ?_
  rcases os9_some e with ⟨q, el59, e⟩ | ⟨y36, y37, y38, y39, y40, y41, y42, y43, y44, el59, e⟩
  · skip
    obtain rfl := inj1 e
    exact (tl_X9_doQuarrel_35 L 5000 p1 p2 0 7 7 0 0 127 127 127 127 0 f _ el59).1 _ rfl
  · refine (tl_X9_doQuarrel_35 L 5000 p1 p2 0 7 7 0 0 127 127 127 127 0 f _ el59).2 y36 y37 y38 y39 y40 y41 y42 y43 y44 rfl _ _ ?_
    refine gs_iload_n rfl rfl ?_
    refine gs_iload rfl rfl ?_
    refine gs_gt2 rfl (fun c45 => ?_) (fun c45 => ?_)
    · rw [if_pos c45] at e
      refine gs_iconst (x := 0) rfl (by decide) ?_
      obtain rfl := inj1 e
      exact gs_iret rfl rfl (by decide) rfl rfl
    · rw [if_neg c45] at e
      refine gs_iload rfl rfl ?_
      refine gs_eq0 rfl (fun c46 => ?_) (fun c46 => ?_)
      · rw [if_pos c46] at e
        refine gs_iconst (x := 0) rfl (by decide) ?_
        obtain rfl := inj1 e
        exact gs_iret rfl rfl (by decide) rfl rfl
      · rw [if_neg c46] at e
        refine gs_iload rfl rfl ?_
        refine gs_le0 rfl (fun c47 => ?_) (fun c47 => ?_)
        · rw [if_pos c47] at e
          refine gs_iload rfl rfl ?_
          refine gs_ne0 rfl (fun c48 => ?_) (fun c48 => ?_)
          · rw [if_neg c48] at e
            refine gs_iconst (x := 0) rfl (by decide) ?_
            obtain rfl := inj1 e
            exact gs_iret rfl rfl (by decide) rfl rfl
          · rw [if_pos c48] at e
            refine gs_iload rfl rfl ?_
            refine gs_eq0 rfl (fun c49 => ?_) (fun c49 => ?_)
            · rw [if_pos c49] at e
              refine gs_iconst (x := 1) rfl (by decide) ?_
              refine gs_goto rfl ?_
              obtain rfl := inj1 e
              exact gs_iret rfl rfl (by decide) rfl rfl
            · rw [if_neg c49] at e
              refine gs_iload rfl rfl ?_
              refine gs_eq0 rfl (fun c50 => ?_) (fun c50 => ?_)
              · rw [if_pos c50] at e
                refine gs_iconst (x := 1) rfl (by decide) ?_
                refine gs_goto rfl ?_
                obtain rfl := inj1 e
                exact gs_iret rfl rfl (by decide) rfl rfl
              · rw [if_neg c50] at e
                refine gs_iload rfl rfl ?_
                refine gs_eq0 rfl (fun c51 => ?_) (fun c51 => ?_)
                · rw [if_pos c51] at e
                  refine gs_iconst (x := 1) rfl (by decide) ?_
                  refine gs_goto rfl ?_
                  obtain rfl := inj1 e
                  exact gs_iret rfl rfl (by decide) rfl rfl
                · rw [if_neg c51] at e
                  refine gs_iload rfl rfl ?_
                  refine gs_ne0 rfl (fun c52 => ?_) (fun c52 => ?_)
                  · rw [if_neg c52] at e
                    refine gs_iconst (x := 0) rfl (by decide) ?_
                    obtain rfl := inj1 e
                    exact gs_iret rfl rfl (by decide) rfl rfl
                  · rw [if_pos c52] at e
                    refine gs_iconst (x := 1) rfl (by decide) ?_
                    refine gs_goto rfl ?_
                    obtain rfl := inj1 e
                    exact gs_iret rfl rfl (by decide) rfl rfl
        · rw [if_neg c47] at e
          refine gs_iload rfl rfl ?_
          refine gs_gt0 rfl (fun c53 => ?_) (fun c53 => ?_)
          · rw [if_pos c53] at e
            refine gs_iconst (x := 1) rfl (by decide) ?_
            refine gs_goto rfl ?_
            obtain rfl := inj1 e
            exact gs_iret rfl rfl (by decide) rfl rfl
          · rw [if_neg c53] at e
            refine gs_iload rfl rfl ?_
            refine gs_ne0 rfl (fun c54 => ?_) (fun c54 => ?_)
            · rw [if_neg c54] at e
              refine gs_iconst (x := 0) rfl (by decide) ?_
              obtain rfl := inj1 e
              exact gs_iret rfl rfl (by decide) rfl rfl
            · rw [if_pos c54] at e
              refine gs_iload rfl rfl ?_
              refine gs_eq0 rfl (fun c55 => ?_) (fun c55 => ?_)
              · rw [if_pos c55] at e
                refine gs_iconst (x := 1) rfl (by decide) ?_
                refine gs_goto rfl ?_
                obtain rfl := inj1 e
                exact gs_iret rfl rfl (by decide) rfl rfl
              · rw [if_neg c55] at e
                refine gs_iload rfl rfl ?_
                refine gs_eq0 rfl (fun c56 => ?_) (fun c56 => ?_)
                · rw [if_pos c56] at e
                  refine gs_iconst (x := 1) rfl (by decide) ?_
                  refine gs_goto rfl ?_
                  obtain rfl := inj1 e
                  exact gs_iret rfl rfl (by decide) rfl rfl
                · rw [if_neg c56] at e
                  refine gs_iload rfl rfl ?_
                  refine gs_eq0 rfl (fun c57 => ?_) (fun c57 => ?_)
                  · rw [if_pos c57] at e
                    refine gs_iconst (x := 1) rfl (by decide) ?_
                    refine gs_goto rfl ?_
                    obtain rfl := inj1 e
                    exact gs_iret rfl rfl (by decide) rfl rfl
                  · rw [if_neg c57] at e
                    refine gs_iload rfl rfl ?_
                    refine gs_ne0 rfl (fun c58 => ?_) (fun c58 => ?_)
                    · rw [if_neg c58] at e
                      refine gs_iconst (x := 0) rfl (by decide) ?_
                      obtain rfl := inj1 e
                      exact gs_iret rfl rfl (by decide) rfl rfl
                    · rw [if_pos c58] at e
                      refine gs_iconst (x := 1) rfl (by decide) ?_
                      refine gs_goto rfl ?_
                      obtain rfl := inj1 e
                      exact gs_iret rfl rfl (by decide) rfl rfl
