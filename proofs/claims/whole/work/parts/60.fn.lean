def lp_X9_bits_4 : Nat → Int32 → Int32 → Int32 → pd_M → Option (Int32)
  | 0, _, _, _, _ => none
  | n + 1, z0, z1, z2, f =>
    if 4 ≤ z2 then
    some (z1)
    else
    pn ((z1 + ((z0 >>> (z2 &&& 31)) &&& 1))) fun x2 =>
    pn (z2 + 1) fun x3 =>
    lp_X9_bits_4 n z0 x2 x3 f
def fn_X9_bits (p1 : Int32) (f : pd_M) : Option (Int32) :=
  ob1 (lp_X9_bits_4 5000 p1 0 0 f) fun y4 =>
  some y4
set_option maxRecDepth 100000 in
set_option maxHeartbeats 4000000 in
theorem tl_X9_bits_4 (L : Nat) : ∀ (n : Nat) (z0 : Int32) (z1 : Int32) (z2 : Int32) (f : pd_M) (w0 : Int32) (r : Option Value) (h2 : ph_T), lp_X9_bits_4 n z0 z1 z2 f = some (w0) → pr_G L 0 mt_X9_bits (23, [(1, .int w0)], [], hH f) r h2 → pr_G L 0 mt_X9_bits (4, [(0, .int z0), (1, .int z1), (2, .int z2)], [], hH f) r h2 := by
  intro n
  induction n with
  | zero => intro z0 z1 z2 f w0 r h2 e; cases e
  | succ n ih =>
    intro z0 z1 z2 f w0 r h2 e K
    unfold lp_X9_bits_4 at e
    refine gs_iload_n rfl rfl ?_
    refine gs_iconst (x := 4) rfl (by decide) ?_
    refine gs_ge2 rfl (fun c1 => ?_) (fun c1 => ?_)
    · rw [if_pos c1] at e
      obtain rfl := inj1 e
      refine gs_drop [1] rfl ?_
      exact K
    · rw [if_neg c1] at e
      refine gs_iload_n rfl rfl ?_
      refine gs_iload_n rfl rfl ?_
      refine gs_iload_n rfl rfl ?_
      refine gs_ishr rfl ?_
      refine gs_iconst (x := 1) rfl (by decide) ?_
      refine gs_iand rfl ?_
      refine gs_iadd rfl ?_
      obtain ⟨x2, hx2, e⟩ := pn_some e
      refine gs_topi hx2 ?_
      refine gs_istore_n (lv' := [(1, .int x2), (0, .int z0), (2, .int z2)]) rfl rfl ?_
      obtain ⟨x3, hx3, e⟩ := pn_some e
      refine gs_iinc1 (x1 := x3) (c := 1) (lv' := [(2, .int x3), (1, .int x2), (0, .int z0)]) rfl rfl (by decide) hx3 rfl ?_
      refine gs_goto rfl ?_
      refine gs_drop [2, 1, 0] rfl ?_
      exact ih z0 x2 x3 f w0 _ _ e K
set_option maxRecDepth 100000 in
set_option maxHeartbeats 4000000 in
theorem th_X9_bits (L : Nat) (p1 : Int32) (f : pd_M) (q : Int32) (e : fn_X9_bits p1 f = some q) : pr_C L 1 170 [.int p1] (hH f) (some (.int q)) (hH f) := by
  refine pr_C.of (G := mt_X9_bits) rfl rfl ?_
  show pr_G L 0 mt_X9_bits (0, [(0, .int p1)], [], hH f) _ _
  unfold fn_X9_bits at e
  refine gs_iconst (x := 0) rfl (by decide) ?_
  refine gs_istore_n (lv' := [(1, .int 0), (0, .int p1)]) rfl rfl ?_
  refine gs_iconst (x := 0) rfl (by decide) ?_
  refine gs_istore_n (lv' := [(2, .int 0), (1, .int 0), (0, .int p1)]) rfl rfl ?_
  refine gs_drop [2, 1, 0] rfl ?_
  obtain ⟨y4, el5, e⟩ := ob1_some e
  refine tl_X9_bits_4 L 5000 p1 0 0 f y4 _ _ el5 ?_
  refine gs_iload_n rfl rfl ?_
  obtain rfl := inj1 e
  exact gs_iret rfl rfl rfl rfl rfl
def fn_X9_kindOf (p1 : Int32) (f : pd_M) : Option (Int32) :=
  if pa_in p1 20 = true then
  ob1 (fn_X9_quarrelOf (f 123 p1.toNatClampNeg) f) fun r2 =>
  if ((r2 >>> (p1 &&& 31)) &&& 1) = 1 then
  some 5
  else
  if pa_in p1 20 = true then
  if (f 127 p1.toNatClampNeg) = 0 then
  if pa_in p1 20 = true then
  if (f 126 p1.toNatClampNeg) = 3 then
  if pa_in p1 20 = true then
  if (f 128 p1.toNatClampNeg) = 0 then
  some 4
  else
  some 1
  else none
  else
  some 3
  else none
  else
  some 2
  else none
  else none
set_option maxRecDepth 100000 in
set_option maxHeartbeats 4000000 in
theorem th_X9_kindOf (L : Nat) (p1 : Int32) (f : pd_M) (q : Int32) (e : fn_X9_kindOf p1 f = some q) : pr_C L 3 171 [.ref 110, .int p1] (hH f) (some (.int q)) (hH f) := by
  refine pr_C.of (G := mt_X9_kindOf) rfl rfl ?_
  show pr_G L 2 mt_X9_kindOf (0, [(0, .ref 110), (1, .int p1)], [], hH f) _ _
  unfold fn_X9_kindOf at e
  refine gs_aload_n rfl rfl ?_
  refine gs_aload_n rfl rfl ?_
  refine gs_get rfl (gd_r (b := 123) rfl rfl rfl) ?_
  refine gs_iload_n rfl rfl ?_
  by_cases hb1 : pa_in p1 20 = true
  case neg => rw [if_neg hb1] at e; cases e
  rw [if_pos hb1] at e
  refine gs_iald rfl (gd_ia (j := p1.toNatClampNeg) rfl hb1 rfl) ?_
  obtain ⟨r2, ec3, e⟩ := ob1_some e
  refine gs_callvI (st := []) rfl (pr_C_le (by decide) (th_X9_quarrelOf L (f 123 p1.toNatClampNeg) f r2 ec3)) rfl rfl rfl (by decide) rfl (Or.inr (by decide)) ?_
  refine gs_iload_n rfl rfl ?_
  refine gs_ishr rfl ?_
  refine gs_iconst (x := 1) rfl (by decide) ?_
  refine gs_iand rfl ?_
  refine gs_iconst (x := 1) rfl (by decide) ?_
  refine gs_ne2 rfl (fun c4 => ?_) (fun c4 => ?_)
  · rw [if_neg c4] at e
    refine gs_aload_n rfl rfl ?_
    refine gs_get rfl (gd_r (b := 127) rfl rfl rfl) ?_
    refine gs_iload_n rfl rfl ?_
    by_cases hb5 : pa_in p1 20 = true
    case neg => rw [if_neg hb5] at e; cases e
    rw [if_pos hb5] at e
    refine gs_bald rfl (gd_za (j := p1.toNatClampNeg) rfl hb5 rfl) ?_
    refine gs_eq0 rfl (fun c6 => ?_) (fun c6 => ?_)
    · rw [if_pos c6] at e
      refine gs_aload_n rfl rfl ?_
      refine gs_get rfl (gd_r (b := 126) rfl rfl rfl) ?_
      refine gs_iload_n rfl rfl ?_
      by_cases hb7 : pa_in p1 20 = true
      case neg => rw [if_neg hb7] at e; cases e
      rw [if_pos hb7] at e
      refine gs_iald rfl (gd_ia (j := p1.toNatClampNeg) rfl hb7 rfl) ?_
      refine gs_iconst (x := 3) rfl (by decide) ?_
      refine gs_eq2 rfl (fun c8 => ?_) (fun c8 => ?_)
      · rw [if_pos c8] at e
        refine gs_aload_n rfl rfl ?_
        refine gs_get rfl (gd_r (b := 128) rfl rfl rfl) ?_
        refine gs_iload_n rfl rfl ?_
        by_cases hb9 : pa_in p1 20 = true
        case neg => rw [if_neg hb9] at e; cases e
        rw [if_pos hb9] at e
        refine gs_iald rfl (gd_ia (j := p1.toNatClampNeg) rfl hb9 rfl) ?_
        refine gs_ne0 rfl (fun c10 => ?_) (fun c10 => ?_)
        · rw [if_neg c10] at e
          refine gs_iconst (x := 1) rfl (by decide) ?_
          obtain rfl := inj1 e
          exact gs_iret rfl rfl rfl rfl rfl
        · rw [if_pos c10] at e
          refine gs_iconst (x := 4) rfl (by decide) ?_
          refine gs_goto rfl ?_
          obtain rfl := inj1 e
          exact gs_iret rfl rfl rfl rfl rfl
      · rw [if_neg c8] at e
        refine gs_iconst (x := 3) rfl (by decide) ?_
        refine gs_goto rfl ?_
        obtain rfl := inj1 e
        exact gs_iret rfl rfl rfl rfl rfl
    · rw [if_neg c6] at e
      refine gs_iconst (x := 2) rfl (by decide) ?_
      refine gs_goto rfl ?_
      obtain rfl := inj1 e
      exact gs_iret rfl rfl rfl rfl rfl
  · rw [if_pos c4] at e
    refine gs_iconst (x := 5) rfl (by decide) ?_
    obtain rfl := inj1 e
    exact gs_iret rfl rfl rfl rfl rfl
def fn_X9_isOf (p1 : Int32) (p2 : Int32) : Int32 :=
  if p2 = 0 then
  1
  else
  if p1 = p2 then
  1
  else
  if p2 = 1 then
  if p1 = 3 then
  1
  else
  if p1 = 4 then
  1
  else
  0
  else
  0
set_option maxRecDepth 100000 in
set_option maxHeartbeats 4000000 in
theorem th_X9_isOf (L : Nat) (p1 : Int32) (p2 : Int32) (f : pd_M) (q : Int32) (e : fn_X9_isOf p1 p2 = q) : pr_C L 1 172 [.int p1, .int p2] (hH f) (some (.int q)) (hH f) := by
  refine pr_C.of (G := mt_X9_isOf) rfl rfl ?_
  show pr_G L 0 mt_X9_isOf (0, [(0, .int p1), (1, .int p2)], [], hH f) _ _
  unfold fn_X9_isOf at e
  refine gs_iload_n rfl rfl ?_
  refine gs_eq0 rfl (fun c1 => ?_) (fun c1 => ?_)
  · rw [if_pos c1] at e
    refine gs_iconst (x := 1) rfl (by decide) ?_
    refine gs_goto rfl ?_
    subst e
    exact gs_iret rfl rfl (by decide) rfl rfl
  · rw [if_neg c1] at e
    refine gs_iload_n rfl rfl ?_
    refine gs_iload_n rfl rfl ?_
    refine gs_eq2 rfl (fun c2 => ?_) (fun c2 => ?_)
    · rw [if_pos c2] at e
      refine gs_iconst (x := 1) rfl (by decide) ?_
      refine gs_goto rfl ?_
      subst e
      exact gs_iret rfl rfl (by decide) rfl rfl
    · rw [if_neg c2] at e
      refine gs_iload_n rfl rfl ?_
      refine gs_iconst (x := 1) rfl (by decide) ?_
      refine gs_ne2 rfl (fun c3 => ?_) (fun c3 => ?_)
      · rw [if_neg c3] at e
        refine gs_iconst (x := 0) rfl (by decide) ?_
        subst e
        exact gs_iret rfl rfl (by decide) rfl rfl
      · rw [if_pos c3] at e
        refine gs_iload_n rfl rfl ?_
        refine gs_iconst (x := 3) rfl (by decide) ?_
        refine gs_eq2 rfl (fun c4 => ?_) (fun c4 => ?_)
        · rw [if_pos c4] at e
          refine gs_iconst (x := 1) rfl (by decide) ?_
          refine gs_goto rfl ?_
          subst e
          exact gs_iret rfl rfl (by decide) rfl rfl
        · rw [if_neg c4] at e
          refine gs_iload_n rfl rfl ?_
          refine gs_iconst (x := 4) rfl (by decide) ?_
          refine gs_ne2 rfl (fun c5 => ?_) (fun c5 => ?_)
          · rw [if_neg c5] at e
            refine gs_iconst (x := 0) rfl (by decide) ?_
            subst e
            exact gs_iret rfl rfl (by decide) rfl rfl
          · rw [if_pos c5] at e
            refine gs_iconst (x := 1) rfl (by decide) ?_
            refine gs_goto rfl ?_
            subst e
            exact gs_iret rfl rfl (by decide) rfl rfl
def fn_X9_kind (p1 : Int32) (f : pd_M) : Option (Int32 × pd_M) :=
  pn ((pi_up f 110 0 0)) fun f1 =>
  ob1 (fn_X9_isSaying p1 f1) fun r2 =>
  if r2 = 0 then
  some ((-1000001), f1)
  else
  ob1 (fn_X9_kindOf p1 f1) fun r5 =>
  some (r5, f1)
set_option maxRecDepth 100000 in
set_option maxHeartbeats 4000000 in
theorem th_X9_kind (L : Nat) (p1 : Int32) (f : pd_M) (q : Int32) (g : pd_M) (e : fn_X9_kind p1 f = some (q, g)) : pr_C L 4 173 [.ref 110, .int p1] (hH f) (some (.int q)) (hH g) := by
  refine pr_C.of (G := mt_X9_kind) rfl rfl ?_
  show pr_G L 3 mt_X9_kind (0, [(0, .ref 110), (1, .int p1)], [], hH f) _ _
  unfold fn_X9_kind at e
  refine gs_aload_n rfl rfl ?_
  refine gs_iconst (x := 0) rfl (by decide) ?_
  refine gs_put rfl (gd_pi rfl rfl) ?_
  obtain ⟨f1, hf1, e⟩ := pn_some e
  refine gs_heap hf1 ?_
  refine gs_aload_n rfl rfl ?_
  refine gs_iload_n rfl rfl ?_
  obtain ⟨r2, ec3, e⟩ := ob1_some e
  refine gs_callvI (st := []) rfl (pr_C_le (by decide) (th_X9_isSaying L p1 f1 r2 ec3)) rfl rfl rfl (by decide) rfl (Or.inr (by decide)) ?_
  refine gs_eq0 rfl (fun c4 => ?_) (fun c4 => ?_)
  · rw [if_pos c4] at e
    refine gs_ldc (x := (-1000001)) rfl (by decide) ?_
    obtain ⟨rfl, rfl⟩ := inj2 e
    exact gs_iret rfl rfl rfl rfl rfl
  · rw [if_neg c4] at e
    refine gs_aload_n rfl rfl ?_
    refine gs_iload_n rfl rfl ?_
    obtain ⟨r5, ec6, e⟩ := ob1_some e
    refine gs_callvI (st := []) rfl (pr_C_le (by decide) (th_X9_kindOf L p1 f1 r5 ec6)) rfl rfl rfl (by decide) rfl (Or.inr (by decide)) ?_
    refine gs_goto rfl ?_
    obtain ⟨rfl, rfl⟩ := inj2 e
    exact gs_iret rfl rfl rfl rfl rfl
def fn_X9_as (p1 : Int32) (p2 : Int32) (f : pd_M) : Option (Int32 × pd_M) :=
  pn ((pi_up f 110 0 0)) fun f1 =>
  ob1 (fn_X9_isSaying p1 f1) fun r2 =>
  if r2 = 0 then
  some ((-1000001), f1)
  else
  if (fn_X9_in (p2.toInt64) 0 5) = 0 then
  some ((-1000001), f1)
  else
  pn ((pi_up f1 110 1 0)) fun f6 =>
  ob1 (fn_X9_kindOf p1 f6) fun r7 =>
  if (fn_X9_isOf r7 p2) = 0 then
  ob2 (fn_X9_finding 3 f6) fun r10 f11 =>
  some (r10, f11)
  else
  some (p1, f6)
set_option maxRecDepth 100000 in
set_option maxHeartbeats 4000000 in
theorem th_X9_as (L : Nat) (p1 : Int32) (p2 : Int32) (f : pd_M) (q : Int32) (g : pd_M) (e : fn_X9_as p1 p2 f = some (q, g)) : pr_C L 4 174 [.ref 110, .int p1, .int p2] (hH f) (some (.int q)) (hH g) := by
  refine pr_C.of (G := mt_X9_as) rfl rfl ?_
  show pr_G L 3 mt_X9_as (0, [(0, .ref 110), (1, .int p1), (2, .int p2)], [], hH f) _ _
  unfold fn_X9_as at e
  refine gs_aload_n rfl rfl ?_
  refine gs_iconst (x := 0) rfl (by decide) ?_
  refine gs_put rfl (gd_pi rfl rfl) ?_
  obtain ⟨f1, hf1, e⟩ := pn_some e
  refine gs_heap hf1 ?_
  refine gs_aload_n rfl rfl ?_
  refine gs_iload_n rfl rfl ?_
  obtain ⟨r2, ec3, e⟩ := ob1_some e
  refine gs_callvI (st := []) rfl (pr_C_le (by decide) (th_X9_isSaying L p1 f1 r2 ec3)) rfl rfl rfl (by decide) rfl (Or.inr (by decide)) ?_
  refine gs_eq0 rfl (fun c4 => ?_) (fun c4 => ?_)
  · rw [if_pos c4] at e
    refine gs_ldc (x := (-1000001)) rfl (by decide) ?_
    obtain ⟨rfl, rfl⟩ := inj2 e
    exact gs_iret rfl rfl rfl rfl rfl
  · rw [if_neg c4] at e
    refine gs_iload_n rfl rfl ?_
    refine gs_i2l rfl ?_
    refine gs_lconst (w := 0) rfl (by decide) ?_
    refine gs_ldc2 (w := 5) rfl (by decide) ?_
    refine gs_callsI (st := []) rfl (pr_C_le (by decide) (th_X9_in L (p2.toInt64) 0 5 f1 _ rfl)) rfl rfl rfl (by decide) ?_
    refine gs_ne0 rfl (fun c5 => ?_) (fun c5 => ?_)
    · rw [if_neg c5] at e
      refine gs_aload_n rfl rfl ?_
      refine gs_iconst (x := 0) rfl (by decide) ?_
      refine gs_put rfl (gd_pi rfl rfl) ?_
      obtain ⟨f6, hf6, e⟩ := pn_some e
      refine gs_heap hf6 ?_
      refine gs_aload_n rfl rfl ?_
      refine gs_iload_n rfl rfl ?_
      obtain ⟨r7, ec8, e⟩ := ob1_some e
      refine gs_callvI (st := []) rfl (pr_C_le (by decide) (th_X9_kindOf L p1 f6 r7 ec8)) rfl rfl rfl (by decide) rfl (Or.inr (by decide)) ?_
      refine gs_iload_n rfl rfl ?_
      refine gs_callsI (st := []) rfl (pr_C_le (by decide) (th_X9_isOf L r7 p2 f6 _ rfl)) rfl rfl rfl (by decide) ?_
      refine gs_eq0 rfl (fun c9 => ?_) (fun c9 => ?_)
      · rw [if_pos c9] at e
        refine gs_aload_n rfl rfl ?_
        refine gs_iconst (x := 3) rfl (by decide) ?_
        obtain ⟨r10, f11, ec12, e⟩ := ob2_some e
        refine gs_callvI (st := []) rfl (pr_C_le (by decide) (th_X9_finding L 3 f6 r10 f11 ec12)) rfl rfl rfl (by decide) rfl (Or.inr (by decide)) ?_
        obtain ⟨rfl, rfl⟩ := inj2 e
        exact gs_iret rfl rfl rfl rfl rfl
      · rw [if_neg c9] at e
        refine gs_iload_n rfl rfl ?_
        refine gs_goto rfl ?_
        obtain ⟨rfl, rfl⟩ := inj2 e
        exact gs_iret rfl rfl rfl rfl rfl
    · rw [if_pos c5] at e
      refine gs_ldc (x := (-1000001)) rfl (by decide) ?_
      obtain ⟨rfl, rfl⟩ := inj2 e
      exact gs_iret rfl rfl rfl rfl rfl
def fn_X9_began (p1 : Int32) (f : pd_M) : Option (pd_M) :=
  if 16 ≤ (f 110 43) then
  some f
  else
  if pa_in (f 110 43) 16 = true then
  pn ((pi_up f 140 ((f 110 43).toNatClampNeg) p1)) fun f3 =>
  pn ((pi_up f3 110 43 ((f3 110 43) + 1))) fun f4 =>
  some f4
  else none
set_option maxRecDepth 100000 in
set_option maxHeartbeats 4000000 in
theorem th_X9_began (L : Nat) (p1 : Int32) (f : pd_M) (g : pd_M) (e : fn_X9_began p1 f = some g) : pr_C L 1 175 [.ref 110, .int p1] (hH f) none (hH g) := by
  refine pr_C.of (G := mt_X9_began) rfl rfl ?_
  show pr_G L 0 mt_X9_began (0, [(0, .ref 110), (1, .int p1)], [], hH f) _ _
  unfold fn_X9_began at e
  refine gs_aload_n rfl rfl ?_
  refine gs_get rfl (gd_i rfl rfl) ?_
  refine gs_bipush (x := 16) rfl (by decide) ?_
  refine gs_ge2 rfl (fun c1 => ?_) (fun c1 => ?_)
  · rw [if_pos c1] at e
    obtain rfl := inj1 e
    exact gs_vret rfl rfl rfl rfl
  · rw [if_neg c1] at e
    refine gs_aload_n rfl rfl ?_
    refine gs_get rfl (gd_r (b := 140) rfl rfl rfl) ?_
    refine gs_aload_n rfl rfl ?_
    refine gs_get rfl (gd_i rfl rfl) ?_
    refine gs_iload_n rfl rfl ?_
    by_cases hb2 : pa_in (f 110 43) 16 = true
    case neg => rw [if_neg hb2] at e; cases e
    rw [if_pos hb2] at e
    refine gs_iast rfl (gd_si (j := (f 110 43).toNatClampNeg) rfl (by decide) hb2 rfl) ?_
    obtain ⟨f3, hf3, e⟩ := pn_some e
    refine gs_heap hf3 ?_
    refine gs_aload_n rfl rfl ?_
    refine gs_dup rfl rfl ?_
    refine gs_get rfl (gd_i rfl rfl) ?_
    refine gs_iconst (x := 1) rfl (by decide) ?_
    refine gs_iadd rfl ?_
    refine gs_put rfl (gd_pi rfl rfl) ?_
    obtain ⟨f4, hf4, e⟩ := pn_some e
    refine gs_heap hf4 ?_
    obtain rfl := inj1 e
    exact gs_vret rfl rfl rfl rfl
def fn_X9_aboutHowMany (p1 : Int32) (f : pd_M) : Option (Int32 × pd_M) :=
  ob1 (fn_X9_began 10 f) fun f1 =>
  if pa_in p1 20 = true then
  if pa_in p1 20 = true then
  if pa_in p1 20 = true then
  if (f1 126 p1.toNatClampNeg) = 3 then
  some (((((f1 125 p1.toNatClampNeg) - (f1 124 p1.toNatClampNeg)) + 1) * 3), f1)
  else
  some (((((f1 125 p1.toNatClampNeg) - (f1 124 p1.toNatClampNeg)) + 1) * 1), f1)
  else none
  else none
  else none
set_option maxRecDepth 100000 in
set_option maxHeartbeats 4000000 in
theorem th_X9_aboutHowMany (L : Nat) (p1 : Int32) (f : pd_M) (q : Int32) (g : pd_M) (e : fn_X9_aboutHowMany p1 f = some (q, g)) : pr_C L 2 176 [.ref 110, .int p1] (hH f) (some (.int q)) (hH g) := by
  refine pr_C.of (G := mt_X9_aboutHowMany) rfl rfl ?_
  show pr_G L 1 mt_X9_aboutHowMany (0, [(0, .ref 110), (1, .int p1)], [], hH f) _ _
  unfold fn_X9_aboutHowMany at e
  refine gs_aload_n rfl rfl ?_
  refine gs_bipush (x := 10) rfl (by decide) ?_
  obtain ⟨f1, ec2, e⟩ := ob1_some e
  refine gs_callvV (st := []) rfl (pr_C_le (by decide) (th_X9_began L 10 f f1 ec2)) rfl rfl rfl (by decide) rfl (Or.inr (by decide)) ?_
  refine gs_aload_n rfl rfl ?_
  refine gs_get rfl (gd_r (b := 125) rfl rfl rfl) ?_
  refine gs_iload_n rfl rfl ?_
  by_cases hb3 : pa_in p1 20 = true
  case neg => rw [if_neg hb3] at e; cases e
  rw [if_pos hb3] at e
  refine gs_iald rfl (gd_ia (j := p1.toNatClampNeg) rfl hb3 rfl) ?_
  refine gs_aload_n rfl rfl ?_
  refine gs_get rfl (gd_r (b := 124) rfl rfl rfl) ?_
  refine gs_iload_n rfl rfl ?_
  by_cases hb4 : pa_in p1 20 = true
  case neg => rw [if_neg hb4] at e; cases e
  rw [if_pos hb4] at e
  refine gs_iald rfl (gd_ia (j := p1.toNatClampNeg) rfl hb4 rfl) ?_
  refine gs_isub rfl ?_
  refine gs_iconst (x := 1) rfl (by decide) ?_
  refine gs_iadd rfl ?_
  refine gs_aload_n rfl rfl ?_
  refine gs_get rfl (gd_r (b := 126) rfl rfl rfl) ?_
  refine gs_iload_n rfl rfl ?_
  by_cases hb5 : pa_in p1 20 = true
  case neg => rw [if_neg hb5] at e; cases e
  rw [if_pos hb5] at e
  refine gs_iald rfl (gd_ia (j := p1.toNatClampNeg) rfl hb5 rfl) ?_
  refine gs_iconst (x := 3) rfl (by decide) ?_
  refine gs_ne2 rfl (fun c6 => ?_) (fun c6 => ?_)
  · rw [if_neg c6] at e
    refine gs_iconst (x := 1) rfl (by decide) ?_
    refine gs_imul rfl ?_
    obtain ⟨rfl, rfl⟩ := inj2 e
    exact gs_iret rfl rfl rfl rfl rfl
  · rw [if_pos c6] at e
    refine gs_iconst (x := 3) rfl (by decide) ?_
    refine gs_goto rfl ?_
    refine gs_imul rfl ?_
    obtain ⟨rfl, rfl⟩ := inj2 e
    exact gs_iret rfl rfl rfl rfl rfl
def fn_X9_givenSize (p1 : Int32) (p2 : Int32) (f : pd_M) : Option (Int32 × pd_M) :=
  ob1 (if p2 = 3 then
  ob1 (fn_X9_began 12 f) fun f3 =>
  some (f3)
  else
  some (f)) fun (f2 : pd_M) =>
  ob1 (fn_X9_began 11 f2) fun f5 =>
  ob2 (fn_X9_aboutHowMany p1 f5) fun r7 f8 =>
  if pa_in p1 20 = true then
  ob1 (fn_X9_bits (f8 128 p1.toNatClampNeg) f8) fun r11 =>
  pn ((r7 + r11)) fun x13 =>
  if p2 = 3 then
  some ((2 * x13), f8)
  else
  some (x13, f8)
  else none
set_option maxRecDepth 100000 in
set_option maxHeartbeats 4000000 in
theorem th_X9_givenSize (L : Nat) (p1 : Int32) (p2 : Int32) (f : pd_M) (q : Int32) (g : pd_M) (e : fn_X9_givenSize p1 p2 f = some (q, g)) : pr_C L 3 177 [.ref 110, .int p1, .int p2] (hH f) (some (.int q)) (hH g) := by
  refine pr_C.of (G := mt_X9_givenSize) rfl rfl ?_
  show pr_G L 2 mt_X9_givenSize (0, [(0, .ref 110), (1, .int p1), (2, .int p2)], [], hH f) _ _
  unfold fn_X9_givenSize at e
  refine gs_iload_n rfl rfl ?_
  refine gs_iconst (x := 3) rfl (by decide) ?_
  obtain ⟨f2, ev11, e⟩ := ob1_some e
  have KJ11 : pr_G L 2 mt_X9_givenSize (11, [(0, .ref 110), (1, .int p1), (2, .int p2)], [], hH f2) (some (.int q)) (hH g) := by
    refine gs_aload_n rfl rfl ?_
    refine gs_bipush (x := 11) rfl (by decide) ?_
    obtain ⟨f5, ec6, e⟩ := ob1_some e
    refine gs_callvV (st := []) rfl (pr_C_le (by decide) (th_X9_began L 11 f2 f5 ec6)) rfl rfl rfl (by decide) rfl (Or.inr (by decide)) ?_
    refine gs_aload_n rfl rfl ?_
    refine gs_iload_n rfl rfl ?_
    obtain ⟨r7, f8, ec9, e⟩ := ob2_some e
    refine gs_callvI (st := []) rfl (pr_C_le (by decide) (th_X9_aboutHowMany L p1 f5 r7 f8 ec9)) rfl rfl rfl (by decide) rfl (Or.inr (by decide)) ?_
    refine gs_aload_n rfl rfl ?_
    refine gs_get rfl (gd_r (b := 128) rfl rfl rfl) ?_
    refine gs_iload_n rfl rfl ?_
    by_cases hb10 : pa_in p1 20 = true
    case neg => rw [if_neg hb10] at e; cases e
    rw [if_pos hb10] at e
    refine gs_iald rfl (gd_ia (j := p1.toNatClampNeg) rfl hb10 rfl) ?_
    obtain ⟨r11, ec12, e⟩ := ob1_some e
    refine gs_callsI (st := [.int r7]) rfl (pr_C_le (by decide) (th_X9_bits L (f8 128 p1.toNatClampNeg) f8 r11 ec12)) rfl rfl rfl (by decide) ?_
    refine gs_iadd rfl ?_
    obtain ⟨x13, hx13, e⟩ := pn_some e
    refine gs_topi hx13 ?_
    refine gs_istore_n (lv' := [(3, .int x13), (0, .ref 110), (1, .int p1), (2, .int p2)]) rfl rfl ?_
    refine gs_iload_n rfl rfl ?_
    refine gs_iconst (x := 3) rfl (by decide) ?_
    refine gs_ne2 rfl (fun c14 => ?_) (fun c14 => ?_)
    · rw [if_neg c14] at e
      refine gs_iload_n rfl rfl ?_
      obtain ⟨rfl, rfl⟩ := inj2 e
      exact gs_iret rfl rfl rfl rfl rfl
    · rw [if_pos c14] at e
      refine gs_iconst (x := 2) rfl (by decide) ?_
      refine gs_iload_n rfl rfl ?_
      refine gs_imul rfl ?_
      refine gs_goto rfl ?_
      obtain ⟨rfl, rfl⟩ := inj2 e
      exact gs_iret rfl rfl rfl rfl rfl
  have e := ev11
  clear ev11
  refine gs_ne2 rfl (fun c1 => ?_) (fun c1 => ?_)
  · rw [if_neg c1] at e
    obtain rfl := inj1 e
    refine gs_drop [0, 1, 2] rfl ?_
    exact KJ11
  · rw [if_pos c1] at e
    refine gs_aload_n rfl rfl ?_
    refine gs_bipush (x := 12) rfl (by decide) ?_
    obtain ⟨f3, ec4, e⟩ := ob1_some e
    refine gs_callvV (st := []) rfl (pr_C_le (by decide) (th_X9_began L 12 f f3 ec4)) rfl rfl rfl (by decide) rfl (Or.inr (by decide)) ?_
    obtain rfl := inj1 e
    refine gs_drop [0, 1, 2] rfl ?_
    exact KJ11
def fn_X9_markOf (p1 : Int32) (p2 : Int32) (f : pd_M) : Option (Int32 × pd_M) :=
  ob1 (if p2 = 4 then
  ob1 (fn_X9_began 22 f) fun f3 =>
  some (f3)
  else
  some (f)) fun (f2 : pd_M) =>
  ob1 (if p2 = 5 then
  ob1 (if p2 = 5 then
  some (23)
  else
  some (21)) fun (v8 : Int32) =>
  ob1 (fn_X9_began v8 f2) fun f9 =>
  some (f9)
  else
  if (fn_X9_isOf p2 1) = 0 then
  some (f2)
  else
  ob1 (if p2 = 5 then
  some (23)
  else
  some (21)) fun (v13 : Int32) =>
  ob1 (fn_X9_began v13 f2) fun f14 =>
  some (f14)) fun (f6 : pd_M) =>
  ob1 (fn_X9_began 20 f6) fun f16 =>
  ob1 (if p2 = 5 then
  some (1000)
  else
  if (fn_X9_isOf p2 1) = 0 then
  some (0)
  else
  some (100)) fun (v19 : Int32) =>
  pn ((p1 + v19)) fun x21 =>
  if p2 = 4 then
  ob2 (fn_X9_givenSize p1 p2 f16) fun r23 f24 =>
  some ((x21 + r23), f24)
  else
  some (x21, f16)
set_option maxRecDepth 100000 in
set_option maxHeartbeats 4000000 in
theorem th_X9_markOf (L : Nat) (p1 : Int32) (p2 : Int32) (f : pd_M) (q : Int32) (g : pd_M) (e : fn_X9_markOf p1 p2 f = some (q, g)) : pr_C L 4 178 [.ref 110, .int p1, .int p2] (hH f) (some (.int q)) (hH g) := by
  refine pr_C.of (G := mt_X9_markOf) rfl rfl ?_
  show pr_G L 3 mt_X9_markOf (0, [(0, .ref 110), (1, .int p1), (2, .int p2)], [], hH f) _ _
  unfold fn_X9_markOf at e
  refine gs_iload_n rfl rfl ?_
  refine gs_iconst (x := 4) rfl (by decide) ?_
  obtain ⟨f2, ev11, e⟩ := ob1_some e
  have KJ11 : pr_G L 3 mt_X9_markOf (11, [(0, .ref 110), (1, .int p1), (2, .int p2)], [], hH f2) (some (.int q)) (hH g) := by
    refine gs_iload_n rfl rfl ?_
    refine gs_iconst (x := 5) rfl (by decide) ?_
    obtain ⟨f6, ev40, e⟩ := ob1_some e
    have KJ40 : pr_G L 3 mt_X9_markOf (40, [(0, .ref 110), (1, .int p1), (2, .int p2)], [], hH f6) (some (.int q)) (hH g) := by
      refine gs_aload_n rfl rfl ?_
      refine gs_bipush (x := 20) rfl (by decide) ?_
      obtain ⟨f16, ec17, e⟩ := ob1_some e
      refine gs_callvV (st := []) rfl (pr_C_le (by decide) (th_X9_began L 20 f6 f16 ec17)) rfl rfl rfl (by decide) rfl (Or.inr (by decide)) ?_
      refine gs_iload_n rfl rfl ?_
      refine gs_iload_n rfl rfl ?_
      refine gs_iconst (x := 5) rfl (by decide) ?_
      obtain ⟨v19, ev72, e⟩ := ob1_some e
      have KJ72 : pr_G L 3 mt_X9_markOf (72, [(0, .ref 110), (1, .int p1), (2, .int p2)], [.int v19, .int p1], hH f16) (some (.int q)) (hH g) := by
        refine gs_iadd rfl ?_
        obtain ⟨x21, hx21, e⟩ := pn_some e
        refine gs_topi hx21 ?_
        refine gs_istore_n (lv' := [(3, .int x21), (0, .ref 110), (1, .int p1), (2, .int p2)]) rfl rfl ?_
        refine gs_iload_n rfl rfl ?_
        refine gs_iconst (x := 4) rfl (by decide) ?_
        refine gs_ne2 rfl (fun c22 => ?_) (fun c22 => ?_)
        · rw [if_neg c22] at e
          refine gs_iload_n rfl rfl ?_
          obtain ⟨rfl, rfl⟩ := inj2 e
          exact gs_iret rfl rfl rfl rfl rfl
        · rw [if_pos c22] at e
          refine gs_iload_n rfl rfl ?_
          refine gs_aload_n rfl rfl ?_
          refine gs_iload_n rfl rfl ?_
          refine gs_iload_n rfl rfl ?_
          obtain ⟨r23, f24, ec25, e⟩ := ob2_some e
          refine gs_callvI (st := [.int x21]) rfl (pr_C_le (by decide) (th_X9_givenSize L p1 p2 f16 r23 f24 ec25)) rfl rfl rfl (by decide) rfl (Or.inr (by decide)) ?_
          refine gs_iadd rfl ?_
          refine gs_goto rfl ?_
          obtain ⟨rfl, rfl⟩ := inj2 e
          exact gs_iret rfl rfl rfl rfl rfl
      have e := ev72
      clear ev72
      refine gs_ne2 rfl (fun c18 => ?_) (fun c18 => ?_)
      · rw [if_neg c18] at e
        refine gs_iload_n rfl rfl ?_
        refine gs_iconst (x := 1) rfl (by decide) ?_
        refine gs_callsI (st := [.int p1]) rfl (pr_C_le (by decide) (th_X9_isOf L p2 1 f16 _ rfl)) rfl rfl rfl (by decide) ?_
        refine gs_eq0 rfl (fun c20 => ?_) (fun c20 => ?_)
        · rw [if_pos c20] at e
          refine gs_iconst (x := 0) rfl (by decide) ?_
          obtain rfl := inj1 e
          refine gs_drop [0, 1, 2] rfl ?_
          exact KJ72
        · rw [if_neg c20] at e
          refine gs_bipush (x := 100) rfl (by decide) ?_
          refine gs_goto rfl ?_
          obtain rfl := inj1 e
          refine gs_drop [0, 1, 2] rfl ?_
          exact KJ72
      · rw [if_pos c18] at e
        refine gs_sipush (x := 1000) rfl (by decide) ?_
        refine gs_goto rfl ?_
        obtain rfl := inj1 e
        refine gs_drop [0, 1, 2] rfl ?_
        exact KJ72
    have e := ev40
    clear ev40
    refine gs_eq2 rfl (fun c5 => ?_) (fun c5 => ?_)
    · rw [if_pos c5] at e
      refine gs_aload_n rfl rfl ?_
      refine gs_iload_n rfl rfl ?_
      refine gs_iconst (x := 5) rfl (by decide) ?_
      obtain ⟨v8, ev37, e⟩ := ob1_some e
      have KJ37 : pr_G L 3 mt_X9_markOf (37, [(0, .ref 110), (1, .int p1), (2, .int p2)], [.int v8, .ref 110], hH f2) (some (.int q)) (hH g) := by
        obtain ⟨f9, ec10, e⟩ := ob1_some e
        refine gs_callvV (st := []) rfl (pr_C_le (by decide) (th_X9_began L v8 f2 f9 ec10)) rfl rfl rfl (by decide) rfl (Or.inr (by decide)) ?_
        obtain rfl := inj1 e
        refine gs_drop [0, 1, 2] rfl ?_
        exact KJ40
      have e := ev37
      clear ev37
      refine gs_ne2 rfl (fun c7 => ?_) (fun c7 => ?_)
      · rw [if_neg c7] at e
        refine gs_bipush (x := 21) rfl (by decide) ?_
        obtain rfl := inj1 e
        refine gs_drop [0, 1, 2] rfl ?_
        exact KJ37
      · rw [if_pos c7] at e
        refine gs_bipush (x := 23) rfl (by decide) ?_
        refine gs_goto rfl ?_
        obtain rfl := inj1 e
        refine gs_drop [0, 1, 2] rfl ?_
        exact KJ37
    · rw [if_neg c5] at e
      refine gs_iload_n rfl rfl ?_
      refine gs_iconst (x := 1) rfl (by decide) ?_
      refine gs_callsI (st := []) rfl (pr_C_le (by decide) (th_X9_isOf L p2 1 f2 _ rfl)) rfl rfl rfl (by decide) ?_
      refine gs_eq0 rfl (fun c11 => ?_) (fun c11 => ?_)
      · rw [if_pos c11] at e
        obtain rfl := inj1 e
        refine gs_drop [0, 1, 2] rfl ?_
        exact KJ40
      · rw [if_neg c11] at e
        refine gs_aload_n rfl rfl ?_
        refine gs_iload_n rfl rfl ?_
        refine gs_iconst (x := 5) rfl (by decide) ?_
        obtain ⟨v13, ev37, e⟩ := ob1_some e
        have KJ37 : pr_G L 3 mt_X9_markOf (37, [(0, .ref 110), (1, .int p1), (2, .int p2)], [.int v13, .ref 110], hH f2) (some (.int q)) (hH g) := by
          obtain ⟨f14, ec15, e⟩ := ob1_some e
          refine gs_callvV (st := []) rfl (pr_C_le (by decide) (th_X9_began L v13 f2 f14 ec15)) rfl rfl rfl (by decide) rfl (Or.inr (by decide)) ?_
          obtain rfl := inj1 e
          refine gs_drop [0, 1, 2] rfl ?_
          exact KJ40
        have e := ev37
        clear ev37
        refine gs_ne2 rfl (fun c12 => ?_) (fun c12 => ?_)
        · rw [if_neg c12] at e
          refine gs_bipush (x := 21) rfl (by decide) ?_
          obtain rfl := inj1 e
          refine gs_drop [0, 1, 2] rfl ?_
          exact KJ37
        · rw [if_pos c12] at e
          refine gs_bipush (x := 23) rfl (by decide) ?_
          refine gs_goto rfl ?_
          obtain rfl := inj1 e
          refine gs_drop [0, 1, 2] rfl ?_
          exact KJ37
  have e := ev11
  clear ev11
  refine gs_ne2 rfl (fun c1 => ?_) (fun c1 => ?_)
  · rw [if_neg c1] at e
    obtain rfl := inj1 e
    refine gs_drop [0, 1, 2] rfl ?_
    exact KJ11
  · rw [if_pos c1] at e
    refine gs_aload_n rfl rfl ?_
    refine gs_bipush (x := 22) rfl (by decide) ?_
    obtain ⟨f3, ec4, e⟩ := ob1_some e
    refine gs_callvV (st := []) rfl (pr_C_le (by decide) (th_X9_began L 22 f f3 ec4)) rfl rfl rfl (by decide) rfl (Or.inr (by decide)) ?_
    obtain rfl := inj1 e
    refine gs_drop [0, 1, 2] rfl ?_
    exact KJ11
def fn_X9_sizeOf (p1 : Int32) (p2 : Int32) (f : pd_M) : Option (Int32 × pd_M) :=
  if (fn_X9_isOf p2 1) = 0 then
  ob1 (if p2 = 2 then
  some (13)
  else
  some (14)) fun (v3 : Int32) =>
  ob1 (fn_X9_began v3 f) fun f4 =>
  ob2 (fn_X9_aboutHowMany p1 f4) fun r6 f7 =>
  if p2 = 2 then
  ob2 (fn_X9_markOf p1 p2 f7) fun r10 f11 =>
  some ((r6 - r10), f11)
  else
  some ((-r6), f7)
  else
  ob2 (fn_X9_givenSize p1 p2 f) fun r13 f14 =>
  some (r13, f14)
set_option maxRecDepth 100000 in
set_option maxHeartbeats 4000000 in
theorem th_X9_sizeOf (L : Nat) (p1 : Int32) (p2 : Int32) (f : pd_M) (q : Int32) (g : pd_M) (e : fn_X9_sizeOf p1 p2 f = some (q, g)) : pr_C L 5 179 [.ref 110, .int p1, .int p2] (hH f) (some (.int q)) (hH g) := by
  refine pr_C.of (G := mt_X9_sizeOf) rfl rfl ?_
  show pr_G L 4 mt_X9_sizeOf (0, [(0, .ref 110), (1, .int p1), (2, .int p2)], [], hH f) _ _
  unfold fn_X9_sizeOf at e
  refine gs_iload_n rfl rfl ?_
  refine gs_iconst (x := 1) rfl (by decide) ?_
  refine gs_callsI (st := []) rfl (pr_C_le (by decide) (th_X9_isOf L p2 1 f _ rfl)) rfl rfl rfl (by decide) ?_
  refine gs_eq0 rfl (fun c1 => ?_) (fun c1 => ?_)
  · rw [if_pos c1] at e
    refine gs_aload_n rfl rfl ?_
    refine gs_iload_n rfl rfl ?_
    refine gs_iconst (x := 2) rfl (by decide) ?_
    obtain ⟨v3, ev28, e⟩ := ob1_some e
    have KJ28 : pr_G L 4 mt_X9_sizeOf (28, [(0, .ref 110), (1, .int p1), (2, .int p2)], [.int v3, .ref 110], hH f) (some (.int q)) (hH g) := by
      obtain ⟨f4, ec5, e⟩ := ob1_some e
      refine gs_callvV (st := []) rfl (pr_C_le (by decide) (th_X9_began L v3 f f4 ec5)) rfl rfl rfl (by decide) rfl (Or.inr (by decide)) ?_
      refine gs_aload_n rfl rfl ?_
      refine gs_iload_n rfl rfl ?_
      obtain ⟨r6, f7, ec8, e⟩ := ob2_some e
      refine gs_callvI (st := []) rfl (pr_C_le (by decide) (th_X9_aboutHowMany L p1 f4 r6 f7 ec8)) rfl rfl rfl (by decide) rfl (Or.inr (by decide)) ?_
      refine gs_istore_n (lv' := [(3, .int r6), (0, .ref 110), (1, .int p1), (2, .int p2)]) rfl rfl ?_
      refine gs_iload_n rfl rfl ?_
      refine gs_iconst (x := 2) rfl (by decide) ?_
      refine gs_ne2 rfl (fun c9 => ?_) (fun c9 => ?_)
      · rw [if_neg c9] at e
        refine gs_iload_n rfl rfl ?_
        refine gs_ineg rfl ?_
        obtain ⟨rfl, rfl⟩ := inj2 e
        exact gs_iret rfl rfl rfl rfl rfl
      · rw [if_pos c9] at e
        refine gs_iload_n rfl rfl ?_
        refine gs_aload_n rfl rfl ?_
        refine gs_iload_n rfl rfl ?_
        refine gs_iload_n rfl rfl ?_
        obtain ⟨r10, f11, ec12, e⟩ := ob2_some e
        refine gs_callvI (st := [.int r6]) rfl (pr_C_le (by decide) (th_X9_markOf L p1 p2 f7 r10 f11 ec12)) rfl rfl rfl (by decide) rfl (Or.inr (by decide)) ?_
        refine gs_isub rfl ?_
        refine gs_goto rfl ?_
        obtain ⟨rfl, rfl⟩ := inj2 e
        exact gs_iret rfl rfl rfl rfl rfl
    have e := ev28
    clear ev28
    refine gs_ne2 rfl (fun c2 => ?_) (fun c2 => ?_)
    · rw [if_neg c2] at e
      refine gs_bipush (x := 14) rfl (by decide) ?_
      obtain rfl := inj1 e
      refine gs_drop [0, 1, 2] rfl ?_
      exact KJ28
    · rw [if_pos c2] at e
      refine gs_bipush (x := 13) rfl (by decide) ?_
      refine gs_goto rfl ?_
      obtain rfl := inj1 e
      refine gs_drop [0, 1, 2] rfl ?_
      exact KJ28
  · rw [if_neg c1] at e
    refine gs_aload_n rfl rfl ?_
    refine gs_iload_n rfl rfl ?_
    refine gs_iload_n rfl rfl ?_
    obtain ⟨r13, f14, ec15, e⟩ := ob2_some e
    refine gs_callvI (st := []) rfl (pr_C_le (by decide) (th_X9_givenSize L p1 p2 f r13 f14 ec15)) rfl rfl rfl (by decide) rfl (Or.inr (by decide)) ?_
    obtain ⟨rfl, rfl⟩ := inj2 e
    exact gs_iret rfl rfl rfl rfl rfl
def fn_X9_ask (p1 : Int32) (p2 : Int32) (f : pd_M) : Option (Int32 × pd_M) :=
  pn ((pi_up f 110 0 0)) fun f1 =>
  ob1 (fn_X9_isSaying p1 f1) fun r2 =>
  if r2 = 0 then
  some ((-1000001), f1)
  else
  if (fn_X9_in (p2.toInt64) 0 1) = 0 then
  some ((-1000001), f1)
  else
  pn ((pi_up f1 110 43 0)) fun f6 =>
  if p2 = 0 then
  ob1 (fn_X9_kindOf p1 f6) fun r13 =>
  ob2 (fn_X9_sizeOf p1 r13 f6) fun r15 f16 =>
  some (r15, f16)
  else
  ob1 (fn_X9_kindOf p1 f6) fun r8 =>
  ob2 (fn_X9_markOf p1 r8 f6) fun r10 f11 =>
  some (r10, f11)
set_option maxRecDepth 100000 in
set_option maxHeartbeats 4000000 in
theorem th_X9_ask (L : Nat) (p1 : Int32) (p2 : Int32) (f : pd_M) (q : Int32) (g : pd_M) (e : fn_X9_ask p1 p2 f = some (q, g)) : pr_C L 6 180 [.ref 110, .int p1, .int p2] (hH f) (some (.int q)) (hH g) := by
  refine pr_C.of (G := mt_X9_ask) rfl rfl ?_
  show pr_G L 5 mt_X9_ask (0, [(0, .ref 110), (1, .int p1), (2, .int p2)], [], hH f) _ _
  unfold fn_X9_ask at e
  refine gs_aload_n rfl rfl ?_
  refine gs_iconst (x := 0) rfl (by decide) ?_
  refine gs_put rfl (gd_pi rfl rfl) ?_
  obtain ⟨f1, hf1, e⟩ := pn_some e
  refine gs_heap hf1 ?_
  refine gs_aload_n rfl rfl ?_
  refine gs_iload_n rfl rfl ?_
  obtain ⟨r2, ec3, e⟩ := ob1_some e
  refine gs_callvI (st := []) rfl (pr_C_le (by decide) (th_X9_isSaying L p1 f1 r2 ec3)) rfl rfl rfl (by decide) rfl (Or.inr (by decide)) ?_
  refine gs_eq0 rfl (fun c4 => ?_) (fun c4 => ?_)
  · rw [if_pos c4] at e
    refine gs_ldc (x := (-1000001)) rfl (by decide) ?_
    obtain ⟨rfl, rfl⟩ := inj2 e
    exact gs_iret rfl rfl rfl rfl rfl
  · rw [if_neg c4] at e
    refine gs_iload_n rfl rfl ?_
    refine gs_i2l rfl ?_
    refine gs_lconst (w := 0) rfl (by decide) ?_
    refine gs_lconst (w := 1) rfl (by decide) ?_
    refine gs_callsI (st := []) rfl (pr_C_le (by decide) (th_X9_in L (p2.toInt64) 0 1 f1 _ rfl)) rfl rfl rfl (by decide) ?_
    refine gs_ne0 rfl (fun c5 => ?_) (fun c5 => ?_)
    · rw [if_neg c5] at e
      refine gs_aload_n rfl rfl ?_
      refine gs_iconst (x := 0) rfl (by decide) ?_
      refine gs_put rfl (gd_pi rfl rfl) ?_
      obtain ⟨f6, hf6, e⟩ := pn_some e
      refine gs_heap hf6 ?_
      refine gs_iload_n rfl rfl ?_
      refine gs_ne0 rfl (fun c7 => ?_) (fun c7 => ?_)
      · rw [if_neg c7] at e
        refine gs_aload_n rfl rfl ?_
        refine gs_iload_n rfl rfl ?_
        refine gs_aload_n rfl rfl ?_
        refine gs_iload_n rfl rfl ?_
        obtain ⟨r8, ec9, e⟩ := ob1_some e
        refine gs_callvI (st := [.int p1, .ref 110]) rfl (pr_C_le (by decide) (th_X9_kindOf L p1 f6 r8 ec9)) rfl rfl rfl (by decide) rfl (Or.inr (by decide)) ?_
        obtain ⟨r10, f11, ec12, e⟩ := ob2_some e
        refine gs_callvI (st := []) rfl (pr_C_le (by decide) (th_X9_markOf L p1 r8 f6 r10 f11 ec12)) rfl rfl rfl (by decide) rfl (Or.inr (by decide)) ?_
        obtain ⟨rfl, rfl⟩ := inj2 e
        exact gs_iret rfl rfl rfl rfl rfl
      · rw [if_pos c7] at e
        refine gs_aload_n rfl rfl ?_
        refine gs_iload_n rfl rfl ?_
        refine gs_aload_n rfl rfl ?_
        refine gs_iload_n rfl rfl ?_
        obtain ⟨r13, ec14, e⟩ := ob1_some e
        refine gs_callvI (st := [.int p1, .ref 110]) rfl (pr_C_le (by decide) (th_X9_kindOf L p1 f6 r13 ec14)) rfl rfl rfl (by decide) rfl (Or.inr (by decide)) ?_
        obtain ⟨r15, f16, ec17, e⟩ := ob2_some e
        refine gs_callvI (st := []) rfl (pr_C_le (by decide) (th_X9_sizeOf L p1 r13 f6 r15 f16 ec17)) rfl rfl rfl (by decide) rfl (Or.inr (by decide)) ?_
        refine gs_goto rfl ?_
        obtain ⟨rfl, rfl⟩ := inj2 e
        exact gs_iret rfl rfl rfl rfl rfl
    · rw [if_pos c5] at e
      refine gs_ldc (x := (-1000001)) rfl (by decide) ?_
      obtain ⟨rfl, rfl⟩ := inj2 e
      exact gs_iret rfl rfl rfl rfl rfl
def fn_X9_trace (p1 : Int32) (f : pd_M) : Option (Int32 × pd_M) :=
  pn ((pi_up f 110 0 0)) fun f1 =>
  if (fn_X9_in (p1.toInt64) 0 (((f1 110 43) - 1).toInt64)) = 0 then
  some ((-1000000), f1)
  else
  if pa_in p1 16 = true then
  some ((f1 140 p1.toNatClampNeg), f1)
  else none
set_option maxRecDepth 100000 in
set_option maxHeartbeats 4000000 in
theorem th_X9_trace (L : Nat) (p1 : Int32) (f : pd_M) (q : Int32) (g : pd_M) (e : fn_X9_trace p1 f = some (q, g)) : pr_C L 2 181 [.ref 110, .int p1] (hH f) (some (.int q)) (hH g) := by
  refine pr_C.of (G := mt_X9_trace) rfl rfl ?_
  show pr_G L 1 mt_X9_trace (0, [(0, .ref 110), (1, .int p1)], [], hH f) _ _
  unfold fn_X9_trace at e
  refine gs_aload_n rfl rfl ?_
  refine gs_iconst (x := 0) rfl (by decide) ?_
  refine gs_put rfl (gd_pi rfl rfl) ?_
  obtain ⟨f1, hf1, e⟩ := pn_some e
  refine gs_heap hf1 ?_
  refine gs_iload_n rfl rfl ?_
  refine gs_i2l rfl ?_
  refine gs_lconst (w := 0) rfl (by decide) ?_
  refine gs_aload_n rfl rfl ?_
  refine gs_get rfl (gd_i rfl rfl) ?_
  refine gs_iconst (x := 1) rfl (by decide) ?_
  refine gs_isub rfl ?_
  refine gs_i2l rfl ?_
  refine gs_callsI (st := []) rfl (pr_C_le (by decide) (th_X9_in L (p1.toInt64) 0 (((f1 110 43) - 1).toInt64) f1 _ rfl)) rfl rfl rfl (by decide) ?_
  refine gs_eq0 rfl (fun c2 => ?_) (fun c2 => ?_)
  · rw [if_pos c2] at e
    refine gs_ldc (x := (-1000000)) rfl (by decide) ?_
    obtain ⟨rfl, rfl⟩ := inj2 e
    exact gs_iret rfl rfl rfl rfl rfl
  · rw [if_neg c2] at e
    refine gs_aload_n rfl rfl ?_
    refine gs_get rfl (gd_r (b := 140) rfl rfl rfl) ?_
    refine gs_iload_n rfl rfl ?_
    by_cases hb3 : pa_in p1 16 = true
    case neg => rw [if_neg hb3] at e; cases e
    rw [if_pos hb3] at e
    refine gs_iald rfl (gd_ia (j := p1.toNatClampNeg) rfl hb3 rfl) ?_
    refine gs_goto rfl ?_
    obtain ⟨rfl, rfl⟩ := inj2 e
    exact gs_iret rfl rfl rfl rfl rfl
def lp_X9_isKeptBySome_4 : Nat → Int32 → Int32 → Int32 → pd_M → Option (Int32)
  | 0, _, _, _, _ => none
  | n + 1, z1, z2, z3, f =>
    if pa_in z1 20 = true then
    if pa_in (f 123 z1.toNatClampNeg) 4 = true then
    if (f 114 (f 123 z1.toNatClampNeg).toNatClampNeg) ≤ z3 then
    some (z2)
    else
    ob1 (if z2 = 0 then
    ob1 (fn_X9_isKept z1 z3 f) fun r6 =>
    if r6 = 0 then
    some (0)
    else
    some (1)
    else
    some (1)) fun (v5 : Int32) =>
    pn (z3 + 1) fun x9 =>
    lp_X9_isKeptBySome_4 n z1 v5 x9 f
    else none
    else none
def fn_X9_isKeptBySome (p1 : Int32) (f : pd_M) : Option (Int32) :=
  ob1 (lp_X9_isKeptBySome_4 5000 p1 0 0 f) fun y10 =>
  if y10 = 0 ∨ y10 = 1 then some y10 else none
set_option maxRecDepth 100000 in
set_option maxHeartbeats 4000000 in
theorem tl_X9_isKeptBySome_4 (L : Nat) : ∀ (n : Nat) (z1 : Int32) (z2 : Int32) (z3 : Int32) (f : pd_M) (w0 : Int32) (r : Option Value) (h2 : ph_T), lp_X9_isKeptBySome_4 n z1 z2 z3 f = some (w0) → pr_G L 4 mt_X9_isKeptBySome (44, [(2, .int w0)], [], hH f) r h2 → pr_G L 4 mt_X9_isKeptBySome (4, [(0, .ref 110), (1, .int z1), (2, .int z2), (3, .int z3)], [], hH f) r h2 := by
  intro n
  induction n with
  | zero => intro z1 z2 z3 f w0 r h2 e; cases e
  | succ n ih =>
    intro z1 z2 z3 f w0 r h2 e K
    unfold lp_X9_isKeptBySome_4 at e
    refine gs_iload_n rfl rfl ?_
    refine gs_aload_n rfl rfl ?_
    refine gs_get rfl (gd_r (b := 114) rfl rfl rfl) ?_
    refine gs_aload_n rfl rfl ?_
    refine gs_get rfl (gd_r (b := 123) rfl rfl rfl) ?_
    refine gs_iload_n rfl rfl ?_
    by_cases hb1 : pa_in z1 20 = true
    case neg => rw [if_neg hb1] at e; cases e
    rw [if_pos hb1] at e
    refine gs_iald rfl (gd_ia (j := z1.toNatClampNeg) rfl hb1 rfl) ?_
    by_cases hb2 : pa_in (f 123 z1.toNatClampNeg) 4 = true
    case neg => rw [if_neg hb2] at e; cases e
    rw [if_pos hb2] at e
    refine gs_iald rfl (gd_ia (j := (f 123 z1.toNatClampNeg).toNatClampNeg) rfl hb2 rfl) ?_
    refine gs_ge2 rfl (fun c3 => ?_) (fun c3 => ?_)
    · rw [if_pos c3] at e
      obtain rfl := inj1 e
      refine gs_drop [2] rfl ?_
      exact K
    · rw [if_neg c3] at e
      refine gs_iload_n rfl rfl ?_
      obtain ⟨v5, ev37, e⟩ := ob1_some e
      have KJ37 : pr_G L 4 mt_X9_isKeptBySome (37, [(0, .ref 110), (1, .int z1), (3, .int z3)], [.int v5], hH f) r h2 := by
        refine gs_istore_n (lv' := [(2, .int v5), (0, .ref 110), (1, .int z1), (3, .int z3)]) rfl rfl ?_
        obtain ⟨x9, hx9, e⟩ := pn_some e
        refine gs_iinc1 (x1 := x9) (c := 1) (lv' := [(3, .int x9), (2, .int v5), (0, .ref 110), (1, .int z1)]) rfl rfl (by decide) hx9 rfl ?_
        refine gs_goto rfl ?_
        refine gs_drop [2, 3, 1, 0] rfl ?_
        exact ih z1 v5 x9 f w0 _ _ e K
      have e := ev37
      clear ev37
      refine gs_ne0 rfl (fun c4 => ?_) (fun c4 => ?_)
      · rw [if_neg c4] at e
        refine gs_iconst (x := 1) rfl (by decide) ?_
        refine gs_goto rfl ?_
        obtain rfl := inj1 e
        refine gs_drop [0, 1, 3] rfl ?_
        exact KJ37
      · rw [if_pos c4] at e
        refine gs_aload_n rfl rfl ?_
        refine gs_iload_n rfl rfl ?_
        refine gs_iload_n rfl rfl ?_
        obtain ⟨r6, ec7, e⟩ := ob1_some e
        refine gs_callvI (st := []) rfl (pr_C_le (by decide) (th_X9_isKept L z1 z3 f r6 ec7)) rfl rfl rfl (by decide) rfl (Or.inr (by decide)) ?_
        refine gs_eq0 rfl (fun c8 => ?_) (fun c8 => ?_)
        · rw [if_pos c8] at e
          refine gs_iconst (x := 0) rfl (by decide) ?_
          obtain rfl := inj1 e
          refine gs_drop [0, 1, 3] rfl ?_
          exact KJ37
        · rw [if_neg c8] at e
          refine gs_iconst (x := 1) rfl (by decide) ?_
          refine gs_goto rfl ?_
          obtain rfl := inj1 e
          refine gs_drop [0, 1, 3] rfl ?_
          exact KJ37
set_option maxRecDepth 100000 in
set_option maxHeartbeats 4000000 in
theorem th_X9_isKeptBySome (L : Nat) (p1 : Int32) (f : pd_M) (q : Int32) (e : fn_X9_isKeptBySome p1 f = some q) : pr_C L 5 182 [.ref 110, .int p1] (hH f) (some (.int q)) (hH f) := by
  refine pr_C.of (G := mt_X9_isKeptBySome) rfl rfl ?_
  show pr_G L 4 mt_X9_isKeptBySome (0, [(0, .ref 110), (1, .int p1)], [], hH f) _ _
  unfold fn_X9_isKeptBySome at e
  refine gs_iconst (x := 0) rfl (by decide) ?_
  refine gs_istore_n (lv' := [(2, .int 0), (0, .ref 110), (1, .int p1)]) rfl rfl ?_
  refine gs_iconst (x := 0) rfl (by decide) ?_
  refine gs_istore_n (lv' := [(3, .int 0), (2, .int 0), (0, .ref 110), (1, .int p1)]) rfl rfl ?_
  refine gs_drop [2, 3, 1, 0] rfl ?_
  obtain ⟨y10, el11, e⟩ := ob1_some e
  refine tl_X9_isKeptBySome_4 L 5000 p1 0 0 f y10 _ _ el11 ?_
  refine gs_iload_n rfl rfl ?_
  by_cases hz : y10 = 0 ∨ y10 = 1
  · rw [if_pos hz] at e
    obtain rfl := inj1 e
    exact gs_iret rfl rfl (nar_z hz) rfl rfl
  · rw [if_neg hz] at e
    cases e
