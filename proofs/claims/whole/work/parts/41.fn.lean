def fn_X2_become (a0 : Nat) (p1 : Nat) (f : pd_M) : Option (pd_M) :=
  if sk a0 = (12, 5) then
  if sk p1 = (12, 5) then
  if pd_cp 0 0 4 4 4 = true then
  pn ((pi_row f (a0 + 1) (va_cpy (f (p1 + 1)) (f (a0 + 1)) ((0 : Int32)).toNatClampNeg ((0 : Int32)).toNatClampNeg ((4 : Int32)).toNatClampNeg))) fun f2 =>
  if pd_cp 0 0 16 16 16 = true then
  pn ((pi_row f2 (a0 + 2) (va_cpy (f2 (p1 + 2)) (f2 (a0 + 2)) ((0 : Int32)).toNatClampNeg ((0 : Int32)).toNatClampNeg ((16 : Int32)).toNatClampNeg))) fun f4 =>
  if pd_cp 0 0 4 4 4 = true then
  pn ((pi_row f4 (a0 + 3) (va_cpy (f4 (p1 + 3)) (f4 (a0 + 3)) ((0 : Int32)).toNatClampNeg ((0 : Int32)).toNatClampNeg ((4 : Int32)).toNatClampNeg))) fun f6 =>
  if pd_cp 0 0 4 4 4 = true then
  pn ((pi_row f6 (a0 + 4) (va_cpy (f6 (p1 + 4)) (f6 (a0 + 4)) ((0 : Int32)).toNatClampNeg ((0 : Int32)).toNatClampNeg ((4 : Int32)).toNatClampNeg))) fun f8 =>
  pn ((pi_up f8 a0 4 (f8 p1 4))) fun f9 =>
  some f9
  else none
  else none
  else none
  else none
  else none
  else none
set_option maxRecDepth 100000 in
set_option maxHeartbeats 4000000 in
theorem th_X2_become (L : Nat) (a0 : Nat) (p1 : Nat) (f : pd_M) (g : pd_M) (e : fn_X2_become a0 p1 f = some g) : pr_C L 1 11 [.ref a0, .ref p1] (hH f) none (hH g) := by
  refine pr_C.of (G := mt_X2_become) rfl rfl ?_
  show pr_G L 0 mt_X2_become (0, [(0, .ref a0), (1, .ref p1)], [], hH f) _ _
  unfold fn_X2_become at e
  by_cases hk0 : sk a0 = (12, 5)
  case neg => rw [if_neg hk0] at e; cases e
  rw [if_pos hk0] at e
  by_cases hk1 : sk p1 = (12, 5)
  case neg => rw [if_neg hk1] at e; cases e
  rw [if_pos hk1] at e
  refine gs_aload_n rfl rfl ?_
  refine gs_get rfl (gd_r (b := (p1 + 1)) (sh_of hk1 (by decide)) rfl (ref_12_0 hk1)) ?_
  refine gs_iconst (x := 0) rfl (by decide) ?_
  refine gs_aload_n rfl rfl ?_
  refine gs_get rfl (gd_r (b := (a0 + 1)) (sh_of hk0 (by decide)) rfl (ref_12_0 hk0)) ?_
  refine gs_iconst (x := 0) rfl (by decide) ?_
  refine gs_iconst (x := 4) rfl (by decide) ?_
  by_cases hb1 : pd_cp 0 0 4 4 4 = true
  case neg => rw [if_neg hb1] at e; cases e
  rw [if_pos hb1] at e
  refine gs_cpy rfl (gd_cp (sh_of (fam_12_0 hk1) (by decide)) (sh_of (fam_12_0 hk0) (by decide)) (ge_of (fam_12_0 hk1) (by decide)) (ge_of (fam_12_0 hk0) (by decide)) hb1) ?_
  obtain ⟨f2, hf2, e⟩ := pn_some e
  refine gs_heap hf2 ?_
  refine gs_aload_n rfl rfl ?_
  refine gs_get rfl (gd_r (b := (p1 + 2)) (sh_of hk1 (by decide)) rfl (ref_12_1 hk1)) ?_
  refine gs_iconst (x := 0) rfl (by decide) ?_
  refine gs_aload_n rfl rfl ?_
  refine gs_get rfl (gd_r (b := (a0 + 2)) (sh_of hk0 (by decide)) rfl (ref_12_1 hk0)) ?_
  refine gs_iconst (x := 0) rfl (by decide) ?_
  refine gs_bipush (x := 16) rfl (by decide) ?_
  by_cases hb3 : pd_cp 0 0 16 16 16 = true
  case neg => rw [if_neg hb3] at e; cases e
  rw [if_pos hb3] at e
  refine gs_cpy rfl (gd_cp (sh_of (fam_12_1 hk1) (by decide)) (sh_of (fam_12_1 hk0) (by decide)) (ge_of (fam_12_1 hk1) (by decide)) (ge_of (fam_12_1 hk0) (by decide)) hb3) ?_
  obtain ⟨f4, hf4, e⟩ := pn_some e
  refine gs_heap hf4 ?_
  refine gs_aload_n rfl rfl ?_
  refine gs_get rfl (gd_r (b := (p1 + 3)) (sh_of hk1 (by decide)) rfl (ref_12_2 hk1)) ?_
  refine gs_iconst (x := 0) rfl (by decide) ?_
  refine gs_aload_n rfl rfl ?_
  refine gs_get rfl (gd_r (b := (a0 + 3)) (sh_of hk0 (by decide)) rfl (ref_12_2 hk0)) ?_
  refine gs_iconst (x := 0) rfl (by decide) ?_
  refine gs_iconst (x := 4) rfl (by decide) ?_
  by_cases hb5 : pd_cp 0 0 4 4 4 = true
  case neg => rw [if_neg hb5] at e; cases e
  rw [if_pos hb5] at e
  refine gs_cpy rfl (gd_cp (sh_of (fam_12_2 hk1) (by decide)) (sh_of (fam_12_2 hk0) (by decide)) (ge_of (fam_12_2 hk1) (by decide)) (ge_of (fam_12_2 hk0) (by decide)) hb5) ?_
  obtain ⟨f6, hf6, e⟩ := pn_some e
  refine gs_heap hf6 ?_
  refine gs_aload_n rfl rfl ?_
  refine gs_get rfl (gd_r (b := (p1 + 4)) (sh_of hk1 (by decide)) rfl (ref_12_3 hk1)) ?_
  refine gs_iconst (x := 0) rfl (by decide) ?_
  refine gs_aload_n rfl rfl ?_
  refine gs_get rfl (gd_r (b := (a0 + 4)) (sh_of hk0 (by decide)) rfl (ref_12_3 hk0)) ?_
  refine gs_iconst (x := 0) rfl (by decide) ?_
  refine gs_iconst (x := 4) rfl (by decide) ?_
  by_cases hb7 : pd_cp 0 0 4 4 4 = true
  case neg => rw [if_neg hb7] at e; cases e
  rw [if_pos hb7] at e
  refine gs_cpy rfl (gd_cp (sh_of (fam_12_3 hk1) (by decide)) (sh_of (fam_12_3 hk0) (by decide)) (ge_of (fam_12_3 hk1) (by decide)) (ge_of (fam_12_3 hk0) (by decide)) hb7) ?_
  obtain ⟨f8, hf8, e⟩ := pn_some e
  refine gs_heap hf8 ?_
  refine gs_aload_n rfl rfl ?_
  refine gs_aload_n rfl rfl ?_
  refine gs_get rfl (gd_i (sh_of hk1 (by decide)) rfl) ?_
  refine gs_put rfl (gd_pi (sh_of hk0 (by decide)) rfl) ?_
  obtain ⟨f9, hf9, e⟩ := pn_some e
  refine gs_heap hf9 ?_
  obtain rfl := inj1 e
  exact gs_vret rfl rfl rfl rfl
def fn_X3_place (f : pd_M) : Option (Int32) :=
  if pa_in (f 100 3) 501 = true then
  some (f 38 (f 100 3).toNatClampNeg)
  else none
set_option maxRecDepth 100000 in
set_option maxHeartbeats 4000000 in
theorem th_X3_place (L : Nat)  (f : pd_M) (q : Int32) (e : fn_X3_place f = some q) : pr_C L 1 13 [.ref 100] (hH f) (some (.int q)) (hH f) := by
  refine pr_C.of (G := mt_X3_place) rfl rfl ?_
  show pr_G L 0 mt_X3_place (0, [(0, .ref 100)], [], hH f) _ _
  unfold fn_X3_place at e
  refine gs_aload_n rfl rfl ?_
  refine gs_get rfl (gd_r (b := 35) rfl rfl rfl) ?_
  refine gs_get rfl (gd_r (b := 38) rfl rfl rfl) ?_
  refine gs_aload_n rfl rfl ?_
  refine gs_get rfl (gd_i rfl rfl) ?_
  by_cases hb1 : pa_in (f 100 3) 501 = true
  case neg => rw [if_neg hb1] at e; cases e
  rw [if_pos hb1] at e
  refine gs_sald rfl (gd_sa (j := (f 100 3).toNatClampNeg) rfl hb1 rfl) ?_
  obtain rfl := inj1 e
  exact gs_iret rfl rfl rfl rfl rfl
def fn_X3_look (p1 : Int32) (p2 : Int32) (p3 : Int32) (f : pd_M) : Option (Int32 × pd_M) :=
  if (f 100 4) = 0 then
  if pa_in (f 100 3) 501 = true then
  pn ((f 37 (f 100 3).toNatClampNeg)) fun x3 =>
  if x3 ≤ 99 then
  if x3 < p1 then
  pn ((pi_up f 100 4 2)) fun f6 =>
  some (p1, f6)
  else
  if p2 < x3 then
  pn ((pi_up f 100 4 2)) fun f8 =>
  some (p1, f8)
  else
  if 4 ≤ x3 then
  some (x3, f)
  else
  if ((p3 >>> (x3 &&& 31)) &&& 1) = 0 then
  some (x3, f)
  else
  pn ((pi_up f 100 4 2)) fun f11 =>
  some (p1, f11)
  else
  pn ((pi_up f 100 4 1)) fun f12 =>
  some (p1, f12)
  else none
  else
  some (p1, f)
set_option maxRecDepth 100000 in
set_option maxHeartbeats 4000000 in
theorem th_X3_look (L : Nat) (p1 : Int32) (p2 : Int32) (p3 : Int32) (f : pd_M) (q : Int32) (g : pd_M) (e : fn_X3_look p1 p2 p3 f = some (q, g)) : pr_C L 1 26 [.ref 100, .int p1, .int p2, .int p3] (hH f) (some (.int q)) (hH g) := by
  refine pr_C.of (G := mt_X3_look) rfl rfl ?_
  show pr_G L 0 mt_X3_look (0, [(0, .ref 100), (1, .int p1), (2, .int p2), (3, .int p3)], [], hH f) _ _
  unfold fn_X3_look at e
  refine gs_aload_n rfl rfl ?_
  refine gs_get rfl (gd_i rfl rfl) ?_
  refine gs_eq0 rfl (fun c1 => ?_) (fun c1 => ?_)
  · rw [if_pos c1] at e
    refine gs_aload_n rfl rfl ?_
    refine gs_get rfl (gd_r (b := 35) rfl rfl rfl) ?_
    refine gs_get rfl (gd_r (b := 37) rfl rfl rfl) ?_
    refine gs_aload_n rfl rfl ?_
    refine gs_get rfl (gd_i rfl rfl) ?_
    by_cases hb2 : pa_in (f 100 3) 501 = true
    case neg => rw [if_neg hb2] at e; cases e
    rw [if_pos hb2] at e
    refine gs_bald rfl (gd_ba (j := (f 100 3).toNatClampNeg) rfl hb2 rfl) ?_
    obtain ⟨x3, hx3, e⟩ := pn_some e
    refine gs_topi hx3 ?_
    refine gs_istore (lv' := [(4, .int x3), (0, .ref 100), (1, .int p1), (2, .int p2), (3, .int p3)]) rfl rfl ?_
    refine gs_iload rfl rfl ?_
    refine gs_bipush (x := 99) rfl (by decide) ?_
    refine gs_le2 rfl (fun c4 => ?_) (fun c4 => ?_)
    · rw [if_pos c4] at e
      refine gs_iload rfl rfl ?_
      refine gs_iload_n rfl rfl ?_
      refine gs_lt2 rfl (fun c5 => ?_) (fun c5 => ?_)
      · rw [if_pos c5] at e
        refine gs_aload_n rfl rfl ?_
        refine gs_iconst (x := 2) rfl (by decide) ?_
        refine gs_put rfl (gd_pi rfl rfl) ?_
        obtain ⟨f6, hf6, e⟩ := pn_some e
        refine gs_heap hf6 ?_
        refine gs_iload_n rfl rfl ?_
        obtain ⟨rfl, rfl⟩ := inj2 e
        exact gs_iret rfl rfl rfl rfl rfl
      · rw [if_neg c5] at e
        refine gs_iload rfl rfl ?_
        refine gs_iload_n rfl rfl ?_
        refine gs_gt2 rfl (fun c7 => ?_) (fun c7 => ?_)
        · rw [if_pos c7] at e
          refine gs_aload_n rfl rfl ?_
          refine gs_iconst (x := 2) rfl (by decide) ?_
          refine gs_put rfl (gd_pi rfl rfl) ?_
          obtain ⟨f8, hf8, e⟩ := pn_some e
          refine gs_heap hf8 ?_
          refine gs_iload_n rfl rfl ?_
          obtain ⟨rfl, rfl⟩ := inj2 e
          exact gs_iret rfl rfl rfl rfl rfl
        · rw [if_neg c7] at e
          refine gs_iload rfl rfl ?_
          refine gs_iconst (x := 4) rfl (by decide) ?_
          refine gs_ge2 rfl (fun c9 => ?_) (fun c9 => ?_)
          · rw [if_pos c9] at e
            refine gs_iload rfl rfl ?_
            obtain ⟨rfl, rfl⟩ := inj2 e
            exact gs_iret rfl rfl rfl rfl rfl
          · rw [if_neg c9] at e
            refine gs_iload_n rfl rfl ?_
            refine gs_iload rfl rfl ?_
            refine gs_ishr rfl ?_
            refine gs_iconst (x := 1) rfl (by decide) ?_
            refine gs_iand rfl ?_
            refine gs_eq0 rfl (fun c10 => ?_) (fun c10 => ?_)
            · rw [if_pos c10] at e
              refine gs_iload rfl rfl ?_
              obtain ⟨rfl, rfl⟩ := inj2 e
              exact gs_iret rfl rfl rfl rfl rfl
            · rw [if_neg c10] at e
              refine gs_aload_n rfl rfl ?_
              refine gs_iconst (x := 2) rfl (by decide) ?_
              refine gs_put rfl (gd_pi rfl rfl) ?_
              obtain ⟨f11, hf11, e⟩ := pn_some e
              refine gs_heap hf11 ?_
              refine gs_iload_n rfl rfl ?_
              obtain ⟨rfl, rfl⟩ := inj2 e
              exact gs_iret rfl rfl rfl rfl rfl
    · rw [if_neg c4] at e
      refine gs_aload_n rfl rfl ?_
      refine gs_iconst (x := 1) rfl (by decide) ?_
      refine gs_put rfl (gd_pi rfl rfl) ?_
      obtain ⟨f12, hf12, e⟩ := pn_some e
      refine gs_heap hf12 ?_
      refine gs_iload_n rfl rfl ?_
      obtain ⟨rfl, rfl⟩ := inj2 e
      exact gs_iret rfl rfl rfl rfl rfl
  · rw [if_neg c1] at e
    refine gs_iload_n rfl rfl ?_
    obtain ⟨rfl, rfl⟩ := inj2 e
    exact gs_iret rfl rfl rfl rfl rfl
def fn_X3_number (p1 : Int32) (p2 : Int32) (f : pd_M) : Option (Int32 × pd_M) :=
  ob2 (fn_X3_look p1 p2 0 f) fun r1 f2 =>
  if (f2 100 4) = 0 then
  pn ((pi_up f2 100 3 ((f2 100 3) + 1))) fun f5 =>
  some (r1, f5)
  else
  some (r1, f2)
set_option maxRecDepth 100000 in
set_option maxHeartbeats 4000000 in
theorem th_X3_number (L : Nat) (p1 : Int32) (p2 : Int32) (f : pd_M) (q : Int32) (g : pd_M) (e : fn_X3_number p1 p2 f = some (q, g)) : pr_C L 2 27 [.ref 100, .int p1, .int p2] (hH f) (some (.int q)) (hH g) := by
  refine pr_C.of (G := mt_X3_number) rfl rfl ?_
  show pr_G L 1 mt_X3_number (0, [(0, .ref 100), (1, .int p1), (2, .int p2)], [], hH f) _ _
  unfold fn_X3_number at e
  refine gs_aload_n rfl rfl ?_
  refine gs_iload_n rfl rfl ?_
  refine gs_iload_n rfl rfl ?_
  refine gs_iconst (x := 0) rfl (by decide) ?_
  obtain ⟨r1, f2, ec3, e⟩ := ob2_some e
  refine gs_callvI (st := []) rfl (pr_C_le (by decide) (th_X3_look L p1 p2 0 f r1 f2 ec3)) rfl rfl rfl (by decide) rfl (Or.inr (by decide)) ?_
  refine gs_istore_n (lv' := [(3, .int r1), (0, .ref 100), (1, .int p1), (2, .int p2)]) rfl rfl ?_
  refine gs_aload_n rfl rfl ?_
  refine gs_get rfl (gd_i rfl rfl) ?_
  refine gs_ne0 rfl (fun c4 => ?_) (fun c4 => ?_)
  · rw [if_neg c4] at e
    refine gs_iload_n rfl rfl ?_
    obtain ⟨rfl, rfl⟩ := inj2 e
    exact gs_iret rfl rfl rfl rfl rfl
  · rw [if_pos c4] at e
    refine gs_aload_n rfl rfl ?_
    refine gs_dup rfl rfl ?_
    refine gs_get rfl (gd_i rfl rfl) ?_
    refine gs_iconst (x := 1) rfl (by decide) ?_
    refine gs_iadd rfl ?_
    refine gs_put rfl (gd_pi rfl rfl) ?_
    obtain ⟨f5, hf5, e⟩ := pn_some e
    refine gs_heap hf5 ?_
    refine gs_iload_n rfl rfl ?_
    obtain ⟨rfl, rfl⟩ := inj2 e
    exact gs_iret rfl rfl rfl rfl rfl
def fn_X3_take (p1 : Int32) (f : pd_M) : Option (pd_M) :=
  if (f 100 4) = 0 then
  if pa_in (f 100 3) 501 = true then
  if (f 37 (f 100 3).toNatClampNeg) = p1 then
  pn ((pi_up f 100 3 ((f 100 3) + 1))) fun f5 =>
  some f5
  else
  pn ((pi_up f 100 4 1)) fun f4 =>
  some f4
  else none
  else
  some f
set_option maxRecDepth 100000 in
set_option maxHeartbeats 4000000 in
theorem th_X3_take (L : Nat) (p1 : Int32) (f : pd_M) (g : pd_M) (e : fn_X3_take p1 f = some g) : pr_C L 1 29 [.ref 100, .int p1] (hH f) none (hH g) := by
  refine pr_C.of (G := mt_X3_take) rfl rfl ?_
  show pr_G L 0 mt_X3_take (0, [(0, .ref 100), (1, .int p1)], [], hH f) _ _
  unfold fn_X3_take at e
  refine gs_aload_n rfl rfl ?_
  refine gs_get rfl (gd_i rfl rfl) ?_
  refine gs_eq0 rfl (fun c1 => ?_) (fun c1 => ?_)
  · rw [if_pos c1] at e
    refine gs_aload_n rfl rfl ?_
    refine gs_get rfl (gd_r (b := 35) rfl rfl rfl) ?_
    refine gs_get rfl (gd_r (b := 37) rfl rfl rfl) ?_
    refine gs_aload_n rfl rfl ?_
    refine gs_get rfl (gd_i rfl rfl) ?_
    by_cases hb2 : pa_in (f 100 3) 501 = true
    case neg => rw [if_neg hb2] at e; cases e
    rw [if_pos hb2] at e
    refine gs_bald rfl (gd_ba (j := (f 100 3).toNatClampNeg) rfl hb2 rfl) ?_
    refine gs_iload_n rfl rfl ?_
    refine gs_ne2 rfl (fun c3 => ?_) (fun c3 => ?_)
    · rw [if_neg c3] at e
      refine gs_aload_n rfl rfl ?_
      refine gs_iconst (x := 1) rfl (by decide) ?_
      refine gs_put rfl (gd_pi rfl rfl) ?_
      obtain ⟨f4, hf4, e⟩ := pn_some e
      refine gs_heap hf4 ?_
      obtain rfl := inj1 e
      exact gs_vret rfl rfl rfl rfl
    · rw [if_pos c3] at e
      refine gs_aload_n rfl rfl ?_
      refine gs_dup rfl rfl ?_
      refine gs_get rfl (gd_i rfl rfl) ?_
      refine gs_iconst (x := 1) rfl (by decide) ?_
      refine gs_iadd rfl ?_
      refine gs_put rfl (gd_pi rfl rfl) ?_
      obtain ⟨f5, hf5, e⟩ := pn_some e
      refine gs_heap hf5 ?_
      refine gs_goto rfl ?_
      obtain rfl := inj1 e
      exact gs_vret rfl rfl rfl rfl
  · rw [if_neg c1] at e
    obtain rfl := inj1 e
    exact gs_vret rfl rfl rfl rfl
def fn_X3_takesRefuse (f : pd_M) : Option (Int32 × pd_M) :=
  if (f 100 4) = 0 then
  if pa_in (f 100 3) 501 = true then
  if (f 37 (f 100 3).toNatClampNeg) = 107 then
  pn ((pi_up f 100 3 ((f 100 3) + 1))) fun f8 =>
  some (1, f8)
  else
  ob1 (fn_X3_take 108 f) fun f6 =>
  some (0, f6)
  else none
  else
  ob1 (fn_X3_take 108 f) fun f2 =>
  some (0, f2)
set_option maxRecDepth 100000 in
set_option maxHeartbeats 4000000 in
theorem th_X3_takesRefuse (L : Nat)  (f : pd_M) (q : Int32) (g : pd_M) (e : fn_X3_takesRefuse f = some (q, g)) : pr_C L 2 19 [.ref 100] (hH f) (some (.int q)) (hH g) := by
  refine pr_C.of (G := mt_X3_takesRefuse) rfl rfl ?_
  show pr_G L 1 mt_X3_takesRefuse (0, [(0, .ref 100)], [], hH f) _ _
  unfold fn_X3_takesRefuse at e
  refine gs_aload_n rfl rfl ?_
  refine gs_get rfl (gd_i rfl rfl) ?_
  refine gs_ne0 rfl (fun c1 => ?_) (fun c1 => ?_)
  · rw [if_neg c1] at e
    refine gs_aload_n rfl rfl ?_
    refine gs_bipush (x := 108) rfl (by decide) ?_
    obtain ⟨f2, ec3, e⟩ := ob1_some e
    refine gs_callvV (st := []) rfl (pr_C_le (by decide) (th_X3_take L 108 f f2 ec3)) rfl rfl rfl (by decide) rfl (Or.inr (by decide)) ?_
    refine gs_iconst (x := 0) rfl (by decide) ?_
    obtain ⟨rfl, rfl⟩ := inj2 e
    exact gs_iret rfl rfl (by decide) rfl rfl
  · rw [if_pos c1] at e
    refine gs_aload_n rfl rfl ?_
    refine gs_get rfl (gd_r (b := 35) rfl rfl rfl) ?_
    refine gs_get rfl (gd_r (b := 37) rfl rfl rfl) ?_
    refine gs_aload_n rfl rfl ?_
    refine gs_get rfl (gd_i rfl rfl) ?_
    by_cases hb4 : pa_in (f 100 3) 501 = true
    case neg => rw [if_neg hb4] at e; cases e
    rw [if_pos hb4] at e
    refine gs_bald rfl (gd_ba (j := (f 100 3).toNatClampNeg) rfl hb4 rfl) ?_
    refine gs_bipush (x := 107) rfl (by decide) ?_
    refine gs_ne2 rfl (fun c5 => ?_) (fun c5 => ?_)
    · rw [if_neg c5] at e
      refine gs_aload_n rfl rfl ?_
      refine gs_bipush (x := 108) rfl (by decide) ?_
      obtain ⟨f6, ec7, e⟩ := ob1_some e
      refine gs_callvV (st := []) rfl (pr_C_le (by decide) (th_X3_take L 108 f f6 ec7)) rfl rfl rfl (by decide) rfl (Or.inr (by decide)) ?_
      refine gs_iconst (x := 0) rfl (by decide) ?_
      obtain ⟨rfl, rfl⟩ := inj2 e
      exact gs_iret rfl rfl (by decide) rfl rfl
    · rw [if_pos c5] at e
      refine gs_aload_n rfl rfl ?_
      refine gs_dup rfl rfl ?_
      refine gs_get rfl (gd_i rfl rfl) ?_
      refine gs_iconst (x := 1) rfl (by decide) ?_
      refine gs_iadd rfl ?_
      refine gs_put rfl (gd_pi rfl rfl) ?_
      obtain ⟨f8, hf8, e⟩ := pn_some e
      refine gs_heap hf8 ?_
      refine gs_iconst (x := 1) rfl (by decide) ?_
      obtain ⟨rfl, rfl⟩ := inj2 e
      exact gs_iret rfl rfl (by decide) rfl rfl
def lp_X3_readAnswer_14 : Nat → Int32 → Int32 → pd_M → Option (Int32 × pd_M)
  | 0, _, _, _ => none
  | n + 1, z1, z2, f =>
    if 4 ≤ z2 then
    some (z1, f)
    else
    ob2 (fn_X3_number 0 6 f) fun r6 f7 =>
    pn ((z1 ||| ((1 : Int32) <<< (((7 * z2) + r6) &&& 31)))) fun x9 =>
    pn (z2 + 1) fun x10 =>
    lp_X3_readAnswer_14 n x9 x10 f7
def fn_X3_readAnswer (f : pd_M) : Option (Int32 × pd_M) :=
  ob2 (fn_X3_takesRefuse f) fun r1 f2 =>
  if r1 = 0 then
  ob2 (lp_X3_readAnswer_14 5000 0 0 f2) fun y11 f12 =>
  some (y11, f12)
  else
  some (268435456, f2)
set_option maxRecDepth 100000 in
set_option maxHeartbeats 4000000 in
theorem tl_X3_readAnswer_14 (L : Nat) : ∀ (n : Nat) (z1 : Int32) (z2 : Int32) (f : pd_M) (w0 : Int32) (w1 : pd_M) (r : Option Value) (h2 : ph_T), lp_X3_readAnswer_14 n z1 z2 f = some (w0, w1) → pr_G L 2 mt_X3_readAnswer (42, [(1, .int w0)], [], hH w1) r h2 → pr_G L 2 mt_X3_readAnswer (14, [(0, .ref 100), (1, .int z1), (2, .int z2)], [], hH f) r h2 := by
  intro n
  induction n with
  | zero => intro z1 z2 f w0 w1 r h2 e; cases e
  | succ n ih =>
    intro z1 z2 f w0 w1 r h2 e K
    unfold lp_X3_readAnswer_14 at e
    refine gs_iload_n rfl rfl ?_
    refine gs_iconst (x := 4) rfl (by decide) ?_
    refine gs_ge2 rfl (fun c5 => ?_) (fun c5 => ?_)
    · rw [if_pos c5] at e
      obtain ⟨rfl, rfl⟩ := inj2 e
      refine gs_drop [1] rfl ?_
      exact K
    · rw [if_neg c5] at e
      refine gs_iload_n rfl rfl ?_
      refine gs_iconst (x := 1) rfl (by decide) ?_
      refine gs_bipush (x := 7) rfl (by decide) ?_
      refine gs_iload_n rfl rfl ?_
      refine gs_imul rfl ?_
      refine gs_aload_n rfl rfl ?_
      refine gs_iconst (x := 0) rfl (by decide) ?_
      refine gs_bipush (x := 6) rfl (by decide) ?_
      obtain ⟨r6, f7, ec8, e⟩ := ob2_some e
      refine gs_callvI (st := [.int (7 * z2), .int 1, .int z1]) rfl (pr_C_le (by decide) (th_X3_number L 0 6 f r6 f7 ec8)) rfl rfl rfl (by decide) rfl (Or.inr (by decide)) ?_
      refine gs_iadd rfl ?_
      refine gs_ishl rfl ?_
      refine gs_ior rfl ?_
      obtain ⟨x9, hx9, e⟩ := pn_some e
      refine gs_topi hx9 ?_
      refine gs_istore_n (lv' := [(1, .int x9), (0, .ref 100), (2, .int z2)]) rfl rfl ?_
      obtain ⟨x10, hx10, e⟩ := pn_some e
      refine gs_iinc1 (x1 := x10) (c := 1) (lv' := [(2, .int x10), (1, .int x9), (0, .ref 100)]) rfl rfl (by decide) hx10 rfl ?_
      refine gs_goto rfl ?_
      refine gs_drop [2, 1, 0] rfl ?_
      exact ih x9 x10 f7 w0 w1 _ _ e K
set_option maxRecDepth 100000 in
set_option maxHeartbeats 4000000 in
theorem th_X3_readAnswer (L : Nat)  (f : pd_M) (q : Int32) (g : pd_M) (e : fn_X3_readAnswer f = some (q, g)) : pr_C L 3 18 [.ref 100] (hH f) (some (.int q)) (hH g) := by
  refine pr_C.of (G := mt_X3_readAnswer) rfl rfl ?_
  show pr_G L 2 mt_X3_readAnswer (0, [(0, .ref 100)], [], hH f) _ _
  unfold fn_X3_readAnswer at e
  refine gs_aload_n rfl rfl ?_
  obtain ⟨r1, f2, ec3, e⟩ := ob2_some e
  refine gs_callvI (st := []) rfl (pr_C_le (by decide) (th_X3_takesRefuse L f r1 f2 ec3)) rfl rfl rfl (by decide) rfl (Or.inr (by decide)) ?_
  refine gs_eq0 rfl (fun c4 => ?_) (fun c4 => ?_)
  · rw [if_pos c4] at e
    refine gs_iconst (x := 0) rfl (by decide) ?_
    refine gs_istore_n (lv' := [(1, .int 0), (0, .ref 100)]) rfl rfl ?_
    refine gs_iconst (x := 0) rfl (by decide) ?_
    refine gs_istore_n (lv' := [(2, .int 0), (1, .int 0), (0, .ref 100)]) rfl rfl ?_
    refine gs_drop [2, 1, 0] rfl ?_
    obtain ⟨y11, f12, el13, e⟩ := ob2_some e
    refine tl_X3_readAnswer_14 L 5000 0 0 f2 y11 f12 _ _ el13 ?_
    refine gs_iload_n rfl rfl ?_
    obtain ⟨rfl, rfl⟩ := inj2 e
    exact gs_iret rfl rfl rfl rfl rfl
  · rw [if_neg c4] at e
    refine gs_ldc (x := 268435456) rfl (by decide) ?_
    obtain ⟨rfl, rfl⟩ := inj2 e
    exact gs_iret rfl rfl rfl rfl rfl
def lp_X8_casesOf_20 : Nat → Int32 → Int32 → Int32 → Int32 → pd_M → Option (Int32)
  | 0, _, _, _, _, _ => none
  | n + 1, z1, z3, z4, z5, f =>
    if z1 < z5 then
    some (z4)
    else
    pn ((z4 ||| (z3 <<< ((3 * z5) &&& 31)))) fun x4 =>
    pn (z5 + 1) fun x5 =>
    lp_X8_casesOf_20 n z1 z3 x4 x5 f
def fn_X8_casesOf (p1 : Int32) (p2 : Int32) (p3 : Int32) (f : pd_M) : Option (Int32) :=
  ob1 (if p3 = 3 then
  some (7)
  else
  some (((1 : Int32) <<< (p3 &&& 31)))) fun (v2 : Int32) =>
  ob1 (lp_X8_casesOf_20 5000 p2 v2 0 p1 f) fun y6 =>
  some y6
set_option maxRecDepth 100000 in
set_option maxHeartbeats 4000000 in
theorem tl_X8_casesOf_20 (L : Nat) : ∀ (n : Nat) (z1 : Int32) (z3 : Int32) (z4 : Int32) (z5 : Int32) (f : pd_M) (w0 : Int32) (r : Option Value) (h2 : ph_T), lp_X8_casesOf_20 n z1 z3 z4 z5 f = some (w0) → pr_G L 0 mt_X8_casesOf (43, [(4, .int w0)], [], hH f) r h2 → pr_G L 0 mt_X8_casesOf (20, [(1, .int z1), (3, .int z3), (4, .int z4), (5, .int z5)], [], hH f) r h2 := by
  intro n
  induction n with
  | zero => intro z1 z3 z4 z5 f w0 r h2 e; cases e
  | succ n ih =>
    intro z1 z3 z4 z5 f w0 r h2 e K
    unfold lp_X8_casesOf_20 at e
    refine gs_iload rfl rfl ?_
    refine gs_iload_n rfl rfl ?_
    refine gs_gt2 rfl (fun c3 => ?_) (fun c3 => ?_)
    · rw [if_pos c3] at e
      obtain rfl := inj1 e
      refine gs_drop [2] rfl ?_
      exact K
    · rw [if_neg c3] at e
      refine gs_iload rfl rfl ?_
      refine gs_iload_n rfl rfl ?_
      refine gs_iconst (x := 3) rfl (by decide) ?_
      refine gs_iload rfl rfl ?_
      refine gs_imul rfl ?_
      refine gs_ishl rfl ?_
      refine gs_ior rfl ?_
      obtain ⟨x4, hx4, e⟩ := pn_some e
      refine gs_topi hx4 ?_
      refine gs_istore (lv' := [(4, .int x4), (1, .int z1), (3, .int z3), (5, .int z5)]) rfl rfl ?_
      obtain ⟨x5, hx5, e⟩ := pn_some e
      refine gs_iinc1 (x1 := x5) (c := 1) (lv' := [(5, .int x5), (4, .int x4), (1, .int z1), (3, .int z3)]) rfl rfl (by decide) hx5 rfl ?_
      refine gs_goto rfl ?_
      refine gs_drop [2, 3, 1, 0] rfl ?_
      exact ih z1 z3 x4 x5 f w0 _ _ e K
set_option maxRecDepth 100000 in
set_option maxHeartbeats 4000000 in
theorem th_X8_casesOf (L : Nat) (p1 : Int32) (p2 : Int32) (p3 : Int32) (f : pd_M) (q : Int32) (e : fn_X8_casesOf p1 p2 p3 f = some q) : pr_C L 1 92 [.int p1, .int p2, .int p3] (hH f) (some (.int q)) (hH f) := by
  refine pr_C.of (G := mt_X8_casesOf) rfl rfl ?_
  show pr_G L 0 mt_X8_casesOf (0, [(0, .int p1), (1, .int p2), (2, .int p3)], [], hH f) _ _
  unfold fn_X8_casesOf at e
  refine gs_iload_n rfl rfl ?_
  refine gs_iconst (x := 3) rfl (by decide) ?_
  obtain ⟨v2, ev13, e⟩ := ob1_some e
  have KJ13 : pr_G L 0 mt_X8_casesOf (13, [(0, .int p1), (1, .int p2)], [.int v2], hH f) (some (.int q)) (hH f) := by
    refine gs_istore_n (lv' := [(3, .int v2), (0, .int p1), (1, .int p2)]) rfl rfl ?_
    refine gs_iconst (x := 0) rfl (by decide) ?_
    refine gs_istore (lv' := [(4, .int 0), (3, .int v2), (0, .int p1), (1, .int p2)]) rfl rfl ?_
    refine gs_iload_n rfl rfl ?_
    refine gs_istore (lv' := [(5, .int p1), (4, .int 0), (3, .int v2), (0, .int p1), (1, .int p2)]) rfl rfl ?_
    refine gs_drop [4, 2, 1, 0] rfl ?_
    obtain ⟨y6, el7, e⟩ := ob1_some e
    refine tl_X8_casesOf_20 L 5000 p2 v2 0 p1 f y6 _ _ el7 ?_
    refine gs_iload rfl rfl ?_
    obtain rfl := inj1 e
    exact gs_iret rfl rfl rfl rfl rfl
  have e := ev13
  clear ev13
  refine gs_ne2 rfl (fun c1 => ?_) (fun c1 => ?_)
  · rw [if_neg c1] at e
    refine gs_iconst (x := 1) rfl (by decide) ?_
    refine gs_iload_n rfl rfl ?_
    refine gs_ishl rfl ?_
    obtain rfl := inj1 e
    refine gs_drop [0, 1] rfl ?_
    exact KJ13
  · rw [if_pos c1] at e
    refine gs_bipush (x := 7) rfl (by decide) ?_
    refine gs_goto rfl ?_
    obtain rfl := inj1 e
    refine gs_drop [0, 1] rfl ?_
    exact KJ13
def lp_X3_answerBy_2 : Nat → Nat → Int32 → Int32 → Int32 → pd_M → Option (pd_M)
  | 0, _, _, _, _, _ => none
  | n + 1, z0, z1, z2, z3, f =>
    if sk z0 = (0, 24) then
    if 24 ≤ z3 then
    some (f)
    else
    if 24 ≤ z3 then
    some (f)
    else
    ob1 (if ((z1 >>> (z3 &&& 31)) &&& 1) = 0 then
    some (f)
    else
    if pa_in z3 24 = true then
    if (f z0 z3.toNatClampNeg) = 0 then
    if pa_in z3 24 = true then
    pn ((pi_up f z0 (z3.toNatClampNeg) z2)) fun f8 =>
    some (f8)
    else none
    else
    some (f)
    else none) fun (f4 : pd_M) =>
    pn (z3 + 1) fun x9 =>
    lp_X3_answerBy_2 n z0 z1 z2 x9 f4
    else none
def fn_X3_answerBy (p1 : Nat) (p2 : Int32) (p3 : Int32) (f : pd_M) : Option (pd_M) :=
  if sk p1 = (0, 24) then
  ob1 (lp_X3_answerBy_2 5000 p1 p2 p3 0 f) fun f10 =>
  some f10
  else none
set_option maxRecDepth 100000 in
set_option maxHeartbeats 4000000 in
theorem tl_X3_answerBy_2 (L : Nat) : ∀ (n : Nat) (z0 : Nat) (z1 : Int32) (z2 : Int32) (z3 : Int32) (f : pd_M) (w0 : pd_M) (r : Option Value) (h2 : ph_T), lp_X3_answerBy_2 n z0 z1 z2 z3 f = some (w0) → pr_G L 0 mt_X3_answerBy (38, [], [], hH w0) r h2 → pr_G L 0 mt_X3_answerBy (2, [(0, .ref z0), (1, .int z1), (2, .int z2), (3, .int z3)], [], hH f) r h2 := by
  intro n
  induction n with
  | zero => intro z0 z1 z2 z3 f w0 r h2 e; cases e
  | succ n ih =>
    intro z0 z1 z2 z3 f w0 r h2 e K
    unfold lp_X3_answerBy_2 at e
    by_cases hk0 : sk z0 = (0, 24)
    case neg => rw [if_neg hk0] at e; cases e
    rw [if_pos hk0] at e
    refine gs_iload_n rfl rfl ?_
    refine gs_bipush (x := 24) rfl (by decide) ?_
    refine gs_ge2 rfl (fun c1 => ?_) (fun c1 => ?_)
    · rw [if_pos c1] at e
      obtain rfl := inj1 e
      refine gs_drop [] rfl ?_
      exact K
    · rw [if_neg c1] at e
      refine gs_iload_n rfl rfl ?_
      refine gs_aload_n rfl rfl ?_
      refine gs_alen rfl (gd_len (x := 24) (sh_of hk0 (by decide)) rfl (by decide)) ?_
      refine gs_ge2 rfl (fun c2 => ?_) (fun c2 => ?_)
      · rw [if_pos c2] at e
        obtain rfl := inj1 e
        refine gs_drop [] rfl ?_
        exact K
      · rw [if_neg c2] at e
        refine gs_iload_n rfl rfl ?_
        refine gs_iload_n rfl rfl ?_
        refine gs_ishr rfl ?_
        refine gs_iconst (x := 1) rfl (by decide) ?_
        refine gs_iand rfl ?_
        obtain ⟨f4, ev32, e⟩ := ob1_some e
        have KJ32 : pr_G L 0 mt_X3_answerBy (32, [(0, .ref z0), (1, .int z1), (2, .int z2), (3, .int z3)], [], hH f4) r h2 := by
          obtain ⟨x9, hx9, e⟩ := pn_some e
          refine gs_iinc1 (x1 := x9) (c := 1) (lv' := [(3, .int x9), (0, .ref z0), (1, .int z1), (2, .int z2)]) rfl rfl (by decide) hx9 rfl ?_
          refine gs_goto rfl ?_
          refine gs_drop [1, 2, 3, 0] rfl ?_
          exact ih z0 z1 z2 x9 f4 w0 _ _ e K
        have e := ev32
        clear ev32
        refine gs_eq0 rfl (fun c3 => ?_) (fun c3 => ?_)
        · rw [if_pos c3] at e
          obtain rfl := inj1 e
          refine gs_drop [0, 1, 2, 3] rfl ?_
          exact KJ32
        · rw [if_neg c3] at e
          refine gs_aload_n rfl rfl ?_
          refine gs_iload_n rfl rfl ?_
          by_cases hb5 : pa_in z3 24 = true
          case neg => rw [if_neg hb5] at e; cases e
          rw [if_pos hb5] at e
          refine gs_iald rfl (gd_ia (j := z3.toNatClampNeg) (sh_of hk0 (by decide)) hb5 rfl) ?_
          refine gs_ne0 rfl (fun c6 => ?_) (fun c6 => ?_)
          · rw [if_neg c6] at e
            obtain rfl := inj1 e
            refine gs_drop [0, 1, 2, 3] rfl ?_
            exact KJ32
          · rw [if_pos c6] at e
            refine gs_aload_n rfl rfl ?_
            refine gs_iload_n rfl rfl ?_
            refine gs_iload_n rfl rfl ?_
            by_cases hb7 : pa_in z3 24 = true
            case neg => rw [if_neg hb7] at e; cases e
            rw [if_pos hb7] at e
            refine gs_iast rfl (gd_si (j := z3.toNatClampNeg) (sh_of hk0 (by decide)) (ge_of hk0 (by decide)) hb7 rfl) ?_
            obtain ⟨f8, hf8, e⟩ := pn_some e
            refine gs_heap hf8 ?_
            obtain rfl := inj1 e
            refine gs_drop [0, 1, 2, 3] rfl ?_
            exact KJ32
set_option maxRecDepth 100000 in
set_option maxHeartbeats 4000000 in
theorem th_X3_answerBy (L : Nat) (p1 : Nat) (p2 : Int32) (p3 : Int32) (f : pd_M) (g : pd_M) (e : fn_X3_answerBy p1 p2 p3 f = some g) : pr_C L 1 17 [.ref p1, .int p2, .int p3] (hH f) none (hH g) := by
  refine pr_C.of (G := mt_X3_answerBy) rfl rfl ?_
  show pr_G L 0 mt_X3_answerBy (0, [(0, .ref p1), (1, .int p2), (2, .int p3)], [], hH f) _ _
  unfold fn_X3_answerBy at e
  by_cases hk1 : sk p1 = (0, 24)
  case neg => rw [if_neg hk1] at e; cases e
  rw [if_pos hk1] at e
  refine gs_iconst (x := 0) rfl (by decide) ?_
  refine gs_istore_n (lv' := [(3, .int 0), (0, .ref p1), (1, .int p2), (2, .int p3)]) rfl rfl ?_
  refine gs_drop [1, 2, 3, 0] rfl ?_
  obtain ⟨f10, el11, e⟩ := ob1_some e
  refine tl_X3_answerBy_2 L 5000 p1 p2 p3 0 f f10 _ _ el11 ?_
  obtain rfl := inj1 e
  exact gs_vret rfl rfl rfl rfl
def fn_X3_readRule (p1 : Nat) (f : pd_M) : Option (pd_M) :=
  if sk p1 = (0, 24) then
  pn ((pi_up f 100 3 ((f 100 3) + 1))) fun f1 =>
  ob2 (fn_X3_number 0 7 f1) fun r2 f3 =>
  ob2 (fn_X3_number r2 7 f3) fun r5 f6 =>
  ob2 (fn_X3_number 0 3 f6) fun r8 f9 =>
  ob2 (fn_X3_readAnswer f9) fun r11 f12 =>
  if (f12 100 4) = 0 then
  ob1 (fn_X8_casesOf r2 r5 r8 f12) fun r15 =>
  ob1 (fn_X3_answerBy p1 r15 r11 f12) fun f17 =>
  some f17
  else
  some f12
  else none
set_option maxRecDepth 100000 in
set_option maxHeartbeats 4000000 in
theorem th_X3_readRule (L : Nat) (p1 : Nat) (f : pd_M) (g : pd_M) (e : fn_X3_readRule p1 f = some g) : pr_C L 4 16 [.ref 100, .ref p1] (hH f) none (hH g) := by
  refine pr_C.of (G := mt_X3_readRule) rfl rfl ?_
  show pr_G L 3 mt_X3_readRule (0, [(0, .ref 100), (1, .ref p1)], [], hH f) _ _
  unfold fn_X3_readRule at e
  by_cases hk1 : sk p1 = (0, 24)
  case neg => rw [if_neg hk1] at e; cases e
  rw [if_pos hk1] at e
  refine gs_aload_n rfl rfl ?_
  refine gs_dup rfl rfl ?_
  refine gs_get rfl (gd_i rfl rfl) ?_
  refine gs_iconst (x := 1) rfl (by decide) ?_
  refine gs_iadd rfl ?_
  refine gs_put rfl (gd_pi rfl rfl) ?_
  obtain ⟨f1, hf1, e⟩ := pn_some e
  refine gs_heap hf1 ?_
  refine gs_aload_n rfl rfl ?_
  refine gs_iconst (x := 0) rfl (by decide) ?_
  refine gs_bipush (x := 7) rfl (by decide) ?_
  obtain ⟨r2, f3, ec4, e⟩ := ob2_some e
  refine gs_callvI (st := []) rfl (pr_C_le (by decide) (th_X3_number L 0 7 f1 r2 f3 ec4)) rfl rfl rfl (by decide) rfl (Or.inr (by decide)) ?_
  refine gs_istore_n (lv' := [(2, .int r2), (0, .ref 100), (1, .ref p1)]) rfl rfl ?_
  refine gs_aload_n rfl rfl ?_
  refine gs_iload_n rfl rfl ?_
  refine gs_bipush (x := 7) rfl (by decide) ?_
  obtain ⟨r5, f6, ec7, e⟩ := ob2_some e
  refine gs_callvI (st := []) rfl (pr_C_le (by decide) (th_X3_number L r2 7 f3 r5 f6 ec7)) rfl rfl rfl (by decide) rfl (Or.inr (by decide)) ?_
  refine gs_istore_n (lv' := [(3, .int r5), (2, .int r2), (0, .ref 100), (1, .ref p1)]) rfl rfl ?_
  refine gs_aload_n rfl rfl ?_
  refine gs_iconst (x := 0) rfl (by decide) ?_
  refine gs_iconst (x := 3) rfl (by decide) ?_
  obtain ⟨r8, f9, ec10, e⟩ := ob2_some e
  refine gs_callvI (st := []) rfl (pr_C_le (by decide) (th_X3_number L 0 3 f6 r8 f9 ec10)) rfl rfl rfl (by decide) rfl (Or.inr (by decide)) ?_
  refine gs_istore (lv' := [(4, .int r8), (3, .int r5), (2, .int r2), (0, .ref 100), (1, .ref p1)]) rfl rfl ?_
  refine gs_aload_n rfl rfl ?_
  obtain ⟨r11, f12, ec13, e⟩ := ob2_some e
  refine gs_callvI (st := []) rfl (pr_C_le (by decide) (th_X3_readAnswer L f9 r11 f12 ec13)) rfl rfl rfl (by decide) rfl (Or.inr (by decide)) ?_
  refine gs_istore (lv' := [(5, .int r11), (4, .int r8), (3, .int r5), (2, .int r2), (0, .ref 100), (1, .ref p1)]) rfl rfl ?_
  refine gs_aload_n rfl rfl ?_
  refine gs_get rfl (gd_i rfl rfl) ?_
  refine gs_ne0 rfl (fun c14 => ?_) (fun c14 => ?_)
  · rw [if_neg c14] at e
    obtain rfl := inj1 e
    exact gs_vret rfl rfl rfl rfl
  · rw [if_pos c14] at e
    refine gs_aload_n rfl rfl ?_
    refine gs_iload_n rfl rfl ?_
    refine gs_iload_n rfl rfl ?_
    refine gs_iload rfl rfl ?_
    obtain ⟨r15, ec16, e⟩ := ob1_some e
    refine gs_callsI (st := [.ref p1]) rfl (pr_C_le (by decide) (th_X8_casesOf L r2 r5 r8 f12 r15 ec16)) rfl rfl rfl (by decide) ?_
    refine gs_iload rfl rfl ?_
    obtain ⟨f17, ec18, e⟩ := ob1_some e
    refine gs_callsV (st := []) rfl (pr_C_le (by decide) (th_X3_answerBy L p1 r15 r11 f12 f17 ec18)) rfl rfl rfl (by decide) ?_
    obtain rfl := inj1 e
    exact gs_vret rfl rfl rfl rfl
def lp_X3_readEdition_84 : Nat → Int32 → Nat → Int32 → pd_M → Option (pd_M)
  | 0, _, _, _, _ => none
  | n + 1, z1, z2, z3, f =>
    if sk z2 = (0, 24) then
    if 24 ≤ z3 then
    some (f)
    else
    if pa_in z3 24 = true then
    pn ((pi_up f z2 (z3.toNatClampNeg) 0)) fun f17 =>
    pn (z3 + 1) fun x18 =>
    lp_X3_readEdition_84 n z1 z2 x18 f17
    else none
    else none
def lp_X3_readEdition_102 : Nat → Int32 → Nat → Int32 → pd_M → Option (pd_M)
  | 0, _, _, _, _ => none
  | n + 1, z1, z2, z3, f =>
    if sk z2 = (0, 24) then
    if 6 < z3 then
    some (f)
    else
    if (f 100 4) = 0 then
    if pa_in (f 100 3) 501 = true then
    if (f 37 (f 100 3).toNatClampNeg) = 106 then
    ob1 (if z3 = 6 then
    pn ((pi_up f 100 4 3)) fun f29 =>
    some (f29)
    else
    ob1 (fn_X3_readRule z2 f) fun f27 =>
    some (f27)) fun (f26 : pd_M) =>
    pn (z3 + 1) fun x30 =>
    lp_X3_readEdition_102 n z1 z2 x30 f26
    else
    some (f)
    else none
    else
    some (f)
    else none
def fn_X3_readEdition (f : pd_M) : Option (pd_M) :=
  pn ((pi_up f 100 3 ((f 100 3) + 1))) fun f1 =>
  ob2 (fn_X3_look 0 3 0 f1) fun r2 f3 =>
  ob1 (if (f3 100 4) = 0 then
  if pa_in r2 4 = true then
  if (f3 102 r2.toNatClampNeg) < 4 then
  some (f3)
  else
  pn ((pi_up f3 100 4 3)) fun f9 =>
  some (f9)
  else none
  else
  some (f3)) fun (f6 : pd_M) =>
  if (f6 100 4) = 0 then
  pn ((pi_up f6 100 3 ((f6 100 3) + 1))) fun f11 =>
  if pa_in r2 4 = true then
  ob1 (fn_X7_editionOf r2 (f11 102 r2.toNatClampNeg)) fun r13 =>
  ob1 (lp_X3_readEdition_84 5000 r2 (r13 + 1) 0 f11) fun f19 =>
  ob1 (lp_X3_readEdition_102 5000 r2 (r13 + 1) 0 f19) fun f31 =>
  ob1 (fn_X3_take 101 f31) fun f33 =>
  ob1 (fn_X3_answerBy (r13 + 1) 16777215 268435456 f33) fun f35 =>
  if pa_in r2 4 = true then
  if pa_in r2 4 = true then
  pn ((pi_up f35 102 (r2.toNatClampNeg) ((f35 102 r2.toNatClampNeg) + 1))) fun f39 =>
  some f39
  else none
  else none
  else none
  else
  some f6
set_option maxRecDepth 100000 in
set_option maxHeartbeats 4000000 in
theorem tl_X3_readEdition_84 (L : Nat) : ∀ (n : Nat) (z1 : Int32) (z2 : Nat) (z3 : Int32) (f : pd_M) (w0 : pd_M) (r : Option Value) (h2 : ph_T), lp_X3_readEdition_84 n z1 z2 z3 f = some (w0) → pr_G L 4 mt_X3_readEdition (100, [(0, .ref 100), (1, .int z1), (2, .ref z2)], [], hH w0) r h2 → pr_G L 4 mt_X3_readEdition (84, [(0, .ref 100), (1, .int z1), (2, .ref z2), (3, .int z3)], [], hH f) r h2 := by
  intro n
  induction n with
  | zero => intro z1 z2 z3 f w0 r h2 e; cases e
  | succ n ih =>
    intro z1 z2 z3 f w0 r h2 e K
    unfold lp_X3_readEdition_84 at e
    by_cases hk2 : sk z2 = (0, 24)
    case neg => rw [if_neg hk2] at e; cases e
    rw [if_pos hk2] at e
    refine gs_iload_n rfl rfl ?_
    refine gs_bipush (x := 24) rfl (by decide) ?_
    refine gs_ge2 rfl (fun c15 => ?_) (fun c15 => ?_)
    · rw [if_pos c15] at e
      obtain rfl := inj1 e
      refine gs_drop [0, 1, 2] rfl ?_
      exact K
    · rw [if_neg c15] at e
      refine gs_aload_n rfl rfl ?_
      refine gs_iload_n rfl rfl ?_
      refine gs_iconst (x := 0) rfl (by decide) ?_
      by_cases hb16 : pa_in z3 24 = true
      case neg => rw [if_neg hb16] at e; cases e
      rw [if_pos hb16] at e
      refine gs_iast rfl (gd_si (j := z3.toNatClampNeg) (sh_of hk2 (by decide)) (ge_of hk2 (by decide)) hb16 rfl) ?_
      obtain ⟨f17, hf17, e⟩ := pn_some e
      refine gs_heap hf17 ?_
      obtain ⟨x18, hx18, e⟩ := pn_some e
      refine gs_iinc1 (x1 := x18) (c := 1) (lv' := [(3, .int x18), (0, .ref 100), (1, .int z1), (2, .ref z2)]) rfl rfl (by decide) hx18 rfl ?_
      refine gs_goto rfl ?_
      refine gs_drop [1, 2, 3, 0] rfl ?_
      exact ih z1 z2 x18 f17 w0 _ _ e K
set_option maxRecDepth 100000 in
set_option maxHeartbeats 4000000 in
theorem tl_X3_readEdition_102 (L : Nat) : ∀ (n : Nat) (z1 : Int32) (z2 : Nat) (z3 : Int32) (f : pd_M) (w0 : pd_M) (r : Option Value) (h2 : ph_T), lp_X3_readEdition_102 n z1 z2 z3 f = some (w0) → pr_G L 4 mt_X3_readEdition (157, [(0, .ref 100), (1, .int z1), (2, .ref z2)], [], hH w0) r h2 → pr_G L 4 mt_X3_readEdition (102, [(0, .ref 100), (1, .int z1), (2, .ref z2), (3, .int z3)], [], hH f) r h2 := by
  intro n
  induction n with
  | zero => intro z1 z2 z3 f w0 r h2 e; cases e
  | succ n ih =>
    intro z1 z2 z3 f w0 r h2 e K
    unfold lp_X3_readEdition_102 at e
    by_cases hk2 : sk z2 = (0, 24)
    case neg => rw [if_neg hk2] at e; cases e
    rw [if_pos hk2] at e
    refine gs_iload_n rfl rfl ?_
    refine gs_bipush (x := 6) rfl (by decide) ?_
    refine gs_gt2 rfl (fun c21 => ?_) (fun c21 => ?_)
    · rw [if_pos c21] at e
      obtain rfl := inj1 e
      refine gs_drop [0, 1, 2] rfl ?_
      exact K
    · rw [if_neg c21] at e
      refine gs_aload_n rfl rfl ?_
      refine gs_get rfl (gd_i rfl rfl) ?_
      refine gs_ne0 rfl (fun c22 => ?_) (fun c22 => ?_)
      · rw [if_neg c22] at e
        obtain rfl := inj1 e
        refine gs_drop [0, 1, 2] rfl ?_
        exact K
      · rw [if_pos c22] at e
        refine gs_aload_n rfl rfl ?_
        refine gs_get rfl (gd_r (b := 35) rfl rfl rfl) ?_
        refine gs_get rfl (gd_r (b := 37) rfl rfl rfl) ?_
        refine gs_aload_n rfl rfl ?_
        refine gs_get rfl (gd_i rfl rfl) ?_
        by_cases hb23 : pa_in (f 100 3) 501 = true
        case neg => rw [if_neg hb23] at e; cases e
        rw [if_pos hb23] at e
        refine gs_bald rfl (gd_ba (j := (f 100 3).toNatClampNeg) rfl hb23 rfl) ?_
        refine gs_bipush (x := 106) rfl (by decide) ?_
        refine gs_ne2 rfl (fun c24 => ?_) (fun c24 => ?_)
        · rw [if_neg c24] at e
          obtain rfl := inj1 e
          refine gs_drop [0, 1, 2] rfl ?_
          exact K
        · rw [if_pos c24] at e
          refine gs_iload_n rfl rfl ?_
          refine gs_bipush (x := 6) rfl (by decide) ?_
          obtain ⟨f26, ev151, e⟩ := ob1_some e
          have KJ151 : pr_G L 4 mt_X3_readEdition (151, [(0, .ref 100), (1, .int z1), (2, .ref z2), (3, .int z3)], [], hH f26) r h2 := by
            obtain ⟨x30, hx30, e⟩ := pn_some e
            refine gs_iinc1 (x1 := x30) (c := 1) (lv' := [(3, .int x30), (0, .ref 100), (1, .int z1), (2, .ref z2)]) rfl rfl (by decide) hx30 rfl ?_
            refine gs_goto rfl ?_
            refine gs_drop [1, 2, 3, 0] rfl ?_
            exact ih z1 z2 x30 f26 w0 _ _ e K
          have e := ev151
          clear ev151
          refine gs_ne2 rfl (fun c25 => ?_) (fun c25 => ?_)
          · rw [if_neg c25] at e
            refine gs_aload_n rfl rfl ?_
            refine gs_aload_n rfl rfl ?_
            obtain ⟨f27, ec28, e⟩ := ob1_some e
            refine gs_callvV (st := []) rfl (pr_C_le (by decide) (th_X3_readRule L z2 f f27 ec28)) rfl rfl rfl (by decide) rfl (Or.inr (by decide)) ?_
            obtain rfl := inj1 e
            refine gs_drop [0, 1, 2, 3] rfl ?_
            exact KJ151
          · rw [if_pos c25] at e
            refine gs_aload_n rfl rfl ?_
            refine gs_iconst (x := 3) rfl (by decide) ?_
            refine gs_put rfl (gd_pi rfl rfl) ?_
            obtain ⟨f29, hf29, e⟩ := pn_some e
            refine gs_heap hf29 ?_
            refine gs_goto rfl ?_
            obtain rfl := inj1 e
            refine gs_drop [0, 1, 2, 3] rfl ?_
            exact KJ151
set_option maxRecDepth 100000 in
set_option maxHeartbeats 4000000 in
theorem th_X3_readEdition (L : Nat)  (f : pd_M) (g : pd_M) (e : fn_X3_readEdition f = some g) : pr_C L 5 15 [.ref 100] (hH f) none (hH g) := by
  refine pr_C.of (G := mt_X3_readEdition) rfl rfl ?_
  show pr_G L 4 mt_X3_readEdition (0, [(0, .ref 100)], [], hH f) _ _
  unfold fn_X3_readEdition at e
  refine gs_aload_n rfl rfl ?_
  refine gs_dup rfl rfl ?_
  refine gs_get rfl (gd_i rfl rfl) ?_
  refine gs_iconst (x := 1) rfl (by decide) ?_
  refine gs_iadd rfl ?_
  refine gs_put rfl (gd_pi rfl rfl) ?_
  obtain ⟨f1, hf1, e⟩ := pn_some e
  refine gs_heap hf1 ?_
  refine gs_aload_n rfl rfl ?_
  refine gs_iconst (x := 0) rfl (by decide) ?_
  refine gs_iconst (x := 3) rfl (by decide) ?_
  refine gs_iconst (x := 0) rfl (by decide) ?_
  obtain ⟨r2, f3, ec4, e⟩ := ob2_some e
  refine gs_callvI (st := []) rfl (pr_C_le (by decide) (th_X3_look L 0 3 0 f1 r2 f3 ec4)) rfl rfl rfl (by decide) rfl (Or.inr (by decide)) ?_
  refine gs_istore_n (lv' := [(1, .int r2), (0, .ref 100)]) rfl rfl ?_
  refine gs_aload_n rfl rfl ?_
  refine gs_get rfl (gd_i rfl rfl) ?_
  obtain ⟨f6, ev43, e⟩ := ob1_some e
  have KJ43 : pr_G L 4 mt_X3_readEdition (43, [(0, .ref 100), (1, .int r2)], [], hH f6) none (hH g) := by
    refine gs_aload_n rfl rfl ?_
    refine gs_get rfl (gd_i rfl rfl) ?_
    refine gs_eq0 rfl (fun c10 => ?_) (fun c10 => ?_)
    · rw [if_pos c10] at e
      refine gs_aload_n rfl rfl ?_
      refine gs_dup rfl rfl ?_
      refine gs_get rfl (gd_i rfl rfl) ?_
      refine gs_iconst (x := 1) rfl (by decide) ?_
      refine gs_iadd rfl ?_
      refine gs_put rfl (gd_pi rfl rfl) ?_
      obtain ⟨f11, hf11, e⟩ := pn_some e
      refine gs_heap hf11 ?_
      refine gs_aload_n rfl rfl ?_
      refine gs_get rfl (gd_r (b := 39) rfl rfl rfl) ?_
      refine gs_iload_n rfl rfl ?_
      refine gs_aload_n rfl rfl ?_
      refine gs_get rfl (gd_r (b := 101) rfl rfl rfl) ?_
      refine gs_get rfl (gd_r (b := 102) rfl rfl rfl) ?_
      refine gs_iload_n rfl rfl ?_
      by_cases hb12 : pa_in r2 4 = true
      case neg => rw [if_neg hb12] at e; cases e
      rw [if_pos hb12] at e
      refine gs_iald rfl (gd_ia (j := r2.toNatClampNeg) rfl hb12 rfl) ?_
      obtain ⟨r13, ec14, e⟩ := ob1_some e
      refine gs_callvR (st := []) rfl (pr_C_le (by decide) (th_X7_editionOf L r2 (f11 102 r2.toNatClampNeg) f11 r13 ec14)) rfl rfl rfl (by decide) rfl (Or.inr (by decide)) ?_
      refine gs_get rfl (gd_r (b := (r13 + 1)) (sh_of (fnk_X7_editionOf ec14) (by decide)) rfl (ref_10_0 (fnk_X7_editionOf ec14))) ?_
      refine gs_astore_n (lv' := [(2, .ref (r13 + 1)), (0, .ref 100), (1, .int r2)]) rfl rfl ?_
      refine gs_iconst (x := 0) rfl (by decide) ?_
      refine gs_istore_n (lv' := [(3, .int 0), (2, .ref (r13 + 1)), (0, .ref 100), (1, .int r2)]) rfl rfl ?_
      refine gs_drop [2, 3, 1, 0] rfl ?_
      obtain ⟨f19, el20, e⟩ := ob1_some e
      refine tl_X3_readEdition_84 L 5000 r2 (r13 + 1) 0 f11 f19 _ _ el20 ?_
      refine gs_iconst (x := 0) rfl (by decide) ?_
      refine gs_istore_n (lv' := [(3, .int 0), (0, .ref 100), (1, .int r2), (2, .ref (r13 + 1))]) rfl rfl ?_
      refine gs_drop [1, 2, 3, 0] rfl ?_
      obtain ⟨f31, el32, e⟩ := ob1_some e
      refine tl_X3_readEdition_102 L 5000 r2 (r13 + 1) 0 f19 f31 _ _ el32 ?_
      refine gs_aload_n rfl rfl ?_
      refine gs_bipush (x := 101) rfl (by decide) ?_
      obtain ⟨f33, ec34, e⟩ := ob1_some e
      refine gs_callvV (st := []) rfl (pr_C_le (by decide) (th_X3_take L 101 f31 f33 ec34)) rfl rfl rfl (by decide) rfl (Or.inr (by decide)) ?_
      refine gs_aload_n rfl rfl ?_
      refine gs_ldc (x := 16777215) rfl (by decide) ?_
      refine gs_ldc (x := 268435456) rfl (by decide) ?_
      obtain ⟨f35, ec36, e⟩ := ob1_some e
      refine gs_callsV (st := []) rfl (pr_C_le (by decide) (th_X3_answerBy L (r13 + 1) 16777215 268435456 f33 f35 ec36)) rfl rfl rfl (by decide) ?_
      refine gs_aload_n rfl rfl ?_
      refine gs_get rfl (gd_r (b := 101) rfl rfl rfl) ?_
      refine gs_get rfl (gd_r (b := 102) rfl rfl rfl) ?_
      refine gs_iload_n rfl rfl ?_
      refine gs_dup2 rfl rfl rfl ?_
      by_cases hb37 : pa_in r2 4 = true
      case neg => rw [if_neg hb37] at e; cases e
      rw [if_pos hb37] at e
      refine gs_iald rfl (gd_ia (j := r2.toNatClampNeg) rfl hb37 rfl) ?_
      refine gs_iconst (x := 1) rfl (by decide) ?_
      refine gs_iadd rfl ?_
      by_cases hb38 : pa_in r2 4 = true
      case neg => rw [if_neg hb38] at e; cases e
      rw [if_pos hb38] at e
      refine gs_iast rfl (gd_si (j := r2.toNatClampNeg) rfl (by decide) hb38 rfl) ?_
      obtain ⟨f39, hf39, e⟩ := pn_some e
      refine gs_heap hf39 ?_
      obtain rfl := inj1 e
      exact gs_vret rfl rfl rfl rfl
    · rw [if_neg c10] at e
      obtain rfl := inj1 e
      exact gs_vret rfl rfl rfl rfl
  have e := ev43
  clear ev43
  refine gs_ne0 rfl (fun c5 => ?_) (fun c5 => ?_)
  · rw [if_neg c5] at e
    obtain rfl := inj1 e
    refine gs_drop [1, 0] rfl ?_
    exact KJ43
  · rw [if_pos c5] at e
    refine gs_aload_n rfl rfl ?_
    refine gs_get rfl (gd_r (b := 101) rfl rfl rfl) ?_
    refine gs_get rfl (gd_r (b := 102) rfl rfl rfl) ?_
    refine gs_iload_n rfl rfl ?_
    by_cases hb7 : pa_in r2 4 = true
    case neg => rw [if_neg hb7] at e; cases e
    rw [if_pos hb7] at e
    refine gs_iald rfl (gd_ia (j := r2.toNatClampNeg) rfl hb7 rfl) ?_
    refine gs_iconst (x := 4) rfl (by decide) ?_
    refine gs_lt2 rfl (fun c8 => ?_) (fun c8 => ?_)
    · rw [if_pos c8] at e
      obtain rfl := inj1 e
      refine gs_drop [1, 0] rfl ?_
      exact KJ43
    · rw [if_neg c8] at e
      refine gs_aload_n rfl rfl ?_
      refine gs_iconst (x := 3) rfl (by decide) ?_
      refine gs_put rfl (gd_pi rfl rfl) ?_
      obtain ⟨f9, hf9, e⟩ := pn_some e
      refine gs_heap hf9 ?_
      obtain rfl := inj1 e
      refine gs_drop [1, 0] rfl ?_
      exact KJ43
