def lp_X9_count_50 : Nat → Int32 → Int32 → pd_M → Option (Int32)
  | 0, _, _, _ => none
  | n + 1, z2, z3, f =>
    if 8 ≤ z3 then
    some (z2)
    else
    if pa_in z3 8 = true then
    ob1 (if (f 111 z3.toNatClampNeg) < 0 then
    some (0)
    else
    some (1)) fun (v6 : Int32) =>
    pn ((z2 + v6)) fun x7 =>
    pn (z3 + 1) fun x8 =>
    lp_X9_count_50 n x7 x8 f
    else none
def lp_X9_count_116 : Nat → Int32 → Int32 → pd_M → Option (Int32)
  | 0, _, _, _ => none
  | n + 1, z2, z3, f =>
    if (f 110 12) ≤ z3 then
    some (z2)
    else
    ob1 (fn_X9_isKeptBySome z3 f) fun r15 =>
    ob1 (if r15 = 0 then
    some (0)
    else
    some (1)) fun (v18 : Int32) =>
    pn ((z2 + v18)) fun x19 =>
    pn (z3 + 1) fun x20 =>
    lp_X9_count_116 n x19 x20 f
def lp_X9_count_150 : Nat → Int32 → Int32 → pd_M → Option (Int32)
  | 0, _, _, _ => none
  | n + 1, z2, z3, f =>
    if 4 ≤ z3 then
    some (z2)
    else
    if pa_in z3 4 = true then
    ob1 (if (f 132 z3.toNatClampNeg) = (-1000000) then
    some (0)
    else
    some (1)) fun (v27 : Int32) =>
    pn ((z2 + v27)) fun x28 =>
    pn (z3 + 1) fun x29 =>
    lp_X9_count_150 n x28 x29 f
    else none
def fn_X9_count (p1 : Int32) (f : pd_M) : Option (Int32 × pd_M) :=
  pn ((pi_up f 110 0 0)) fun f1 =>
  if p1 = 0 then
  ob1 (lp_X9_count_50 5000 0 0 f1) fun y9 =>
  some (y9, f1)
  else
  if p1 = 1 then
  some (((((f1 114 0) + (f1 114 1)) + (f1 114 2)) + (f1 114 3)), f1)
  else
  if p1 = 2 then
  some ((f1 110 12), f1)
  else
  if p1 = 3 then
  ob1 (lp_X9_count_116 5000 0 0 f1) fun y21 =>
  some (y21, f1)
  else
  if p1 = 4 then
  ob1 (lp_X9_count_150 5000 0 0 f1) fun y30 =>
  some (y30, f1)
  else
  if p1 = 5 then
  some ((f1 110 30), f1)
  else
  some ((-1000001), f1)
set_option maxRecDepth 100000 in
set_option maxHeartbeats 4000000 in
theorem tl_X9_count_50 (L : Nat) : ∀ (n : Nat) (z2 : Int32) (z3 : Int32) (f : pd_M) (w0 : Int32) (r : Option Value) (h2 : ph_T), lp_X9_count_50 n z2 z3 f = some (w0) → pr_G L 5 mt_X9_count (79, [(2, .int w0)], [], hH f) r h2 → pr_G L 5 mt_X9_count (50, [(0, .ref 110), (2, .int z2), (3, .int z3)], [], hH f) r h2 := by
  intro n
  induction n with
  | zero => intro z2 z3 f w0 r h2 e; cases e
  | succ n ih =>
    intro z2 z3 f w0 r h2 e K
    unfold lp_X9_count_50 at e
    refine gs_iload_n rfl rfl ?_
    refine gs_bipush (x := 8) rfl (by decide) ?_
    refine gs_ge2 rfl (fun c3 => ?_) (fun c3 => ?_)
    · rw [if_pos c3] at e
      obtain rfl := inj1 e
      refine gs_drop [1] rfl ?_
      exact K
    · rw [if_neg c3] at e
      refine gs_iload_n rfl rfl ?_
      refine gs_aload_n rfl rfl ?_
      refine gs_get rfl (gd_r (b := 111) rfl rfl rfl) ?_
      refine gs_iload_n rfl rfl ?_
      by_cases hb4 : pa_in z3 8 = true
      case neg => rw [if_neg hb4] at e; cases e
      rw [if_pos hb4] at e
      refine gs_iald rfl (gd_ia (j := z3.toNatClampNeg) rfl hb4 rfl) ?_
      obtain ⟨v6, ev71, e⟩ := ob1_some e
      have KJ71 : pr_G L 5 mt_X9_count (71, [(0, .ref 110), (3, .int z3)], [.int v6, .int z2], hH f) r h2 := by
        refine gs_iadd rfl ?_
        obtain ⟨x7, hx7, e⟩ := pn_some e
        refine gs_topi hx7 ?_
        refine gs_istore_n (lv' := [(2, .int x7), (0, .ref 110), (3, .int z3)]) rfl rfl ?_
        obtain ⟨x8, hx8, e⟩ := pn_some e
        refine gs_iinc1 (x1 := x8) (c := 1) (lv' := [(3, .int x8), (2, .int x7), (0, .ref 110)]) rfl rfl (by decide) hx8 rfl ?_
        refine gs_goto rfl ?_
        refine gs_drop [2, 1, 0] rfl ?_
        exact ih x7 x8 f w0 _ _ e K
      have e := ev71
      clear ev71
      refine gs_lt0 rfl (fun c5 => ?_) (fun c5 => ?_)
      · rw [if_pos c5] at e
        refine gs_iconst (x := 0) rfl (by decide) ?_
        obtain rfl := inj1 e
        refine gs_drop [0, 2] rfl ?_
        exact KJ71
      · rw [if_neg c5] at e
        refine gs_iconst (x := 1) rfl (by decide) ?_
        refine gs_goto rfl ?_
        obtain rfl := inj1 e
        refine gs_drop [0, 2] rfl ?_
        exact KJ71
set_option maxRecDepth 100000 in
set_option maxHeartbeats 4000000 in
theorem tl_X9_count_116 (L : Nat) : ∀ (n : Nat) (z2 : Int32) (z3 : Int32) (f : pd_M) (w0 : Int32) (r : Option Value) (h2 : ph_T), lp_X9_count_116 n z2 z3 f = some (w0) → pr_G L 5 mt_X9_count (146, [(2, .int w0)], [], hH f) r h2 → pr_G L 5 mt_X9_count (116, [(0, .ref 110), (2, .int z2), (3, .int z3)], [], hH f) r h2 := by
  intro n
  induction n with
  | zero => intro z2 z3 f w0 r h2 e; cases e
  | succ n ih =>
    intro z2 z3 f w0 r h2 e K
    unfold lp_X9_count_116 at e
    refine gs_iload_n rfl rfl ?_
    refine gs_aload_n rfl rfl ?_
    refine gs_get rfl (gd_i rfl rfl) ?_
    refine gs_ge2 rfl (fun c14 => ?_) (fun c14 => ?_)
    · rw [if_pos c14] at e
      obtain rfl := inj1 e
      refine gs_drop [1] rfl ?_
      exact K
    · rw [if_neg c14] at e
      refine gs_iload_n rfl rfl ?_
      refine gs_aload_n rfl rfl ?_
      refine gs_iload_n rfl rfl ?_
      obtain ⟨r15, ec16, e⟩ := ob1_some e
      refine gs_callvI (st := [.int z2]) rfl (pr_C_le (by decide) (th_X9_isKeptBySome L z3 f r15 ec16)) rfl rfl rfl (by decide) rfl (Or.inr (by decide)) ?_
      obtain ⟨v18, ev138, e⟩ := ob1_some e
      have KJ138 : pr_G L 5 mt_X9_count (138, [(0, .ref 110), (3, .int z3)], [.int v18, .int z2], hH f) r h2 := by
        refine gs_iadd rfl ?_
        obtain ⟨x19, hx19, e⟩ := pn_some e
        refine gs_topi hx19 ?_
        refine gs_istore_n (lv' := [(2, .int x19), (0, .ref 110), (3, .int z3)]) rfl rfl ?_
        obtain ⟨x20, hx20, e⟩ := pn_some e
        refine gs_iinc1 (x1 := x20) (c := 1) (lv' := [(3, .int x20), (2, .int x19), (0, .ref 110)]) rfl rfl (by decide) hx20 rfl ?_
        refine gs_goto rfl ?_
        refine gs_drop [2, 1, 0] rfl ?_
        exact ih x19 x20 f w0 _ _ e K
      have e := ev138
      clear ev138
      refine gs_eq0 rfl (fun c17 => ?_) (fun c17 => ?_)
      · rw [if_pos c17] at e
        refine gs_iconst (x := 0) rfl (by decide) ?_
        obtain rfl := inj1 e
        refine gs_drop [0, 2] rfl ?_
        exact KJ138
      · rw [if_neg c17] at e
        refine gs_iconst (x := 1) rfl (by decide) ?_
        refine gs_goto rfl ?_
        obtain rfl := inj1 e
        refine gs_drop [0, 2] rfl ?_
        exact KJ138
set_option maxRecDepth 100000 in
set_option maxHeartbeats 4000000 in
theorem tl_X9_count_150 (L : Nat) : ∀ (n : Nat) (z2 : Int32) (z3 : Int32) (f : pd_M) (w0 : Int32) (r : Option Value) (h2 : ph_T), lp_X9_count_150 n z2 z3 f = some (w0) → pr_G L 5 mt_X9_count (180, [(2, .int w0)], [], hH f) r h2 → pr_G L 5 mt_X9_count (150, [(0, .ref 110), (2, .int z2), (3, .int z3)], [], hH f) r h2 := by
  intro n
  induction n with
  | zero => intro z2 z3 f w0 r h2 e; cases e
  | succ n ih =>
    intro z2 z3 f w0 r h2 e K
    unfold lp_X9_count_150 at e
    refine gs_iload_n rfl rfl ?_
    refine gs_iconst (x := 4) rfl (by decide) ?_
    refine gs_ge2 rfl (fun c24 => ?_) (fun c24 => ?_)
    · rw [if_pos c24] at e
      obtain rfl := inj1 e
      refine gs_drop [1] rfl ?_
      exact K
    · rw [if_neg c24] at e
      refine gs_iload_n rfl rfl ?_
      refine gs_aload_n rfl rfl ?_
      refine gs_get rfl (gd_r (b := 132) rfl rfl rfl) ?_
      refine gs_iload_n rfl rfl ?_
      by_cases hb25 : pa_in z3 4 = true
      case neg => rw [if_neg hb25] at e; cases e
      rw [if_pos hb25] at e
      refine gs_iald rfl (gd_ia (j := z3.toNatClampNeg) rfl hb25 rfl) ?_
      refine gs_ldc (x := (-1000000)) rfl (by decide) ?_
      obtain ⟨v27, ev172, e⟩ := ob1_some e
      have KJ172 : pr_G L 5 mt_X9_count (172, [(0, .ref 110), (3, .int z3)], [.int v27, .int z2], hH f) r h2 := by
        refine gs_iadd rfl ?_
        obtain ⟨x28, hx28, e⟩ := pn_some e
        refine gs_topi hx28 ?_
        refine gs_istore_n (lv' := [(2, .int x28), (0, .ref 110), (3, .int z3)]) rfl rfl ?_
        obtain ⟨x29, hx29, e⟩ := pn_some e
        refine gs_iinc1 (x1 := x29) (c := 1) (lv' := [(3, .int x29), (2, .int x28), (0, .ref 110)]) rfl rfl (by decide) hx29 rfl ?_
        refine gs_goto rfl ?_
        refine gs_drop [2, 1, 0] rfl ?_
        exact ih x28 x29 f w0 _ _ e K
      have e := ev172
      clear ev172
      refine gs_ne2 rfl (fun c26 => ?_) (fun c26 => ?_)
      · rw [if_neg c26] at e
        refine gs_iconst (x := 1) rfl (by decide) ?_
        obtain rfl := inj1 e
        refine gs_drop [0, 2] rfl ?_
        exact KJ172
      · rw [if_pos c26] at e
        refine gs_iconst (x := 0) rfl (by decide) ?_
        refine gs_goto rfl ?_
        obtain rfl := inj1 e
        refine gs_drop [0, 2] rfl ?_
        exact KJ172
set_option maxRecDepth 100000 in
set_option maxHeartbeats 4000000 in
theorem th_X9_count (L : Nat) (p1 : Int32) (f : pd_M) (q : Int32) (g : pd_M) (e : fn_X9_count p1 f = some (q, g)) : pr_C L 6 183 [.ref 110, .int p1] (hH f) (some (.int q)) (hH g) := by
  refine pr_C.of (G := mt_X9_count) rfl rfl ?_
  show pr_G L 5 mt_X9_count (0, [(0, .ref 110), (1, .int p1)], [], hH f) _ _
  unfold fn_X9_count at e
  refine gs_aload_n rfl rfl ?_
  refine gs_iconst (x := 0) rfl (by decide) ?_
  refine gs_put rfl (gd_pi rfl rfl) ?_
  obtain ⟨f1, hf1, e⟩ := pn_some e
  refine gs_heap hf1 ?_
  refine gs_iconst (x := 0) rfl (by decide) ?_
  refine gs_istore_n (lv' := [(2, .int 0), (0, .ref 110), (1, .int p1)]) rfl rfl ?_
  refine gs_iload_n rfl rfl ?_
  by_cases c2 : p1 = 0
  · rw [if_pos c2] at e
    refine gs_switch (t := 48) rfl (by rw [c2]; decide) ?_
    refine gs_iconst (x := 0) rfl (by decide) ?_
    refine gs_istore_n (lv' := [(3, .int 0), (2, .int 0), (0, .ref 110), (1, .int p1)]) rfl rfl ?_
    refine gs_drop [2, 1, 0] rfl ?_
    obtain ⟨y9, el10, e⟩ := ob1_some e
    refine tl_X9_count_50 L 5000 0 0 f1 y9 _ _ el10 ?_
    refine gs_iload_n rfl rfl ?_
    obtain ⟨rfl, rfl⟩ := inj2 e
    exact gs_iret rfl rfl rfl rfl rfl
  · rw [if_neg c2] at e
    by_cases c11 : p1 = 1
    · rw [if_pos c11] at e
      refine gs_switch (t := 81) rfl (by rw [c11]; decide) ?_
      refine gs_aload_n rfl rfl ?_
      refine gs_get rfl (gd_r (b := 114) rfl rfl rfl) ?_
      refine gs_iconst (x := 0) rfl (by decide) ?_
      refine gs_iald rfl (gd_ia (j := 0) rfl (by decide) (by decide)) ?_
      refine gs_aload_n rfl rfl ?_
      refine gs_get rfl (gd_r (b := 114) rfl rfl rfl) ?_
      refine gs_iconst (x := 1) rfl (by decide) ?_
      refine gs_iald rfl (gd_ia (j := 1) rfl (by decide) (by decide)) ?_
      refine gs_iadd rfl ?_
      refine gs_aload_n rfl rfl ?_
      refine gs_get rfl (gd_r (b := 114) rfl rfl rfl) ?_
      refine gs_iconst (x := 2) rfl (by decide) ?_
      refine gs_iald rfl (gd_ia (j := 2) rfl (by decide) (by decide)) ?_
      refine gs_iadd rfl ?_
      refine gs_aload_n rfl rfl ?_
      refine gs_get rfl (gd_r (b := 114) rfl rfl rfl) ?_
      refine gs_iconst (x := 3) rfl (by decide) ?_
      refine gs_iald rfl (gd_ia (j := 3) rfl (by decide) (by decide)) ?_
      refine gs_iadd rfl ?_
      obtain ⟨rfl, rfl⟩ := inj2 e
      exact gs_iret rfl rfl rfl rfl rfl
    · rw [if_neg c11] at e
      by_cases c12 : p1 = 2
      · rw [if_pos c12] at e
        refine gs_switch (t := 109) rfl (by rw [c12]; decide) ?_
        refine gs_aload_n rfl rfl ?_
        refine gs_get rfl (gd_i rfl rfl) ?_
        obtain ⟨rfl, rfl⟩ := inj2 e
        exact gs_iret rfl rfl rfl rfl rfl
      · rw [if_neg c12] at e
        by_cases c13 : p1 = 3
        · rw [if_pos c13] at e
          refine gs_switch (t := 114) rfl (by rw [c13]; decide) ?_
          refine gs_iconst (x := 0) rfl (by decide) ?_
          refine gs_istore_n (lv' := [(3, .int 0), (2, .int 0), (0, .ref 110), (1, .int p1)]) rfl rfl ?_
          refine gs_drop [2, 1, 0] rfl ?_
          obtain ⟨y21, el22, e⟩ := ob1_some e
          refine tl_X9_count_116 L 5000 0 0 f1 y21 _ _ el22 ?_
          refine gs_iload_n rfl rfl ?_
          obtain ⟨rfl, rfl⟩ := inj2 e
          exact gs_iret rfl rfl rfl rfl rfl
        · rw [if_neg c13] at e
          by_cases c23 : p1 = 4
          · rw [if_pos c23] at e
            refine gs_switch (t := 148) rfl (by rw [c23]; decide) ?_
            refine gs_iconst (x := 0) rfl (by decide) ?_
            refine gs_istore_n (lv' := [(3, .int 0), (2, .int 0), (0, .ref 110), (1, .int p1)]) rfl rfl ?_
            refine gs_drop [2, 1, 0] rfl ?_
            obtain ⟨y30, el31, e⟩ := ob1_some e
            refine tl_X9_count_150 L 5000 0 0 f1 y30 _ _ el31 ?_
            refine gs_iload_n rfl rfl ?_
            obtain ⟨rfl, rfl⟩ := inj2 e
            exact gs_iret rfl rfl rfl rfl rfl
          · rw [if_neg c23] at e
            by_cases c32 : p1 = 5
            · rw [if_pos c32] at e
              refine gs_switch (t := 182) rfl (by rw [c32]; decide) ?_
              refine gs_aload_n rfl rfl ?_
              refine gs_get rfl (gd_i rfl rfl) ?_
              obtain ⟨rfl, rfl⟩ := inj2 e
              exact gs_iret rfl rfl rfl rfl rfl
            · rw [if_neg c32] at e
              refine gs_switch (t := 187) rfl (sw_out (lo := 0) (hi := 5) (by decide) (fun k hk => by
                rcases (by omega : k = 0 ∨ k = 1 ∨ k = 2 ∨ k = 3 ∨ k = 4 ∨ k = 5) with rfl | rfl | rfl | rfl | rfl | rfl
                · exact fun z => c2 (z.trans (by decide))
                · exact fun z => c11 (z.trans (by decide))
                · exact fun z => c12 (z.trans (by decide))
                · exact fun z => c13 (z.trans (by decide))
                · exact fun z => c23 (z.trans (by decide))
                · exact fun z => c32 (z.trans (by decide))) (by decide)) ?_
              refine gs_ldc (x := (-1000001)) rfl (by decide) ?_
              obtain ⟨rfl, rfl⟩ := inj2 e
              exact gs_iret rfl rfl rfl rfl rfl
def fn_X9_status (f : pd_M) : Option (Int32 × pd_M) :=
  pn ((pi_up f 110 0 0)) fun f1 =>
  some ((f1 110 1), f1)
set_option maxRecDepth 100000 in
set_option maxHeartbeats 4000000 in
theorem th_X9_status (L : Nat)  (f : pd_M) (q : Int32) (g : pd_M) (e : fn_X9_status f = some (q, g)) : pr_C L 1 184 [.ref 110] (hH f) (some (.int q)) (hH g) := by
  refine pr_C.of (G := mt_X9_status) rfl rfl ?_
  show pr_G L 0 mt_X9_status (0, [(0, .ref 110)], [], hH f) _ _
  unfold fn_X9_status at e
  refine gs_aload_n rfl rfl ?_
  refine gs_iconst (x := 0) rfl (by decide) ?_
  refine gs_put rfl (gd_pi rfl rfl) ?_
  obtain ⟨f1, hf1, e⟩ := pn_some e
  refine gs_heap hf1 ?_
  refine gs_aload_n rfl rfl ?_
  refine gs_get rfl (gd_i rfl rfl) ?_
  obtain ⟨rfl, rfl⟩ := inj2 e
  exact gs_iret rfl rfl rfl rfl rfl
