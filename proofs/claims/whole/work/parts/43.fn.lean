def fn_X5_cut (a0 : Nat) (p1 : Int32) (f : pd_M) : Option (Int32) :=
  if sk a0 = (15, 4) then
  if (f a0 2) = 0 then
  some p1.toInt8.toInt32
  else
  if (f a0 2) = 1 then
  some p1.toInt16.toInt32
  else
  some p1
  else none
set_option maxRecDepth 100000 in
set_option maxHeartbeats 4000000 in
theorem th_X5_cut (L : Nat) (a0 : Nat) (p1 : Int32) (f : pd_M) (q : Int32) (e : fn_X5_cut a0 p1 f = some q) : pr_C L 1 33 [.ref a0, .int p1] (hH f) (some (.int q)) (hH f) := by
  refine pr_C.of (G := mt_X5_cut) rfl rfl ?_
  show pr_G L 0 mt_X5_cut (0, [(0, .ref a0), (1, .int p1)], [], hH f) _ _
  unfold fn_X5_cut at e
  by_cases hk0 : sk a0 = (15, 4)
  case neg => rw [if_neg hk0] at e; cases e
  rw [if_pos hk0] at e
  refine gs_aload_n rfl rfl ?_
  refine gs_get rfl (gd_i (sh_of hk0 (by decide)) rfl) ?_
  refine gs_ne0 rfl (fun c1 => ?_) (fun c1 => ?_)
  · rw [if_neg c1] at e
    refine gs_aload_n rfl rfl ?_
    refine gs_get rfl (gd_i (sh_of hk0 (by decide)) rfl) ?_
    refine gs_iconst (x := 1) rfl (by decide) ?_
    refine gs_ne2 rfl (fun c2 => ?_) (fun c2 => ?_)
    · rw [if_neg c2] at e
      refine gs_iload_n rfl rfl ?_
      obtain rfl := inj1 e
      exact gs_iret rfl rfl rfl rfl rfl
    · rw [if_pos c2] at e
      refine gs_iload_n rfl rfl ?_
      refine gs_i2s rfl ?_
      refine gs_goto rfl ?_
      obtain rfl := inj1 e
      exact gs_iret rfl rfl rfl rfl rfl
  · rw [if_pos c1] at e
    refine gs_iload_n rfl rfl ?_
    refine gs_i2b rfl ?_
    obtain rfl := inj1 e
    exact gs_iret rfl rfl rfl rfl rfl
def fn_X5_reaches (a0 : Nat) (p1 : Int32) (p2 : Int32) (f : pd_M) : Option (Int32) :=
  if sk a0 = (15, 4) then
  if p1 < 0 then
  some 0
  else
  if p2 < 0 then
  some 0
  else
  if (f a0 3) < p1 then
  some 0
  else
  if ((f a0 3) - p1) < p2 then
  some 0
  else
  some 1
  else none
set_option maxRecDepth 100000 in
set_option maxHeartbeats 4000000 in
theorem th_X5_reaches (L : Nat) (a0 : Nat) (p1 : Int32) (p2 : Int32) (f : pd_M) (q : Int32) (e : fn_X5_reaches a0 p1 p2 f = some q) : pr_C L 1 34 [.ref a0, .int p1, .int p2] (hH f) (some (.int q)) (hH f) := by
  refine pr_C.of (G := mt_X5_reaches) rfl rfl ?_
  show pr_G L 0 mt_X5_reaches (0, [(0, .ref a0), (1, .int p1), (2, .int p2)], [], hH f) _ _
  unfold fn_X5_reaches at e
  by_cases hk0 : sk a0 = (15, 4)
  case neg => rw [if_neg hk0] at e; cases e
  rw [if_pos hk0] at e
  refine gs_iload_n rfl rfl ?_
  refine gs_lt0 rfl (fun c1 => ?_) (fun c1 => ?_)
  · rw [if_pos c1] at e
    refine gs_iconst (x := 0) rfl (by decide) ?_
    obtain rfl := inj1 e
    exact gs_iret rfl rfl (by decide) rfl rfl
  · rw [if_neg c1] at e
    refine gs_iload_n rfl rfl ?_
    refine gs_lt0 rfl (fun c2 => ?_) (fun c2 => ?_)
    · rw [if_pos c2] at e
      refine gs_iconst (x := 0) rfl (by decide) ?_
      obtain rfl := inj1 e
      exact gs_iret rfl rfl (by decide) rfl rfl
    · rw [if_neg c2] at e
      refine gs_iload_n rfl rfl ?_
      refine gs_aload_n rfl rfl ?_
      refine gs_get rfl (gd_i (sh_of hk0 (by decide)) rfl) ?_
      refine gs_gt2 rfl (fun c3 => ?_) (fun c3 => ?_)
      · rw [if_pos c3] at e
        refine gs_iconst (x := 0) rfl (by decide) ?_
        obtain rfl := inj1 e
        exact gs_iret rfl rfl (by decide) rfl rfl
      · rw [if_neg c3] at e
        refine gs_iload_n rfl rfl ?_
        refine gs_aload_n rfl rfl ?_
        refine gs_get rfl (gd_i (sh_of hk0 (by decide)) rfl) ?_
        refine gs_iload_n rfl rfl ?_
        refine gs_isub rfl ?_
        refine gs_gt2 rfl (fun c4 => ?_) (fun c4 => ?_)
        · rw [if_pos c4] at e
          refine gs_iconst (x := 0) rfl (by decide) ?_
          obtain rfl := inj1 e
          exact gs_iret rfl rfl (by decide) rfl rfl
        · rw [if_neg c4] at e
          refine gs_iconst (x := 1) rfl (by decide) ?_
          refine gs_goto rfl ?_
          obtain rfl := inj1 e
          exact gs_iret rfl rfl (by decide) rfl rfl
def fn_X6_isLetter (p1 : Int32) : Int32 :=
  if p1 < 97 then
  0
  else
  if 122 < p1 then
  0
  else
  1
set_option maxRecDepth 100000 in
set_option maxHeartbeats 4000000 in
theorem th_X6_isLetter (L : Nat) (p1 : Int32) (f : pd_M) (q : Int32) (e : fn_X6_isLetter p1 = q) : pr_C L 1 43 [.int p1] (hH f) (some (.int q)) (hH f) := by
  refine pr_C.of (G := mt_X6_isLetter) rfl rfl ?_
  show pr_G L 0 mt_X6_isLetter (0, [(0, .int p1)], [], hH f) _ _
  unfold fn_X6_isLetter at e
  refine gs_iload_n rfl rfl ?_
  refine gs_bipush (x := 97) rfl (by decide) ?_
  refine gs_lt2 rfl (fun c1 => ?_) (fun c1 => ?_)
  · rw [if_pos c1] at e
    refine gs_iconst (x := 0) rfl (by decide) ?_
    subst e
    exact gs_iret rfl rfl (by decide) rfl rfl
  · rw [if_neg c1] at e
    refine gs_iload_n rfl rfl ?_
    refine gs_bipush (x := 122) rfl (by decide) ?_
    refine gs_gt2 rfl (fun c2 => ?_) (fun c2 => ?_)
    · rw [if_pos c2] at e
      refine gs_iconst (x := 0) rfl (by decide) ?_
      subst e
      exact gs_iret rfl rfl (by decide) rfl rfl
    · rw [if_neg c2] at e
      refine gs_iconst (x := 1) rfl (by decide) ?_
      refine gs_goto rfl ?_
      subst e
      exact gs_iret rfl rfl (by decide) rfl rfl
def fn_X6_isFigure (p1 : Int32) : Int32 :=
  if p1 < 48 then
  0
  else
  if 57 < p1 then
  0
  else
  1
set_option maxRecDepth 100000 in
set_option maxHeartbeats 4000000 in
theorem th_X6_isFigure (L : Nat) (p1 : Int32) (f : pd_M) (q : Int32) (e : fn_X6_isFigure p1 = q) : pr_C L 1 44 [.int p1] (hH f) (some (.int q)) (hH f) := by
  refine pr_C.of (G := mt_X6_isFigure) rfl rfl ?_
  show pr_G L 0 mt_X6_isFigure (0, [(0, .int p1)], [], hH f) _ _
  unfold fn_X6_isFigure at e
  refine gs_iload_n rfl rfl ?_
  refine gs_bipush (x := 48) rfl (by decide) ?_
  refine gs_lt2 rfl (fun c1 => ?_) (fun c1 => ?_)
  · rw [if_pos c1] at e
    refine gs_iconst (x := 0) rfl (by decide) ?_
    subst e
    exact gs_iret rfl rfl (by decide) rfl rfl
  · rw [if_neg c1] at e
    refine gs_iload_n rfl rfl ?_
    refine gs_bipush (x := 57) rfl (by decide) ?_
    refine gs_gt2 rfl (fun c2 => ?_) (fun c2 => ?_)
    · rw [if_pos c2] at e
      refine gs_iconst (x := 0) rfl (by decide) ?_
      subst e
      exact gs_iret rfl rfl (by decide) rfl rfl
    · rw [if_neg c2] at e
      refine gs_iconst (x := 1) rfl (by decide) ?_
      refine gs_goto rfl ?_
      subst e
      exact gs_iret rfl rfl (by decide) rfl rfl
def fn_X6_beginsToken (p1 : Int32) (f : pd_M) : Option (Int32) :=
  if pa_in p1 500 = true then
  pn ((f 36 p1.toNatClampNeg)) fun x2 =>
  if x2 = 32 then
  some 0
  else
  if x2 = 10 then
  some 0
  else
  if p1 = 0 then
  some 1
  else
  if pa_in (p1 - 1) 500 = true then
  pn ((f 36 (p1 - 1).toNatClampNeg)) fun x7 =>
  if (fn_X6_isLetter x2) = 0 then
  if (fn_X6_isFigure x2) = 0 then
  some 1
  else
  if (fn_X6_isFigure x7) = 0 then
  some 1
  else
  some 0
  else
  if (fn_X6_isLetter x7) = 0 then
  if (fn_X6_isFigure x2) = 0 then
  some 1
  else
  if (fn_X6_isFigure x7) = 0 then
  some 1
  else
  some 0
  else
  some 0
  else none
  else none
set_option maxRecDepth 100000 in
set_option maxHeartbeats 4000000 in
theorem th_X6_beginsToken (L : Nat) (p1 : Int32) (f : pd_M) (q : Int32) (e : fn_X6_beginsToken p1 f = some q) : pr_C L 2 37 [.ref 35, .int p1] (hH f) (some (.int q)) (hH f) := by
  refine pr_C.of (G := mt_X6_beginsToken) rfl rfl ?_
  show pr_G L 1 mt_X6_beginsToken (0, [(0, .ref 35), (1, .int p1)], [], hH f) _ _
  unfold fn_X6_beginsToken at e
  refine gs_aload_n rfl rfl ?_
  refine gs_get rfl (gd_r (b := 36) rfl rfl rfl) ?_
  refine gs_iload_n rfl rfl ?_
  by_cases hb1 : pa_in p1 500 = true
  case neg => rw [if_neg hb1] at e; cases e
  rw [if_pos hb1] at e
  refine gs_bald rfl (gd_ba (j := p1.toNatClampNeg) rfl hb1 rfl) ?_
  obtain ⟨x2, hx2, e⟩ := pn_some e
  refine gs_topi hx2 ?_
  refine gs_istore_n (lv' := [(2, .int x2), (0, .ref 35), (1, .int p1)]) rfl rfl ?_
  refine gs_iload_n rfl rfl ?_
  refine gs_bipush (x := 32) rfl (by decide) ?_
  refine gs_eq2 rfl (fun c3 => ?_) (fun c3 => ?_)
  · rw [if_pos c3] at e
    refine gs_iconst (x := 0) rfl (by decide) ?_
    obtain rfl := inj1 e
    exact gs_iret rfl rfl (by decide) rfl rfl
  · rw [if_neg c3] at e
    refine gs_iload_n rfl rfl ?_
    refine gs_bipush (x := 10) rfl (by decide) ?_
    refine gs_ne2 rfl (fun c4 => ?_) (fun c4 => ?_)
    · rw [if_neg c4] at e
      refine gs_iload_n rfl rfl ?_
      refine gs_ne0 rfl (fun c5 => ?_) (fun c5 => ?_)
      · rw [if_neg c5] at e
        refine gs_aload_n rfl rfl ?_
        refine gs_get rfl (gd_r (b := 36) rfl rfl rfl) ?_
        refine gs_iload_n rfl rfl ?_
        refine gs_iconst (x := 1) rfl (by decide) ?_
        refine gs_isub rfl ?_
        by_cases hb6 : pa_in (p1 - 1) 500 = true
        case neg => rw [if_neg hb6] at e; cases e
        rw [if_pos hb6] at e
        refine gs_bald rfl (gd_ba (j := (p1 - 1).toNatClampNeg) rfl hb6 rfl) ?_
        obtain ⟨x7, hx7, e⟩ := pn_some e
        refine gs_topi hx7 ?_
        refine gs_istore_n (lv' := [(3, .int x7), (2, .int x2), (0, .ref 35), (1, .int p1)]) rfl rfl ?_
        refine gs_iload_n rfl rfl ?_
        refine gs_callsI (st := []) rfl (pr_C_le (by decide) (th_X6_isLetter L x2 f _ rfl)) rfl rfl rfl (by decide) ?_
        refine gs_eq0 rfl (fun c8 => ?_) (fun c8 => ?_)
        · rw [if_pos c8] at e
          refine gs_iload_n rfl rfl ?_
          refine gs_callsI (st := []) rfl (pr_C_le (by decide) (th_X6_isFigure L x2 f _ rfl)) rfl rfl rfl (by decide) ?_
          refine gs_eq0 rfl (fun c9 => ?_) (fun c9 => ?_)
          · rw [if_pos c9] at e
            refine gs_iconst (x := 1) rfl (by decide) ?_
            refine gs_goto rfl ?_
            obtain rfl := inj1 e
            exact gs_iret rfl rfl (by decide) rfl rfl
          · rw [if_neg c9] at e
            refine gs_iload_n rfl rfl ?_
            refine gs_callsI (st := []) rfl (pr_C_le (by decide) (th_X6_isFigure L x7 f _ rfl)) rfl rfl rfl (by decide) ?_
            refine gs_ne0 rfl (fun c10 => ?_) (fun c10 => ?_)
            · rw [if_neg c10] at e
              refine gs_iconst (x := 0) rfl (by decide) ?_
              obtain rfl := inj1 e
              exact gs_iret rfl rfl (by decide) rfl rfl
            · rw [if_pos c10] at e
              refine gs_iconst (x := 1) rfl (by decide) ?_
              refine gs_goto rfl ?_
              obtain rfl := inj1 e
              exact gs_iret rfl rfl (by decide) rfl rfl
        · rw [if_neg c8] at e
          refine gs_iload_n rfl rfl ?_
          refine gs_callsI (st := []) rfl (pr_C_le (by decide) (th_X6_isLetter L x7 f _ rfl)) rfl rfl rfl (by decide) ?_
          refine gs_ne0 rfl (fun c11 => ?_) (fun c11 => ?_)
          · rw [if_neg c11] at e
            refine gs_iconst (x := 0) rfl (by decide) ?_
            obtain rfl := inj1 e
            exact gs_iret rfl rfl (by decide) rfl rfl
          · rw [if_pos c11] at e
            refine gs_iload_n rfl rfl ?_
            refine gs_callsI (st := []) rfl (pr_C_le (by decide) (th_X6_isFigure L x2 f _ rfl)) rfl rfl rfl (by decide) ?_
            refine gs_eq0 rfl (fun c12 => ?_) (fun c12 => ?_)
            · rw [if_pos c12] at e
              refine gs_iconst (x := 1) rfl (by decide) ?_
              refine gs_goto rfl ?_
              obtain rfl := inj1 e
              exact gs_iret rfl rfl (by decide) rfl rfl
            · rw [if_neg c12] at e
              refine gs_iload_n rfl rfl ?_
              refine gs_callsI (st := []) rfl (pr_C_le (by decide) (th_X6_isFigure L x7 f _ rfl)) rfl rfl rfl (by decide) ?_
              refine gs_ne0 rfl (fun c13 => ?_) (fun c13 => ?_)
              · rw [if_neg c13] at e
                refine gs_iconst (x := 0) rfl (by decide) ?_
                obtain rfl := inj1 e
                exact gs_iret rfl rfl (by decide) rfl rfl
              · rw [if_pos c13] at e
                refine gs_iconst (x := 1) rfl (by decide) ?_
                refine gs_goto rfl ?_
                obtain rfl := inj1 e
                exact gs_iret rfl rfl (by decide) rfl rfl
      · rw [if_pos c5] at e
        refine gs_iconst (x := 1) rfl (by decide) ?_
        obtain rfl := inj1 e
        exact gs_iret rfl rfl (by decide) rfl rfl
    · rw [if_pos c4] at e
      refine gs_iconst (x := 0) rfl (by decide) ?_
      obtain rfl := inj1 e
      exact gs_iret rfl rfl (by decide) rfl rfl
def lp_X6_endOfToken_54 : Nat → Int32 → pd_M → Option (Int32)
  | 0, _, _ => none
  | n + 1, z2, f =>
    if (f 35 3) ≤ z2 then
    some (z2)
    else
    if pa_in z2 500 = true then
    if (fn_X6_isFigure (f 36 z2.toNatClampNeg)) = 0 then
    some (z2)
    else
    pn (z2 + 1) fun x9 =>
    lp_X6_endOfToken_54 n x9 f
    else none
def lp_X6_endOfToken_16 : Nat → Int32 → pd_M → Option (Int32)
  | 0, _, _ => none
  | n + 1, z2, f =>
    if (f 35 3) ≤ z2 then
    some (z2)
    else
    if pa_in z2 500 = true then
    if (fn_X6_isLetter (f 36 z2.toNatClampNeg)) = 0 then
    some (z2)
    else
    pn (z2 + 1) fun x15 =>
    lp_X6_endOfToken_16 n x15 f
    else none
def fn_X6_endOfToken (p1 : Int32) (f : pd_M) : Option (Int32) :=
  pn ((p1 + 1)) fun x1 =>
  if pa_in p1 500 = true then
  if (fn_X6_isLetter (f 36 p1.toNatClampNeg)) = 0 then
  if pa_in p1 500 = true then
  if (fn_X6_isFigure (f 36 p1.toNatClampNeg)) = 0 then
  some x1
  else
  ob1 (lp_X6_endOfToken_54 5000 x1 f) fun y10 =>
  some y10
  else none
  else
  ob1 (lp_X6_endOfToken_16 5000 x1 f) fun y16 =>
  some y16
  else none
set_option maxRecDepth 100000 in
set_option maxHeartbeats 4000000 in
theorem tl_X6_endOfToken_54 (L : Nat) : ∀ (n : Nat) (z2 : Int32) (f : pd_M) (w0 : Int32) (r : Option Value) (h2 : ph_T), lp_X6_endOfToken_54 n z2 f = some (w0) → pr_G L 1 mt_X6_endOfToken (80, [(2, .int w0)], [], hH f) r h2 → pr_G L 1 mt_X6_endOfToken (54, [(0, .ref 35), (2, .int z2)], [], hH f) r h2 := by
  intro n
  induction n with
  | zero => intro z2 f w0 r h2 e; cases e
  | succ n ih =>
    intro z2 f w0 r h2 e K
    unfold lp_X6_endOfToken_54 at e
    refine gs_iload_n rfl rfl ?_
    refine gs_aload_n rfl rfl ?_
    refine gs_get rfl (gd_i rfl rfl) ?_
    refine gs_ge2 rfl (fun c6 => ?_) (fun c6 => ?_)
    · rw [if_pos c6] at e
      obtain rfl := inj1 e
      refine gs_drop [1] rfl ?_
      exact K
    · rw [if_neg c6] at e
      refine gs_aload_n rfl rfl ?_
      refine gs_get rfl (gd_r (b := 36) rfl rfl rfl) ?_
      refine gs_iload_n rfl rfl ?_
      by_cases hb7 : pa_in z2 500 = true
      case neg => rw [if_neg hb7] at e; cases e
      rw [if_pos hb7] at e
      refine gs_bald rfl (gd_ba (j := z2.toNatClampNeg) rfl hb7 rfl) ?_
      refine gs_callsI (st := []) rfl (pr_C_le (by decide) (th_X6_isFigure L (f 36 z2.toNatClampNeg) f _ rfl)) rfl rfl rfl (by decide) ?_
      refine gs_eq0 rfl (fun c8 => ?_) (fun c8 => ?_)
      · rw [if_pos c8] at e
        obtain rfl := inj1 e
        refine gs_drop [1] rfl ?_
        exact K
      · rw [if_neg c8] at e
        obtain ⟨x9, hx9, e⟩ := pn_some e
        refine gs_iinc1 (x1 := x9) (c := 1) (lv' := [(2, .int x9), (0, .ref 35)]) rfl rfl (by decide) hx9 rfl ?_
        refine gs_goto rfl ?_
        refine gs_drop [1, 0] rfl ?_
        exact ih x9 f w0 _ _ e K
set_option maxRecDepth 100000 in
set_option maxHeartbeats 4000000 in
theorem tl_X6_endOfToken_16 (L : Nat) : ∀ (n : Nat) (z2 : Int32) (f : pd_M) (w0 : Int32) (r : Option Value) (h2 : ph_T), lp_X6_endOfToken_16 n z2 f = some (w0) → pr_G L 1 mt_X6_endOfToken (80, [(2, .int w0)], [], hH f) r h2 → pr_G L 1 mt_X6_endOfToken (16, [(0, .ref 35), (2, .int z2)], [], hH f) r h2 := by
  intro n
  induction n with
  | zero => intro z2 f w0 r h2 e; cases e
  | succ n ih =>
    intro z2 f w0 r h2 e K
    unfold lp_X6_endOfToken_16 at e
    refine gs_iload_n rfl rfl ?_
    refine gs_aload_n rfl rfl ?_
    refine gs_get rfl (gd_i rfl rfl) ?_
    refine gs_ge2 rfl (fun c12 => ?_) (fun c12 => ?_)
    · rw [if_pos c12] at e
      obtain rfl := inj1 e
      refine gs_drop [1] rfl ?_
      exact K
    · rw [if_neg c12] at e
      refine gs_aload_n rfl rfl ?_
      refine gs_get rfl (gd_r (b := 36) rfl rfl rfl) ?_
      refine gs_iload_n rfl rfl ?_
      by_cases hb13 : pa_in z2 500 = true
      case neg => rw [if_neg hb13] at e; cases e
      rw [if_pos hb13] at e
      refine gs_bald rfl (gd_ba (j := z2.toNatClampNeg) rfl hb13 rfl) ?_
      refine gs_callsI (st := []) rfl (pr_C_le (by decide) (th_X6_isLetter L (f 36 z2.toNatClampNeg) f _ rfl)) rfl rfl rfl (by decide) ?_
      refine gs_eq0 rfl (fun c14 => ?_) (fun c14 => ?_)
      · rw [if_pos c14] at e
        obtain rfl := inj1 e
        refine gs_drop [1] rfl ?_
        exact K
      · rw [if_neg c14] at e
        obtain ⟨x15, hx15, e⟩ := pn_some e
        refine gs_iinc1 (x1 := x15) (c := 1) (lv' := [(2, .int x15), (0, .ref 35)]) rfl rfl (by decide) hx15 rfl ?_
        refine gs_goto rfl ?_
        refine gs_drop [1, 0] rfl ?_
        exact ih x15 f w0 _ _ e K
set_option maxRecDepth 100000 in
set_option maxHeartbeats 4000000 in
theorem th_X6_endOfToken (L : Nat) (p1 : Int32) (f : pd_M) (q : Int32) (e : fn_X6_endOfToken p1 f = some q) : pr_C L 2 38 [.ref 35, .int p1] (hH f) (some (.int q)) (hH f) := by
  refine pr_C.of (G := mt_X6_endOfToken) rfl rfl ?_
  show pr_G L 1 mt_X6_endOfToken (0, [(0, .ref 35), (1, .int p1)], [], hH f) _ _
  unfold fn_X6_endOfToken at e
  refine gs_iload_n rfl rfl ?_
  refine gs_iconst (x := 1) rfl (by decide) ?_
  refine gs_iadd rfl ?_
  obtain ⟨x1, hx1, e⟩ := pn_some e
  refine gs_topi hx1 ?_
  refine gs_istore_n (lv' := [(2, .int x1), (0, .ref 35), (1, .int p1)]) rfl rfl ?_
  refine gs_aload_n rfl rfl ?_
  refine gs_get rfl (gd_r (b := 36) rfl rfl rfl) ?_
  refine gs_iload_n rfl rfl ?_
  by_cases hb2 : pa_in p1 500 = true
  case neg => rw [if_neg hb2] at e; cases e
  rw [if_pos hb2] at e
  refine gs_bald rfl (gd_ba (j := p1.toNatClampNeg) rfl hb2 rfl) ?_
  refine gs_callsI (st := []) rfl (pr_C_le (by decide) (th_X6_isLetter L (f 36 p1.toNatClampNeg) f _ rfl)) rfl rfl rfl (by decide) ?_
  refine gs_eq0 rfl (fun c3 => ?_) (fun c3 => ?_)
  · rw [if_pos c3] at e
    refine gs_aload_n rfl rfl ?_
    refine gs_get rfl (gd_r (b := 36) rfl rfl rfl) ?_
    refine gs_iload_n rfl rfl ?_
    by_cases hb4 : pa_in p1 500 = true
    case neg => rw [if_neg hb4] at e; cases e
    rw [if_pos hb4] at e
    refine gs_bald rfl (gd_ba (j := p1.toNatClampNeg) rfl hb4 rfl) ?_
    refine gs_callsI (st := []) rfl (pr_C_le (by decide) (th_X6_isFigure L (f 36 p1.toNatClampNeg) f _ rfl)) rfl rfl rfl (by decide) ?_
    refine gs_eq0 rfl (fun c5 => ?_) (fun c5 => ?_)
    · rw [if_pos c5] at e
      refine gs_iload_n rfl rfl ?_
      obtain rfl := inj1 e
      exact gs_iret rfl rfl rfl rfl rfl
    · rw [if_neg c5] at e
      refine gs_drop [1, 0] rfl ?_
      obtain ⟨y10, el11, e⟩ := ob1_some e
      refine tl_X6_endOfToken_54 L 5000 x1 f y10 _ _ el11 ?_
      refine gs_iload_n rfl rfl ?_
      obtain rfl := inj1 e
      exact gs_iret rfl rfl rfl rfl rfl
  · rw [if_neg c3] at e
    refine gs_drop [1, 0] rfl ?_
    obtain ⟨y16, el17, e⟩ := ob1_some e
    refine tl_X6_endOfToken_16 L 5000 x1 f y16 _ _ el17 ?_
    refine gs_iload_n rfl rfl ?_
    obtain rfl := inj1 e
    exact gs_iret rfl rfl rfl rfl rfl
def fn_X6_numberOf (p1 : Int32) (p2 : Int32) (f : pd_M) : Option (Int32) :=
  if pa_in (p2 - 1) 500 = true then
  pn (((f 36 (p2 - 1).toNatClampNeg) - 48)) fun x2 =>
  if (p2 - p1) = 1 then
  some x2
  else
  if (p2 - p1) = 2 then
  if pa_in p1 500 = true then
  some ((10 * ((f 36 p1.toNatClampNeg) - 48)) + x2)
  else none
  else
  some 109
  else none
set_option maxRecDepth 100000 in
set_option maxHeartbeats 4000000 in
theorem th_X6_numberOf (L : Nat) (p1 : Int32) (p2 : Int32) (f : pd_M) (q : Int32) (e : fn_X6_numberOf p1 p2 f = some q) : pr_C L 1 40 [.ref 35, .int p1, .int p2] (hH f) (some (.int q)) (hH f) := by
  refine pr_C.of (G := mt_X6_numberOf) rfl rfl ?_
  show pr_G L 0 mt_X6_numberOf (0, [(0, .ref 35), (1, .int p1), (2, .int p2)], [], hH f) _ _
  unfold fn_X6_numberOf at e
  refine gs_aload_n rfl rfl ?_
  refine gs_get rfl (gd_r (b := 36) rfl rfl rfl) ?_
  refine gs_iload_n rfl rfl ?_
  refine gs_iconst (x := 1) rfl (by decide) ?_
  refine gs_isub rfl ?_
  by_cases hb1 : pa_in (p2 - 1) 500 = true
  case neg => rw [if_neg hb1] at e; cases e
  rw [if_pos hb1] at e
  refine gs_bald rfl (gd_ba (j := (p2 - 1).toNatClampNeg) rfl hb1 rfl) ?_
  refine gs_bipush (x := 48) rfl (by decide) ?_
  refine gs_isub rfl ?_
  obtain ⟨x2, hx2, e⟩ := pn_some e
  refine gs_topi hx2 ?_
  refine gs_istore_n (lv' := [(3, .int x2), (0, .ref 35), (1, .int p1), (2, .int p2)]) rfl rfl ?_
  refine gs_iload_n rfl rfl ?_
  refine gs_iload_n rfl rfl ?_
  refine gs_isub rfl ?_
  refine gs_iconst (x := 1) rfl (by decide) ?_
  refine gs_ne2 rfl (fun c3 => ?_) (fun c3 => ?_)
  · rw [if_neg c3] at e
    refine gs_iload_n rfl rfl ?_
    refine gs_iload_n rfl rfl ?_
    refine gs_isub rfl ?_
    refine gs_iconst (x := 2) rfl (by decide) ?_
    refine gs_ne2 rfl (fun c4 => ?_) (fun c4 => ?_)
    · rw [if_neg c4] at e
      refine gs_bipush (x := 109) rfl (by decide) ?_
      obtain rfl := inj1 e
      exact gs_iret rfl rfl rfl rfl rfl
    · rw [if_pos c4] at e
      refine gs_bipush (x := 10) rfl (by decide) ?_
      refine gs_aload_n rfl rfl ?_
      refine gs_get rfl (gd_r (b := 36) rfl rfl rfl) ?_
      refine gs_iload_n rfl rfl ?_
      by_cases hb5 : pa_in p1 500 = true
      case neg => rw [if_neg hb5] at e; cases e
      rw [if_pos hb5] at e
      refine gs_bald rfl (gd_ba (j := p1.toNatClampNeg) rfl hb5 rfl) ?_
      refine gs_bipush (x := 48) rfl (by decide) ?_
      refine gs_isub rfl ?_
      refine gs_imul rfl ?_
      refine gs_iload_n rfl rfl ?_
      refine gs_iadd rfl ?_
      refine gs_goto rfl ?_
      obtain rfl := inj1 e
      exact gs_iret rfl rfl rfl rfl rfl
  · rw [if_pos c3] at e
    refine gs_iload_n rfl rfl ?_
    obtain rfl := inj1 e
    exact gs_iret rfl rfl rfl rfl rfl
def lp_X6_spells_15 : Nat → Int32 → Int32 → Nat → Int32 → pd_M → Option ((Int32) ⊕ (Unit))
  | 0, _, _, _, _, _ => none
  | n + 1, z1, z2, z3, z4, f =>
    if 3 ≤ z3 ∧ z3 < 10 then
    if z2 ≤ z4 then
    some (.inr ())
    else
    if pa_in z4 500 = true then
    ob1 (fn_J0_charAt_5068e z3 (z4 - z1) f) fun r6 =>
    if (f 36 z4.toNatClampNeg) = r6 then
    pn (z4 + 1) fun x9 =>
    lp_X6_spells_15 n z1 z2 z3 x9 f
    else
    some (.inl 0)
    else none
    else none
def fn_X6_spells (p1 : Int32) (p2 : Int32) (p3 : Nat) (f : pd_M) : Option (Int32) :=
  if 3 ≤ p3 ∧ p3 < 10 then
  ob1 (fn_J0_length_8abf5 p3) fun r1 =>
  if (p2 - p1) = r1 then
  os0 (lp_X6_spells_15 5000 p1 p2 p3 p1 f) (fun q => some q) (
  some 1)
  else
  some 0
  else none
set_option maxRecDepth 100000 in
set_option maxHeartbeats 4000000 in
theorem tl_X6_spells_15 (L : Nat) : ∀ (n : Nat) (z1 : Int32) (z2 : Int32) (z3 : Nat) (z4 : Int32) (f : pd_M) (o : (Int32) ⊕ (Unit)), lp_X6_spells_15 n z1 z2 z3 z4 f = some o → (∀ q, o = .inl q → pr_G L 4 mt_X6_spells (15, [(0, .ref 35), (1, .int z1), (2, .int z2), (3, .ref z3), (4, .int z4)], [], hH f) (some (.int q)) (hH f)) ∧ (∀ (_ : Unit), o = .inr () → ∀ (r : Option Value) (h2 : ph_T), pr_G L 4 mt_X6_spells (47, [], [], hH f) r h2 → pr_G L 4 mt_X6_spells (15, [(0, .ref 35), (1, .int z1), (2, .int z2), (3, .ref z3), (4, .int z4)], [], hH f) r h2) := by
  intro n
  induction n with
  | zero => intro z1 z2 z3 z4 f o e; cases e
  | succ n ih =>
    intro z1 z2 z3 z4 f o e
    refine ⟨fun q hq => ?_, fun _ hq r h2 K => ?_⟩
    · subst hq
      unfold lp_X6_spells_15 at e
      by_cases hk3 : 3 ≤ z3 ∧ z3 < 10
      case neg => rw [if_neg hk3] at e; cases e
      rw [if_pos hk3] at e
      refine gs_iload rfl rfl ?_
      refine gs_iload_n rfl rfl ?_
      refine gs_ge2 rfl (fun c4 => ?_) (fun c4 => ?_)
      · rw [if_pos c4] at e
        cases e
      · rw [if_neg c4] at e
        refine gs_aload_n rfl rfl ?_
        refine gs_get rfl (gd_r (b := 36) rfl rfl rfl) ?_
        refine gs_iload rfl rfl ?_
        by_cases hb5 : pa_in z4 500 = true
        case neg => rw [if_neg hb5] at e; cases e
        rw [if_pos hb5] at e
        refine gs_bald rfl (gd_ba (j := z4.toNatClampNeg) rfl hb5 rfl) ?_
        refine gs_aload_n rfl rfl ?_
        refine gs_iload rfl rfl ?_
        refine gs_iload_n rfl rfl ?_
        refine gs_isub rfl ?_
        obtain ⟨r6, ec7, e⟩ := ob1_some e
        refine gs_callvI (st := [.int (f 36 z4.toNatClampNeg)]) rfl (pr_C_le (by decide) (th_J0_charAt_5068e L z3 (z4 - z1) f r6 ec7)) rfl rfl rfl (by decide) (by rw [(sh_str hk3)]; rfl) (Or.inl (str_lt hk3)) ?_
        refine gs_eq2 rfl (fun c8 => ?_) (fun c8 => ?_)
        · rw [if_pos c8] at e
          obtain ⟨x9, hx9, e⟩ := pn_some e
          refine gs_iinc1 (x1 := x9) (c := 1) (lv' := [(4, .int x9), (0, .ref 35), (1, .int z1), (2, .int z2), (3, .ref z3)]) rfl rfl (by decide) hx9 rfl ?_
          refine gs_goto rfl ?_
          refine gs_drop [1, 2, 3, 4, 0] rfl ?_
          exact (ih z1 z2 z3 x9 f _ e).1 _ rfl
        · rw [if_neg c8] at e
          refine gs_iconst (x := 0) rfl (by decide) ?_
          obtain rfl := injl e
          exact gs_iret rfl rfl (by decide) rfl rfl
    · subst hq
      unfold lp_X6_spells_15 at e
      by_cases hk3 : 3 ≤ z3 ∧ z3 < 10
      case neg => rw [if_neg hk3] at e; cases e
      rw [if_pos hk3] at e
      refine gs_iload rfl rfl ?_
      refine gs_iload_n rfl rfl ?_
      refine gs_ge2 rfl (fun c4 => ?_) (fun c4 => ?_)
      · rw [if_pos c4] at e
        refine gs_drop [] rfl ?_
        exact K
      · rw [if_neg c4] at e
        refine gs_aload_n rfl rfl ?_
        refine gs_get rfl (gd_r (b := 36) rfl rfl rfl) ?_
        refine gs_iload rfl rfl ?_
        by_cases hb5 : pa_in z4 500 = true
        case neg => rw [if_neg hb5] at e; cases e
        rw [if_pos hb5] at e
        refine gs_bald rfl (gd_ba (j := z4.toNatClampNeg) rfl hb5 rfl) ?_
        refine gs_aload_n rfl rfl ?_
        refine gs_iload rfl rfl ?_
        refine gs_iload_n rfl rfl ?_
        refine gs_isub rfl ?_
        obtain ⟨r6, ec7, e⟩ := ob1_some e
        refine gs_callvI (st := [.int (f 36 z4.toNatClampNeg)]) rfl (pr_C_le (by decide) (th_J0_charAt_5068e L z3 (z4 - z1) f r6 ec7)) rfl rfl rfl (by decide) (by rw [(sh_str hk3)]; rfl) (Or.inl (str_lt hk3)) ?_
        refine gs_eq2 rfl (fun c8 => ?_) (fun c8 => ?_)
        · rw [if_pos c8] at e
          obtain ⟨x9, hx9, e⟩ := pn_some e
          refine gs_iinc1 (x1 := x9) (c := 1) (lv' := [(4, .int x9), (0, .ref 35), (1, .int z1), (2, .int z2), (3, .ref z3)]) rfl rfl (by decide) hx9 rfl ?_
          refine gs_goto rfl ?_
          refine gs_drop [1, 2, 3, 4, 0] rfl ?_
          exact (ih z1 z2 z3 x9 f _ e).2 () rfl _ _ K
        · rw [if_neg c8] at e
          refine gs_iconst (x := 0) rfl (by decide) ?_
          cases e
set_option maxRecDepth 100000 in
set_option maxHeartbeats 4000000 in
theorem th_X6_spells (L : Nat) (p1 : Int32) (p2 : Int32) (p3 : Nat) (f : pd_M) (q : Int32) (e : fn_X6_spells p1 p2 p3 f = some q) : pr_C L 5 42 [.ref 35, .int p1, .int p2, .ref p3] (hH f) (some (.int q)) (hH f) := by
  refine pr_C.of (G := mt_X6_spells) rfl rfl ?_
  show pr_G L 4 mt_X6_spells (0, [(0, .ref 35), (1, .int p1), (2, .int p2), (3, .ref p3)], [], hH f) _ _
  unfold fn_X6_spells at e
  by_cases hk3 : 3 ≤ p3 ∧ p3 < 10
  case neg => rw [if_neg hk3] at e; cases e
  rw [if_pos hk3] at e
  refine gs_iload_n rfl rfl ?_
  refine gs_iload_n rfl rfl ?_
  refine gs_isub rfl ?_
  refine gs_aload_n rfl rfl ?_
  obtain ⟨r1, ec2, e⟩ := ob1_some e
  refine gs_callvI (st := [.int (p2 - p1)]) rfl (pr_C_le (by decide) (th_J0_length_8abf5 L p3 f r1 ec2)) rfl rfl rfl (by decide) (by rw [(sh_str hk3)]; rfl) (Or.inl (str_lt hk3)) ?_
  refine gs_eq2 rfl (fun c3 => ?_) (fun c3 => ?_)
  · rw [if_pos c3] at e
    refine gs_iload_n rfl rfl ?_
    refine gs_istore (lv' := [(4, .int p1), (0, .ref 35), (1, .int p1), (2, .int p2), (3, .ref p3)]) rfl rfl ?_
    refine gs_drop [1, 2, 3, 4, 0] rfl ?_
    rcases os0_some e with ⟨q, el10, e⟩ | ⟨el10, e⟩
    · skip
      obtain rfl := inj1 e
      exact (tl_X6_spells_15 L 5000 p1 p2 p3 p1 f _ el10).1 _ rfl
    · refine (tl_X6_spells_15 L 5000 p1 p2 p3 p1 f _ el10).2 () rfl _ _ ?_
      refine gs_iconst (x := 1) rfl (by decide) ?_
      obtain rfl := inj1 e
      exact gs_iret rfl rfl (by decide) rfl rfl
  · rw [if_neg c3] at e
    refine gs_iconst (x := 0) rfl (by decide) ?_
    obtain rfl := inj1 e
    exact gs_iret rfl rfl (by decide) rfl rfl
def fn_X6_wordOf (p1 : Int32) (p2 : Int32) (f : pd_M) : Option (Int32) :=
  ob1 (fn_X6_spells p1 p2 3 f) fun r1 =>
  if r1 = 0 then
  ob1 (fn_X6_spells p1 p2 4 f) fun r4 =>
  if r4 = 0 then
  ob1 (fn_X6_spells p1 p2 5 f) fun r7 =>
  if r7 = 0 then
  ob1 (fn_X6_spells p1 p2 6 f) fun r10 =>
  if r10 = 0 then
  ob1 (fn_X6_spells p1 p2 7 f) fun r13 =>
  if r13 = 0 then
  ob1 (fn_X6_spells p1 p2 8 f) fun r16 =>
  if r16 = 0 then
  ob1 (fn_X6_spells p1 p2 9 f) fun r19 =>
  if r19 = 0 then
  some 109
  else
  some 105
  else
  some 104
  else
  some 102
  else
  some 103
  else
  some 107
  else
  some 108
  else
  some 106
set_option maxRecDepth 100000 in
set_option maxHeartbeats 4000000 in
theorem th_X6_wordOf (L : Nat) (p1 : Int32) (p2 : Int32) (f : pd_M) (q : Int32) (e : fn_X6_wordOf p1 p2 f = some q) : pr_C L 6 41 [.ref 35, .int p1, .int p2] (hH f) (some (.int q)) (hH f) := by
  refine pr_C.of (G := mt_X6_wordOf) rfl rfl ?_
  show pr_G L 5 mt_X6_wordOf (0, [(0, .ref 35), (1, .int p1), (2, .int p2)], [], hH f) _ _
  unfold fn_X6_wordOf at e
  refine gs_aload_n rfl rfl ?_
  refine gs_iload_n rfl rfl ?_
  refine gs_iload_n rfl rfl ?_
  refine gs_ldcs (a := 3) rfl rfl ?_
  obtain ⟨r1, ec2, e⟩ := ob1_some e
  refine gs_callvI (st := []) rfl (pr_C_le (by decide) (th_X6_spells L p1 p2 3 f r1 ec2)) rfl rfl rfl (by decide) rfl (Or.inr (by decide)) ?_
  refine gs_eq0 rfl (fun c3 => ?_) (fun c3 => ?_)
  · rw [if_pos c3] at e
    refine gs_aload_n rfl rfl ?_
    refine gs_iload_n rfl rfl ?_
    refine gs_iload_n rfl rfl ?_
    refine gs_ldcs (a := 4) rfl rfl ?_
    obtain ⟨r4, ec5, e⟩ := ob1_some e
    refine gs_callvI (st := []) rfl (pr_C_le (by decide) (th_X6_spells L p1 p2 4 f r4 ec5)) rfl rfl rfl (by decide) rfl (Or.inr (by decide)) ?_
    refine gs_eq0 rfl (fun c6 => ?_) (fun c6 => ?_)
    · rw [if_pos c6] at e
      refine gs_aload_n rfl rfl ?_
      refine gs_iload_n rfl rfl ?_
      refine gs_iload_n rfl rfl ?_
      refine gs_ldcs (a := 5) rfl rfl ?_
      obtain ⟨r7, ec8, e⟩ := ob1_some e
      refine gs_callvI (st := []) rfl (pr_C_le (by decide) (th_X6_spells L p1 p2 5 f r7 ec8)) rfl rfl rfl (by decide) rfl (Or.inr (by decide)) ?_
      refine gs_eq0 rfl (fun c9 => ?_) (fun c9 => ?_)
      · rw [if_pos c9] at e
        refine gs_aload_n rfl rfl ?_
        refine gs_iload_n rfl rfl ?_
        refine gs_iload_n rfl rfl ?_
        refine gs_ldcs (a := 6) rfl rfl ?_
        obtain ⟨r10, ec11, e⟩ := ob1_some e
        refine gs_callvI (st := []) rfl (pr_C_le (by decide) (th_X6_spells L p1 p2 6 f r10 ec11)) rfl rfl rfl (by decide) rfl (Or.inr (by decide)) ?_
        refine gs_eq0 rfl (fun c12 => ?_) (fun c12 => ?_)
        · rw [if_pos c12] at e
          refine gs_aload_n rfl rfl ?_
          refine gs_iload_n rfl rfl ?_
          refine gs_iload_n rfl rfl ?_
          refine gs_ldcs (a := 7) rfl rfl ?_
          obtain ⟨r13, ec14, e⟩ := ob1_some e
          refine gs_callvI (st := []) rfl (pr_C_le (by decide) (th_X6_spells L p1 p2 7 f r13 ec14)) rfl rfl rfl (by decide) rfl (Or.inr (by decide)) ?_
          refine gs_eq0 rfl (fun c15 => ?_) (fun c15 => ?_)
          · rw [if_pos c15] at e
            refine gs_aload_n rfl rfl ?_
            refine gs_iload_n rfl rfl ?_
            refine gs_iload_n rfl rfl ?_
            refine gs_ldcs (a := 8) rfl rfl ?_
            obtain ⟨r16, ec17, e⟩ := ob1_some e
            refine gs_callvI (st := []) rfl (pr_C_le (by decide) (th_X6_spells L p1 p2 8 f r16 ec17)) rfl rfl rfl (by decide) rfl (Or.inr (by decide)) ?_
            refine gs_eq0 rfl (fun c18 => ?_) (fun c18 => ?_)
            · rw [if_pos c18] at e
              refine gs_aload_n rfl rfl ?_
              refine gs_iload_n rfl rfl ?_
              refine gs_iload_n rfl rfl ?_
              refine gs_ldcs (a := 9) rfl rfl ?_
              obtain ⟨r19, ec20, e⟩ := ob1_some e
              refine gs_callvI (st := []) rfl (pr_C_le (by decide) (th_X6_spells L p1 p2 9 f r19 ec20)) rfl rfl rfl (by decide) rfl (Or.inr (by decide)) ?_
              refine gs_eq0 rfl (fun c21 => ?_) (fun c21 => ?_)
              · rw [if_pos c21] at e
                refine gs_bipush (x := 109) rfl (by decide) ?_
                obtain rfl := inj1 e
                exact gs_iret rfl rfl rfl rfl rfl
              · rw [if_neg c21] at e
                refine gs_bipush (x := 105) rfl (by decide) ?_
                refine gs_goto rfl ?_
                obtain rfl := inj1 e
                exact gs_iret rfl rfl rfl rfl rfl
            · rw [if_neg c18] at e
              refine gs_bipush (x := 104) rfl (by decide) ?_
              obtain rfl := inj1 e
              exact gs_iret rfl rfl rfl rfl rfl
          · rw [if_neg c15] at e
            refine gs_bipush (x := 102) rfl (by decide) ?_
            obtain rfl := inj1 e
            exact gs_iret rfl rfl rfl rfl rfl
        · rw [if_neg c12] at e
          refine gs_bipush (x := 103) rfl (by decide) ?_
          obtain rfl := inj1 e
          exact gs_iret rfl rfl rfl rfl rfl
      · rw [if_neg c9] at e
        refine gs_bipush (x := 107) rfl (by decide) ?_
        obtain rfl := inj1 e
        exact gs_iret rfl rfl rfl rfl rfl
    · rw [if_neg c6] at e
      refine gs_bipush (x := 108) rfl (by decide) ?_
      obtain rfl := inj1 e
      exact gs_iret rfl rfl rfl rfl rfl
  · rw [if_neg c3] at e
    refine gs_bipush (x := 106) rfl (by decide) ?_
    obtain rfl := inj1 e
    exact gs_iret rfl rfl rfl rfl rfl
def fn_X6_tokenOf (p1 : Int32) (p2 : Int32) (f : pd_M) : Option (Int32) :=
  if pa_in p1 500 = true then
  if (fn_X6_isLetter (f 36 p1.toNatClampNeg)) = 0 then
  if pa_in p1 500 = true then
  if (fn_X6_isFigure (f 36 p1.toNatClampNeg)) = 0 then
  if pa_in p1 500 = true then
  if (f 36 p1.toNatClampNeg) = 59 then
  some 101
  else
  some 109
  else none
  else
  ob1 (fn_X6_numberOf p1 p2 f) fun r7 =>
  some r7
  else none
  else
  ob1 (fn_X6_wordOf p1 p2 f) fun r9 =>
  some r9
  else none
set_option maxRecDepth 100000 in
set_option maxHeartbeats 4000000 in
theorem th_X6_tokenOf (L : Nat) (p1 : Int32) (p2 : Int32) (f : pd_M) (q : Int32) (e : fn_X6_tokenOf p1 p2 f = some q) : pr_C L 7 39 [.ref 35, .int p1, .int p2] (hH f) (some (.int q)) (hH f) := by
  refine pr_C.of (G := mt_X6_tokenOf) rfl rfl ?_
  show pr_G L 6 mt_X6_tokenOf (0, [(0, .ref 35), (1, .int p1), (2, .int p2)], [], hH f) _ _
  unfold fn_X6_tokenOf at e
  refine gs_aload_n rfl rfl ?_
  refine gs_get rfl (gd_r (b := 36) rfl rfl rfl) ?_
  refine gs_iload_n rfl rfl ?_
  by_cases hb1 : pa_in p1 500 = true
  case neg => rw [if_neg hb1] at e; cases e
  rw [if_pos hb1] at e
  refine gs_bald rfl (gd_ba (j := p1.toNatClampNeg) rfl hb1 rfl) ?_
  refine gs_callsI (st := []) rfl (pr_C_le (by decide) (th_X6_isLetter L (f 36 p1.toNatClampNeg) f _ rfl)) rfl rfl rfl (by decide) ?_
  refine gs_eq0 rfl (fun c2 => ?_) (fun c2 => ?_)
  · rw [if_pos c2] at e
    refine gs_aload_n rfl rfl ?_
    refine gs_get rfl (gd_r (b := 36) rfl rfl rfl) ?_
    refine gs_iload_n rfl rfl ?_
    by_cases hb3 : pa_in p1 500 = true
    case neg => rw [if_neg hb3] at e; cases e
    rw [if_pos hb3] at e
    refine gs_bald rfl (gd_ba (j := p1.toNatClampNeg) rfl hb3 rfl) ?_
    refine gs_callsI (st := []) rfl (pr_C_le (by decide) (th_X6_isFigure L (f 36 p1.toNatClampNeg) f _ rfl)) rfl rfl rfl (by decide) ?_
    refine gs_eq0 rfl (fun c4 => ?_) (fun c4 => ?_)
    · rw [if_pos c4] at e
      refine gs_aload_n rfl rfl ?_
      refine gs_get rfl (gd_r (b := 36) rfl rfl rfl) ?_
      refine gs_iload_n rfl rfl ?_
      by_cases hb5 : pa_in p1 500 = true
      case neg => rw [if_neg hb5] at e; cases e
      rw [if_pos hb5] at e
      refine gs_bald rfl (gd_ba (j := p1.toNatClampNeg) rfl hb5 rfl) ?_
      refine gs_bipush (x := 59) rfl (by decide) ?_
      refine gs_ne2 rfl (fun c6 => ?_) (fun c6 => ?_)
      · rw [if_neg c6] at e
        refine gs_bipush (x := 109) rfl (by decide) ?_
        obtain rfl := inj1 e
        exact gs_iret rfl rfl rfl rfl rfl
      · rw [if_pos c6] at e
        refine gs_bipush (x := 101) rfl (by decide) ?_
        refine gs_goto rfl ?_
        obtain rfl := inj1 e
        exact gs_iret rfl rfl rfl rfl rfl
    · rw [if_neg c4] at e
      refine gs_aload_n rfl rfl ?_
      refine gs_iload_n rfl rfl ?_
      refine gs_iload_n rfl rfl ?_
      obtain ⟨r7, ec8, e⟩ := ob1_some e
      refine gs_callvI (st := []) rfl (pr_C_le (by decide) (th_X6_numberOf L p1 p2 f r7 ec8)) rfl rfl rfl (by decide) rfl (Or.inr (by decide)) ?_
      obtain rfl := inj1 e
      exact gs_iret rfl rfl rfl rfl rfl
  · rw [if_neg c2] at e
    refine gs_aload_n rfl rfl ?_
    refine gs_iload_n rfl rfl ?_
    refine gs_iload_n rfl rfl ?_
    obtain ⟨r9, ec10, e⟩ := ob1_some e
    refine gs_callvI (st := []) rfl (pr_C_le (by decide) (th_X6_wordOf L p1 p2 f r9 ec10)) rfl rfl rfl (by decide) rfl (Or.inr (by decide)) ?_
    obtain rfl := inj1 e
    exact gs_iret rfl rfl rfl rfl rfl
def lp_X6_split_4 : Nat → Int32 → Int32 → pd_M → Option (Int32 × pd_M)
  | 0, _, _, _ => none
  | n + 1, z1, z2, f =>
    if (f 35 3) ≤ z2 then
    some (z1, f)
    else
    ob1 (fn_X6_beginsToken z2 f) fun r2 =>
    ob2 (if r2 = 0 then
    some (z1, f)
    else
    ob1 (fn_X6_endOfToken z2 f) fun r7 =>
    ob1 (fn_X6_tokenOf z2 r7 f) fun r9 =>
    if pa_in z1 501 = true then
    pn ((pi_up f 37 (z1.toNatClampNeg) (r9.toInt8.toInt32.toInt8.toInt32))) fun f12 =>
    if pa_in z1 501 = true then
    pn ((pi_up f12 38 (z1.toNatClampNeg) (z2.toInt16.toInt32.toInt16.toInt32))) fun f14 =>
    pn (z1 + 1) fun x15 =>
    some (x15, f14)
    else none
    else none) fun (y5 : Int32) (f6 : pd_M) =>
    pn (z2 + 1) fun x16 =>
    lp_X6_split_4 n y5 x16 f6
def fn_X6_split (f : pd_M) : Option (pd_M) :=
  ob2 (lp_X6_split_4 5000 0 0 f) fun y17 f18 =>
  if pa_in y17 501 = true then
  pn ((pi_up f18 37 (y17.toNatClampNeg) ((100 : Int32).toInt8.toInt32))) fun f21 =>
  if pa_in y17 501 = true then
  pn ((pi_up f21 38 (y17.toNatClampNeg) ((f21 35 3).toInt16.toInt32.toInt16.toInt32))) fun f23 =>
  some f23
  else none
  else none
set_option maxRecDepth 100000 in
set_option maxHeartbeats 4000000 in
theorem tl_X6_split_4 (L : Nat) : ∀ (n : Nat) (z1 : Int32) (z2 : Int32) (f : pd_M) (w0 : Int32) (w1 : pd_M) (r : Option Value) (h2 : ph_T), lp_X6_split_4 n z1 z2 f = some (w0, w1) → pr_G L 7 mt_X6_split (54, [(0, .ref 35), (1, .int w0)], [], hH w1) r h2 → pr_G L 7 mt_X6_split (4, [(0, .ref 35), (1, .int z1), (2, .int z2)], [], hH f) r h2 := by
  intro n
  induction n with
  | zero => intro z1 z2 f w0 w1 r h2 e; cases e
  | succ n ih =>
    intro z1 z2 f w0 w1 r h2 e K
    unfold lp_X6_split_4 at e
    refine gs_iload_n rfl rfl ?_
    refine gs_aload_n rfl rfl ?_
    refine gs_get rfl (gd_i rfl rfl) ?_
    refine gs_ge2 rfl (fun c1 => ?_) (fun c1 => ?_)
    · rw [if_pos c1] at e
      obtain ⟨rfl, rfl⟩ := inj2 e
      refine gs_drop [0, 1] rfl ?_
      exact K
    · rw [if_neg c1] at e
      refine gs_aload_n rfl rfl ?_
      refine gs_iload_n rfl rfl ?_
      obtain ⟨r2, ec3, e⟩ := ob1_some e
      refine gs_callvI (st := []) rfl (pr_C_le (by decide) (th_X6_beginsToken L z2 f r2 ec3)) rfl rfl rfl (by decide) rfl (Or.inr (by decide)) ?_
      obtain ⟨y5, f6, ev48, e⟩ := ob2_some e
      have KJ48 : pr_G L 7 mt_X6_split (48, [(0, .ref 35), (1, .int y5), (2, .int z2)], [], hH f6) r h2 := by
        obtain ⟨x16, hx16, e⟩ := pn_some e
        refine gs_iinc1 (x1 := x16) (c := 1) (lv' := [(2, .int x16), (0, .ref 35), (1, .int y5)]) rfl rfl (by decide) hx16 rfl ?_
        refine gs_goto rfl ?_
        refine gs_drop [1, 2, 0] rfl ?_
        exact ih y5 x16 f6 w0 w1 _ _ e K
      have e := ev48
      clear ev48
      refine gs_eq0 rfl (fun c4 => ?_) (fun c4 => ?_)
      · rw [if_pos c4] at e
        obtain ⟨rfl, rfl⟩ := inj2 e
        refine gs_drop [0, 1, 2] rfl ?_
        exact KJ48
      · rw [if_neg c4] at e
        refine gs_aload_n rfl rfl ?_
        refine gs_get rfl (gd_r (b := 37) rfl rfl rfl) ?_
        refine gs_iload_n rfl rfl ?_
        refine gs_aload_n rfl rfl ?_
        refine gs_iload_n rfl rfl ?_
        refine gs_aload_n rfl rfl ?_
        refine gs_iload_n rfl rfl ?_
        obtain ⟨r7, ec8, e⟩ := ob1_some e
        refine gs_callvI (st := [.int z2, .ref 35, .int z1, .ref 37]) rfl (pr_C_le (by decide) (th_X6_endOfToken L z2 f r7 ec8)) rfl rfl rfl (by decide) rfl (Or.inr (by decide)) ?_
        obtain ⟨r9, ec10, e⟩ := ob1_some e
        refine gs_callvI (st := [.int z1, .ref 37]) rfl (pr_C_le (by decide) (th_X6_tokenOf L z2 r7 f r9 ec10)) rfl rfl rfl (by decide) rfl (Or.inr (by decide)) ?_
        refine gs_i2b rfl ?_
        by_cases hb11 : pa_in z1 501 = true
        case neg => rw [if_neg hb11] at e; cases e
        rw [if_pos hb11] at e
        refine gs_bast rfl (gd_sb (j := z1.toNatClampNeg) rfl (by decide) hb11 rfl) ?_
        obtain ⟨f12, hf12, e⟩ := pn_some e
        refine gs_heap hf12 ?_
        refine gs_aload_n rfl rfl ?_
        refine gs_get rfl (gd_r (b := 38) rfl rfl rfl) ?_
        refine gs_iload_n rfl rfl ?_
        refine gs_iload_n rfl rfl ?_
        refine gs_i2s rfl ?_
        by_cases hb13 : pa_in z1 501 = true
        case neg => rw [if_neg hb13] at e; cases e
        rw [if_pos hb13] at e
        refine gs_sast rfl (gd_ss (j := z1.toNatClampNeg) rfl (by decide) hb13 rfl) ?_
        obtain ⟨f14, hf14, e⟩ := pn_some e
        refine gs_heap hf14 ?_
        obtain ⟨x15, hx15, e⟩ := pn_some e
        refine gs_iinc1 (x1 := x15) (c := 1) (lv' := [(1, .int x15), (0, .ref 35), (2, .int z2)]) rfl rfl (by decide) hx15 rfl ?_
        obtain ⟨rfl, rfl⟩ := inj2 e
        refine gs_drop [1, 0, 2] rfl ?_
        exact KJ48
set_option maxRecDepth 100000 in
set_option maxHeartbeats 4000000 in
theorem th_X6_split (L : Nat)  (f : pd_M) (g : pd_M) (e : fn_X6_split f = some g) : pr_C L 8 36 [.ref 35] (hH f) none (hH g) := by
  refine pr_C.of (G := mt_X6_split) rfl rfl ?_
  show pr_G L 7 mt_X6_split (0, [(0, .ref 35)], [], hH f) _ _
  unfold fn_X6_split at e
  refine gs_iconst (x := 0) rfl (by decide) ?_
  refine gs_istore_n (lv' := [(1, .int 0), (0, .ref 35)]) rfl rfl ?_
  refine gs_iconst (x := 0) rfl (by decide) ?_
  refine gs_istore_n (lv' := [(2, .int 0), (1, .int 0), (0, .ref 35)]) rfl rfl ?_
  refine gs_drop [2, 1, 0] rfl ?_
  obtain ⟨y17, f18, el19, e⟩ := ob2_some e
  refine tl_X6_split_4 L 5000 0 0 f y17 f18 _ _ el19 ?_
  refine gs_aload_n rfl rfl ?_
  refine gs_get rfl (gd_r (b := 37) rfl rfl rfl) ?_
  refine gs_iload_n rfl rfl ?_
  refine gs_bipush (x := 100) rfl (by decide) ?_
  by_cases hb20 : pa_in y17 501 = true
  case neg => rw [if_neg hb20] at e; cases e
  rw [if_pos hb20] at e
  refine gs_bast rfl (gd_sb (j := y17.toNatClampNeg) rfl (by decide) hb20 rfl) ?_
  obtain ⟨f21, hf21, e⟩ := pn_some e
  refine gs_heap hf21 ?_
  refine gs_aload_n rfl rfl ?_
  refine gs_get rfl (gd_r (b := 38) rfl rfl rfl) ?_
  refine gs_iload_n rfl rfl ?_
  refine gs_aload_n rfl rfl ?_
  refine gs_get rfl (gd_i rfl rfl) ?_
  refine gs_i2s rfl ?_
  by_cases hb22 : pa_in y17 501 = true
  case neg => rw [if_neg hb22] at e; cases e
  rw [if_pos hb22] at e
  refine gs_sast rfl (gd_ss (j := y17.toNatClampNeg) rfl (by decide) hb22 rfl) ?_
  obtain ⟨f23, hf23, e⟩ := pn_some e
  refine gs_heap hf23 ?_
  obtain rfl := inj1 e
  exact gs_vret rfl rfl rfl rfl
