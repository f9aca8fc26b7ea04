def fn_X9_drop (p1 : Int32) (f : pd_M) : Option (Int32 × pd_M) :=
  pn ((pi_up f 110 0 0)) fun f1 =>
  ob1 (fn_X9_isSheet p1) fun r2 =>
  if r2 = 0 then
  some ((-1000001), f1)
  else
  pn ((pi_up f1 110 1 0)) fun f5 =>
  if pa_in p1 8 = true then
  if 0 ≤ (f5 111 p1.toNatClampNeg) then
  if pa_in p1 8 = true then
  pn ((pi_up f5 111 (p1.toNatClampNeg) (-1))) fun f9 =>
  if pa_in p1 8 = true then
  some ((f9 112 p1.toNatClampNeg), f9)
  else none
  else none
  else
  ob2 (fn_X9_finding 1 f5) fun r11 f12 =>
  some (r11, f12)
  else none
set_option maxRecDepth 100000 in
set_option maxHeartbeats 4000000 in
theorem th_X9_drop (L : Nat) (p1 : Int32) (f : pd_M) (q : Int32) (g : pd_M) (e : fn_X9_drop p1 f = some (q, g)) : pr_C L 3 122 [.ref 110, .int p1] (hH f) (some (.int q)) (hH g) := by
  refine pr_C.of (G := mt_X9_drop) rfl rfl ?_
  show pr_G L 2 mt_X9_drop (0, [(0, .ref 110), (1, .int p1)], [], hH f) _ _
  unfold fn_X9_drop at e
  refine gs_aload_n rfl rfl ?_
  refine gs_iconst (x := 0) rfl (by decide) ?_
  refine gs_put rfl (gd_pi rfl rfl) ?_
  obtain ⟨f1, hf1, e⟩ := pn_some e
  refine gs_heap hf1 ?_
  refine gs_iload_n rfl rfl ?_
  obtain ⟨r2, ec3, e⟩ := ob1_some e
  refine gs_callsI (st := []) rfl (pr_C_le (by decide) (th_X9_isSheet L p1 f1 r2 ec3)) rfl rfl rfl (by decide) ?_
  refine gs_ne0 rfl (fun c4 => ?_) (fun c4 => ?_)
  · rw [if_neg c4] at e
    refine gs_aload_n rfl rfl ?_
    refine gs_iconst (x := 0) rfl (by decide) ?_
    refine gs_put rfl (gd_pi rfl rfl) ?_
    obtain ⟨f5, hf5, e⟩ := pn_some e
    refine gs_heap hf5 ?_
    refine gs_aload_n rfl rfl ?_
    refine gs_get rfl (gd_r (b := 111) rfl rfl rfl) ?_
    refine gs_iload_n rfl rfl ?_
    by_cases hb6 : pa_in p1 8 = true
    case neg => rw [if_neg hb6] at e; cases e
    rw [if_pos hb6] at e
    refine gs_iald rfl (gd_ia (j := p1.toNatClampNeg) rfl hb6 rfl) ?_
    refine gs_ge0 rfl (fun c7 => ?_) (fun c7 => ?_)
    · rw [if_pos c7] at e
      refine gs_aload_n rfl rfl ?_
      refine gs_get rfl (gd_r (b := 111) rfl rfl rfl) ?_
      refine gs_iload_n rfl rfl ?_
      refine gs_iconst (x := (-1)) rfl (by decide) ?_
      by_cases hb8 : pa_in p1 8 = true
      case neg => rw [if_neg hb8] at e; cases e
      rw [if_pos hb8] at e
      refine gs_iast rfl (gd_si (j := p1.toNatClampNeg) rfl (by decide) hb8 rfl) ?_
      obtain ⟨f9, hf9, e⟩ := pn_some e
      refine gs_heap hf9 ?_
      refine gs_aload_n rfl rfl ?_
      refine gs_get rfl (gd_r (b := 112) rfl rfl rfl) ?_
      refine gs_iload_n rfl rfl ?_
      by_cases hb10 : pa_in p1 8 = true
      case neg => rw [if_neg hb10] at e; cases e
      rw [if_pos hb10] at e
      refine gs_iald rfl (gd_ia (j := p1.toNatClampNeg) rfl hb10 rfl) ?_
      obtain ⟨rfl, rfl⟩ := inj2 e
      exact gs_iret rfl rfl rfl rfl rfl
    · rw [if_neg c7] at e
      refine gs_aload_n rfl rfl ?_
      refine gs_iconst (x := 1) rfl (by decide) ?_
      obtain ⟨r11, f12, ec13, e⟩ := ob2_some e
      refine gs_callvI (st := []) rfl (pr_C_le (by decide) (th_X9_finding L 1 f5 r11 f12 ec13)) rfl rfl rfl (by decide) rfl (Or.inr (by decide)) ?_
      obtain ⟨rfl, rfl⟩ := inj2 e
      exact gs_iret rfl rfl rfl rfl rfl
  · rw [if_pos c4] at e
    refine gs_ldc (x := (-1000001)) rfl (by decide) ?_
    obtain ⟨rfl, rfl⟩ := inj2 e
    exact gs_iret rfl rfl rfl rfl rfl
def lp_X9_feed_40 : Nat → Int64 → Int32 → pd_M → Option (pd_M)
  | 0, _, _, _ => none
  | n + 1, z1, z4, f =>
    if z4 < 0 then
    some (f)
    else
    if pa_in (f 110 30) 500 = true then
    pn ((pi_up f 136 ((f 110 30).toNatClampNeg) (((z1 >>> ((8 * z4).toInt64 &&& 63)) &&& 255).toInt32))) fun f7 =>
    pn ((pi_up f7 110 30 ((f7 110 30) + 1))) fun f8 =>
    pn (z4 + (-1)) fun x9 =>
    lp_X9_feed_40 n z1 x9 f8
    else none
def fn_X9_feed (p1 : Int64) (p2 : Int32) (f : pd_M) : Option (Int32 × pd_M) :=
  pn ((pi_up f 110 0 0)) fun f1 =>
  if (fn_X9_in (p2.toInt64) 1 8) = 0 then
  some ((-1000001), f1)
  else
  if ((f1 110 30) + p2) ≤ 500 then
  pn ((p2 - 1)) fun x4 =>
  ob1 (lp_X9_feed_40 5000 p1 x4 f1) fun f10 =>
  some ((f10 110 30), f10)
  else
  some ((-1000003), f1)
set_option maxRecDepth 100000 in
set_option maxHeartbeats 4000000 in
theorem tl_X9_feed_40 (L : Nat) : ∀ (n : Nat) (z1 : Int64) (z4 : Int32) (f : pd_M) (w0 : pd_M) (r : Option Value) (h2 : ph_T), lp_X9_feed_40 n z1 z4 f = some (w0) → pr_G L 1 mt_X9_feed (82, [(0, .ref 110)], [], hH w0) r h2 → pr_G L 1 mt_X9_feed (40, [(0, .ref 110), (1, .long z1), (4, .int z4)], [], hH f) r h2 := by
  intro n
  induction n with
  | zero => intro z1 z4 f w0 r h2 e; cases e
  | succ n ih =>
    intro z1 z4 f w0 r h2 e K
    unfold lp_X9_feed_40 at e
    refine gs_iload rfl rfl ?_
    refine gs_lt0 rfl (fun c5 => ?_) (fun c5 => ?_)
    · rw [if_pos c5] at e
      obtain rfl := inj1 e
      refine gs_drop [0] rfl ?_
      exact K
    · rw [if_neg c5] at e
      refine gs_aload_n rfl rfl ?_
      refine gs_get rfl (gd_r (b := 136) rfl rfl rfl) ?_
      refine gs_aload_n rfl rfl ?_
      refine gs_get rfl (gd_i rfl rfl) ?_
      refine gs_lload_n rfl rfl ?_
      refine gs_bipush (x := 8) rfl (by decide) ?_
      refine gs_iload rfl rfl ?_
      refine gs_imul rfl ?_
      refine gs_lshr rfl ?_
      refine gs_ldc2 (w := 255) rfl (by decide) ?_
      refine gs_land rfl ?_
      refine gs_l2i rfl ?_
      by_cases hb6 : pa_in (f 110 30) 500 = true
      case neg => rw [if_neg hb6] at e; cases e
      rw [if_pos hb6] at e
      refine gs_iast rfl (gd_si (j := (f 110 30).toNatClampNeg) rfl (by decide) hb6 rfl) ?_
      obtain ⟨f7, hf7, e⟩ := pn_some e
      refine gs_heap hf7 ?_
      refine gs_aload_n rfl rfl ?_
      refine gs_dup rfl rfl ?_
      refine gs_get rfl (gd_i rfl rfl) ?_
      refine gs_iconst (x := 1) rfl (by decide) ?_
      refine gs_iadd rfl ?_
      refine gs_put rfl (gd_pi rfl rfl) ?_
      obtain ⟨f8, hf8, e⟩ := pn_some e
      refine gs_heap hf8 ?_
      obtain ⟨x9, hx9, e⟩ := pn_some e
      refine gs_iinc1 (x1 := x9) (c := (-1)) (lv' := [(4, .int x9), (0, .ref 110), (1, .long z1)]) rfl rfl (by decide) hx9 rfl ?_
      refine gs_goto rfl ?_
      refine gs_drop [1, 2, 0] rfl ?_
      exact ih z1 x9 f8 w0 _ _ e K
set_option maxRecDepth 100000 in
set_option maxHeartbeats 4000000 in
theorem th_X9_feed (L : Nat) (p1 : Int64) (p2 : Int32) (f : pd_M) (q : Int32) (g : pd_M) (e : fn_X9_feed p1 p2 f = some (q, g)) : pr_C L 2 123 [.ref 110, .long p1, .int p2] (hH f) (some (.int q)) (hH g) := by
  refine pr_C.of (G := mt_X9_feed) rfl rfl ?_
  show pr_G L 1 mt_X9_feed (0, [(0, .ref 110), (1, .long p1), (3, .int p2)], [], hH f) _ _
  unfold fn_X9_feed at e
  refine gs_aload_n rfl rfl ?_
  refine gs_iconst (x := 0) rfl (by decide) ?_
  refine gs_put rfl (gd_pi rfl rfl) ?_
  obtain ⟨f1, hf1, e⟩ := pn_some e
  refine gs_heap hf1 ?_
  refine gs_iload_n rfl rfl ?_
  refine gs_i2l rfl ?_
  refine gs_lconst (w := 1) rfl (by decide) ?_
  refine gs_ldc2 (w := 8) rfl (by decide) ?_
  refine gs_callsI (st := []) rfl (pr_C_le (by decide) (th_X9_in L (p2.toInt64) 1 8 f1 _ rfl)) rfl rfl rfl (by decide) ?_
  refine gs_ne0 rfl (fun c2 => ?_) (fun c2 => ?_)
  · rw [if_neg c2] at e
    refine gs_aload_n rfl rfl ?_
    refine gs_get rfl (gd_i rfl rfl) ?_
    refine gs_iload_n rfl rfl ?_
    refine gs_iadd rfl ?_
    refine gs_sipush (x := 500) rfl (by decide) ?_
    refine gs_le2 rfl (fun c3 => ?_) (fun c3 => ?_)
    · rw [if_pos c3] at e
      refine gs_iload_n rfl rfl ?_
      refine gs_iconst (x := 1) rfl (by decide) ?_
      refine gs_isub rfl ?_
      obtain ⟨x4, hx4, e⟩ := pn_some e
      refine gs_topi hx4 ?_
      refine gs_istore (lv' := [(4, .int x4), (0, .ref 110), (1, .long p1), (3, .int p2)]) rfl rfl ?_
      refine gs_drop [1, 2, 0] rfl ?_
      obtain ⟨f10, el11, e⟩ := ob1_some e
      refine tl_X9_feed_40 L 5000 p1 x4 f1 f10 _ _ el11 ?_
      refine gs_aload_n rfl rfl ?_
      refine gs_get rfl (gd_i rfl rfl) ?_
      obtain ⟨rfl, rfl⟩ := inj2 e
      exact gs_iret rfl rfl rfl rfl rfl
    · rw [if_neg c3] at e
      refine gs_ldc (x := (-1000003)) rfl (by decide) ?_
      obtain ⟨rfl, rfl⟩ := inj2 e
      exact gs_iret rfl rfl rfl rfl rfl
  · rw [if_pos c2] at e
    refine gs_ldc (x := (-1000001)) rfl (by decide) ?_
    obtain ⟨rfl, rfl⟩ := inj2 e
    exact gs_iret rfl rfl rfl rfl rfl
def fn_X9_byteAt (p1 : Int32) (f : pd_M) : Option (Int32) :=
  if (f 110 32) ≤ p1 then
  some (-1000000)
  else
  if pa_in p1 500 = true then
  some (f 136 p1.toNatClampNeg)
  else none
set_option maxRecDepth 100000 in
set_option maxHeartbeats 4000000 in
theorem th_X9_byteAt (L : Nat) (p1 : Int32) (f : pd_M) (q : Int32) (e : fn_X9_byteAt p1 f = some q) : pr_C L 1 124 [.ref 110, .int p1] (hH f) (some (.int q)) (hH f) := by
  refine pr_C.of (G := mt_X9_byteAt) rfl rfl ?_
  show pr_G L 0 mt_X9_byteAt (0, [(0, .ref 110), (1, .int p1)], [], hH f) _ _
  unfold fn_X9_byteAt at e
  refine gs_iload_n rfl rfl ?_
  refine gs_aload_n rfl rfl ?_
  refine gs_get rfl (gd_i rfl rfl) ?_
  refine gs_ge2 rfl (fun c1 => ?_) (fun c1 => ?_)
  · rw [if_pos c1] at e
    refine gs_ldc (x := (-1000000)) rfl (by decide) ?_
    obtain rfl := inj1 e
    exact gs_iret rfl rfl rfl rfl rfl
  · rw [if_neg c1] at e
    refine gs_aload_n rfl rfl ?_
    refine gs_get rfl (gd_r (b := 136) rfl rfl rfl) ?_
    refine gs_iload_n rfl rfl ?_
    by_cases hb2 : pa_in p1 500 = true
    case neg => rw [if_neg hb2] at e; cases e
    rw [if_pos hb2] at e
    refine gs_iald rfl (gd_ia (j := p1.toNatClampNeg) rfl hb2 rfl) ?_
    refine gs_goto rfl ?_
    obtain rfl := inj1 e
    exact gs_iret rfl rfl rfl rfl rfl
def fn_X9_isLetter (p1 : Int32) : Int32 :=
  if p1 < 97 then
  0
  else
  if 122 < p1 then
  0
  else
  1
set_option maxRecDepth 100000 in
set_option maxHeartbeats 4000000 in
theorem th_X9_isLetter (L : Nat) (p1 : Int32) (f : pd_M) (q : Int32) (e : fn_X9_isLetter p1 = q) : pr_C L 1 125 [.int p1] (hH f) (some (.int q)) (hH f) := by
  refine pr_C.of (G := mt_X9_isLetter) rfl rfl ?_
  show pr_G L 0 mt_X9_isLetter (0, [(0, .int p1)], [], hH f) _ _
  unfold fn_X9_isLetter at e
  refine gs_iload_n rfl rfl ?_
  refine gs_bipush (x := 97) rfl (by decide) ?_
  refine gs_lt2 rfl (fun c1 => ?_) (fun c1 => ?_)
  · rw [if_pos c1] at e
    refine gs_iconst (x := 0) rfl (by decide) ?_
    subst e
    exact gs_iret rfl rfl (by decide) rfl rfl
  · rw [if_neg c1] at e
    refine gs_iload_n rfl rfl ?_
    refine gs_bipush (x := 122) rfl (by decide) ?_
    refine gs_gt2 rfl (fun c2 => ?_) (fun c2 => ?_)
    · rw [if_pos c2] at e
      refine gs_iconst (x := 0) rfl (by decide) ?_
      subst e
      exact gs_iret rfl rfl (by decide) rfl rfl
    · rw [if_neg c2] at e
      refine gs_iconst (x := 1) rfl (by decide) ?_
      refine gs_goto rfl ?_
      subst e
      exact gs_iret rfl rfl (by decide) rfl rfl
def fn_X9_isFigure (p1 : Int32) : Int32 :=
  if p1 < 48 then
  0
  else
  if 57 < p1 then
  0
  else
  1
set_option maxRecDepth 100000 in
set_option maxHeartbeats 4000000 in
theorem th_X9_isFigure (L : Nat) (p1 : Int32) (f : pd_M) (q : Int32) (e : fn_X9_isFigure p1 = q) : pr_C L 1 126 [.int p1] (hH f) (some (.int q)) (hH f) := by
  refine pr_C.of (G := mt_X9_isFigure) rfl rfl ?_
  show pr_G L 0 mt_X9_isFigure (0, [(0, .int p1)], [], hH f) _ _
  unfold fn_X9_isFigure at e
  refine gs_iload_n rfl rfl ?_
  refine gs_bipush (x := 48) rfl (by decide) ?_
  refine gs_lt2 rfl (fun c1 => ?_) (fun c1 => ?_)
  · rw [if_pos c1] at e
    refine gs_iconst (x := 0) rfl (by decide) ?_
    subst e
    exact gs_iret rfl rfl (by decide) rfl rfl
  · rw [if_neg c1] at e
    refine gs_iload_n rfl rfl ?_
    refine gs_bipush (x := 57) rfl (by decide) ?_
    refine gs_gt2 rfl (fun c2 => ?_) (fun c2 => ?_)
    · rw [if_pos c2] at e
      refine gs_iconst (x := 0) rfl (by decide) ?_
      subst e
      exact gs_iret rfl rfl (by decide) rfl rfl
    · rw [if_neg c2] at e
      refine gs_iconst (x := 1) rfl (by decide) ?_
      refine gs_goto rfl ?_
      subst e
      exact gs_iret rfl rfl (by decide) rfl rfl
def lp_X9_next_0 : Nat → pd_M → Option (pd_M)
  | 0, _ => none
  | n + 1, f =>
    ob1 (fn_X9_byteAt (f 110 33) f) fun r1 =>
    if r1 = 32 then
    pn ((pi_up f 110 33 ((f 110 33) + 1))) fun f4 =>
    lp_X9_next_0 n f4
    else
    ob1 (fn_X9_byteAt (f 110 33) f) fun r5 =>
    if r5 = 10 then
    pn ((pi_up f 110 33 ((f 110 33) + 1))) fun f8 =>
    lp_X9_next_0 n f8
    else
    some (f)
def lp_X9_next_119 : Nat → pd_M → Option (pd_M)
  | 0, _ => none
  | n + 1, f =>
    ob1 (fn_X9_byteAt (f 110 33) f) fun r21 =>
    if (fn_X9_isFigure r21) = 0 then
    some (f)
    else
    pn ((pi_up f 110 33 ((f 110 33) + 1))) fun f24 =>
    lp_X9_next_119 n f24
def lp_X9_next_77 : Nat → pd_M → Option (pd_M)
  | 0, _ => none
  | n + 1, f =>
    ob1 (fn_X9_byteAt (f 110 33) f) fun r30 =>
    if (fn_X9_isLetter r30) = 0 then
    some (f)
    else
    pn ((pi_up f 110 33 ((f 110 33) + 1))) fun f33 =>
    lp_X9_next_77 n f33
def fn_X9_next (f : pd_M) : Option (pd_M) :=
  ob1 (lp_X9_next_0 5000 f) fun f9 =>
  pn ((pi_up f9 110 35 (f9 110 33))) fun f11 =>
  ob1 (fn_X9_byteAt (f11 110 33) f11) fun r12 =>
  ob1 (if r12 = (-1000000) then
  pn ((pi_up f11 110 34 1)) fun f30 =>
  some (f30)
  else
  if (fn_X9_isLetter r12) = 0 then
  if (fn_X9_isFigure r12) = 0 then
  pn ((pi_up f11 110 33 ((f11 110 33) + 1))) fun f18 =>
  ob1 (if r12 = 59 then
  some (4)
  else
  some (0)) fun (v20 : Int32) =>
  pn ((pi_up f18 110 34 v20)) fun f21 =>
  some (f21)
  else
  ob1 (lp_X9_next_119 5000 f11) fun f22 =>
  ob1 (if ((f22 110 33) - (f22 110 35)) ≤ 2 then
  some (3)
  else
  some (0)) fun (v25 : Int32) =>
  pn ((pi_up f22 110 34 v25)) fun f26 =>
  some (f26)
  else
  ob1 (lp_X9_next_77 5000 f11) fun f27 =>
  pn ((pi_up f27 110 34 2)) fun f29 =>
  some (f29)) fun (f15 : pd_M) =>
  pn ((pi_up f15 110 36 (f15 110 33))) fun f31 =>
  some f31
set_option maxRecDepth 100000 in
set_option maxHeartbeats 4000000 in
theorem tl_X9_next_0 (L : Nat) : ∀ (n : Nat)  (f : pd_M) (w0 : pd_M) (r : Option Value) (h2 : ph_T), lp_X9_next_0 n f = some (w0) → pr_G L 1 mt_X9_next (39, [(0, .ref 110)], [], hH w0) r h2 → pr_G L 1 mt_X9_next (0, [(0, .ref 110)], [], hH f) r h2 := by
  intro n
  induction n with
  | zero => intro f w0 r h2 e; cases e
  | succ n ih =>
    intro f w0 r h2 e K
    unfold lp_X9_next_0 at e
    refine gs_aload_n rfl rfl ?_
    refine gs_aload_n rfl rfl ?_
    refine gs_get rfl (gd_i rfl rfl) ?_
    obtain ⟨r1, ec2, e⟩ := ob1_some e
    refine gs_callvI (st := []) rfl (pr_C_le (by decide) (th_X9_byteAt L (f 110 33) f r1 ec2)) rfl rfl rfl (by decide) rfl (Or.inr (by decide)) ?_
    refine gs_bipush (x := 32) rfl (by decide) ?_
    refine gs_eq2 rfl (fun c3 => ?_) (fun c3 => ?_)
    · rw [if_pos c3] at e
      refine gs_aload_n rfl rfl ?_
      refine gs_dup rfl rfl ?_
      refine gs_get rfl (gd_i rfl rfl) ?_
      refine gs_iconst (x := 1) rfl (by decide) ?_
      refine gs_iadd rfl ?_
      refine gs_put rfl (gd_pi rfl rfl) ?_
      obtain ⟨f4, hf4, e⟩ := pn_some e
      refine gs_heap hf4 ?_
      refine gs_goto rfl ?_
      refine gs_drop [0] rfl ?_
      exact ih f4 w0 _ _ e K
    · rw [if_neg c3] at e
      refine gs_aload_n rfl rfl ?_
      refine gs_aload_n rfl rfl ?_
      refine gs_get rfl (gd_i rfl rfl) ?_
      obtain ⟨r5, ec6, e⟩ := ob1_some e
      refine gs_callvI (st := []) rfl (pr_C_le (by decide) (th_X9_byteAt L (f 110 33) f r5 ec6)) rfl rfl rfl (by decide) rfl (Or.inr (by decide)) ?_
      refine gs_bipush (x := 10) rfl (by decide) ?_
      refine gs_ne2 rfl (fun c7 => ?_) (fun c7 => ?_)
      · rw [if_neg c7] at e
        obtain rfl := inj1 e
        refine gs_drop [0] rfl ?_
        exact K
      · rw [if_pos c7] at e
        refine gs_aload_n rfl rfl ?_
        refine gs_dup rfl rfl ?_
        refine gs_get rfl (gd_i rfl rfl) ?_
        refine gs_iconst (x := 1) rfl (by decide) ?_
        refine gs_iadd rfl ?_
        refine gs_put rfl (gd_pi rfl rfl) ?_
        obtain ⟨f8, hf8, e⟩ := pn_some e
        refine gs_heap hf8 ?_
        refine gs_goto rfl ?_
        refine gs_drop [0] rfl ?_
        exact ih f8 w0 _ _ e K
set_option maxRecDepth 100000 in
set_option maxHeartbeats 4000000 in
theorem tl_X9_next_119 (L : Nat) : ∀ (n : Nat)  (f : pd_M) (w0 : pd_M) (r : Option Value) (h2 : ph_T), lp_X9_next_119 n f = some (w0) → pr_G L 1 mt_X9_next (146, [(0, .ref 110)], [], hH w0) r h2 → pr_G L 1 mt_X9_next (119, [(0, .ref 110)], [], hH f) r h2 := by
  intro n
  induction n with
  | zero => intro f w0 r h2 e; cases e
  | succ n ih =>
    intro f w0 r h2 e K
    unfold lp_X9_next_119 at e
    refine gs_aload_n rfl rfl ?_
    refine gs_aload_n rfl rfl ?_
    refine gs_get rfl (gd_i rfl rfl) ?_
    obtain ⟨r21, ec22, e⟩ := ob1_some e
    refine gs_callvI (st := []) rfl (pr_C_le (by decide) (th_X9_byteAt L (f 110 33) f r21 ec22)) rfl rfl rfl (by decide) rfl (Or.inr (by decide)) ?_
    refine gs_callsI (st := []) rfl (pr_C_le (by decide) (th_X9_isFigure L r21 f _ rfl)) rfl rfl rfl (by decide) ?_
    refine gs_eq0 rfl (fun c23 => ?_) (fun c23 => ?_)
    · rw [if_pos c23] at e
      obtain rfl := inj1 e
      refine gs_drop [0] rfl ?_
      exact K
    · rw [if_neg c23] at e
      refine gs_aload_n rfl rfl ?_
      refine gs_dup rfl rfl ?_
      refine gs_get rfl (gd_i rfl rfl) ?_
      refine gs_iconst (x := 1) rfl (by decide) ?_
      refine gs_iadd rfl ?_
      refine gs_put rfl (gd_pi rfl rfl) ?_
      obtain ⟨f24, hf24, e⟩ := pn_some e
      refine gs_heap hf24 ?_
      refine gs_goto rfl ?_
      refine gs_drop [0] rfl ?_
      exact ih f24 w0 _ _ e K
set_option maxRecDepth 100000 in
set_option maxHeartbeats 4000000 in
theorem tl_X9_next_77 (L : Nat) : ∀ (n : Nat)  (f : pd_M) (w0 : pd_M) (r : Option Value) (h2 : ph_T), lp_X9_next_77 n f = some (w0) → pr_G L 1 mt_X9_next (104, [(0, .ref 110)], [], hH w0) r h2 → pr_G L 1 mt_X9_next (77, [(0, .ref 110)], [], hH f) r h2 := by
  intro n
  induction n with
  | zero => intro f w0 r h2 e; cases e
  | succ n ih =>
    intro f w0 r h2 e K
    unfold lp_X9_next_77 at e
    refine gs_aload_n rfl rfl ?_
    refine gs_aload_n rfl rfl ?_
    refine gs_get rfl (gd_i rfl rfl) ?_
    obtain ⟨r30, ec31, e⟩ := ob1_some e
    refine gs_callvI (st := []) rfl (pr_C_le (by decide) (th_X9_byteAt L (f 110 33) f r30 ec31)) rfl rfl rfl (by decide) rfl (Or.inr (by decide)) ?_
    refine gs_callsI (st := []) rfl (pr_C_le (by decide) (th_X9_isLetter L r30 f _ rfl)) rfl rfl rfl (by decide) ?_
    refine gs_eq0 rfl (fun c32 => ?_) (fun c32 => ?_)
    · rw [if_pos c32] at e
      obtain rfl := inj1 e
      refine gs_drop [0] rfl ?_
      exact K
    · rw [if_neg c32] at e
      refine gs_aload_n rfl rfl ?_
      refine gs_dup rfl rfl ?_
      refine gs_get rfl (gd_i rfl rfl) ?_
      refine gs_iconst (x := 1) rfl (by decide) ?_
      refine gs_iadd rfl ?_
      refine gs_put rfl (gd_pi rfl rfl) ?_
      obtain ⟨f33, hf33, e⟩ := pn_some e
      refine gs_heap hf33 ?_
      refine gs_goto rfl ?_
      refine gs_drop [0] rfl ?_
      exact ih f33 w0 _ _ e K
set_option maxRecDepth 100000 in
set_option maxHeartbeats 4000000 in
theorem th_X9_next (L : Nat)  (f : pd_M) (g : pd_M) (e : fn_X9_next f = some g) : pr_C L 2 127 [.ref 110] (hH f) none (hH g) := by
  refine pr_C.of (G := mt_X9_next) rfl rfl ?_
  show pr_G L 1 mt_X9_next (0, [(0, .ref 110)], [], hH f) _ _
  unfold fn_X9_next at e
  refine gs_drop [0] rfl ?_
  obtain ⟨f9, el10, e⟩ := ob1_some e
  refine tl_X9_next_0 L 5000 f f9 _ _ el10 ?_
  refine gs_aload_n rfl rfl ?_
  refine gs_aload_n rfl rfl ?_
  refine gs_get rfl (gd_i rfl rfl) ?_
  refine gs_put rfl (gd_pi rfl rfl) ?_
  obtain ⟨f11, hf11, e⟩ := pn_some e
  refine gs_heap hf11 ?_
  refine gs_aload_n rfl rfl ?_
  refine gs_aload_n rfl rfl ?_
  refine gs_get rfl (gd_i rfl rfl) ?_
  obtain ⟨r12, ec13, e⟩ := ob1_some e
  refine gs_callvI (st := []) rfl (pr_C_le (by decide) (th_X9_byteAt L (f11 110 33) f11 r12 ec13)) rfl rfl rfl (by decide) rfl (Or.inr (by decide)) ?_
  refine gs_istore_n (lv' := [(1, .int r12), (0, .ref 110)]) rfl rfl ?_
  refine gs_iload_n rfl rfl ?_
  refine gs_ldc (x := (-1000000)) rfl (by decide) ?_
  obtain ⟨f15, ev196, e⟩ := ob1_some e
  have KJ196 : pr_G L 1 mt_X9_next (196, [(0, .ref 110)], [], hH f15) none (hH g) := by
    refine gs_aload_n rfl rfl ?_
    refine gs_aload_n rfl rfl ?_
    refine gs_get rfl (gd_i rfl rfl) ?_
    refine gs_put rfl (gd_pi rfl rfl) ?_
    obtain ⟨f31, hf31, e⟩ := pn_some e
    refine gs_heap hf31 ?_
    obtain rfl := inj1 e
    exact gs_vret rfl rfl rfl rfl
  have e := ev196
  clear ev196
  refine gs_ne2 rfl (fun c14 => ?_) (fun c14 => ?_)
  · rw [if_neg c14] at e
    refine gs_iload_n rfl rfl ?_
    refine gs_callsI (st := []) rfl (pr_C_le (by decide) (th_X9_isLetter L r12 f11 _ rfl)) rfl rfl rfl (by decide) ?_
    refine gs_eq0 rfl (fun c16 => ?_) (fun c16 => ?_)
    · rw [if_pos c16] at e
      refine gs_iload_n rfl rfl ?_
      refine gs_callsI (st := []) rfl (pr_C_le (by decide) (th_X9_isFigure L r12 f11 _ rfl)) rfl rfl rfl (by decide) ?_
      refine gs_eq0 rfl (fun c17 => ?_) (fun c17 => ?_)
      · rw [if_pos c17] at e
        refine gs_aload_n rfl rfl ?_
        refine gs_dup rfl rfl ?_
        refine gs_get rfl (gd_i rfl rfl) ?_
        refine gs_iconst (x := 1) rfl (by decide) ?_
        refine gs_iadd rfl ?_
        refine gs_put rfl (gd_pi rfl rfl) ?_
        obtain ⟨f18, hf18, e⟩ := pn_some e
        refine gs_heap hf18 ?_
        refine gs_aload_n rfl rfl ?_
        refine gs_iload_n rfl rfl ?_
        refine gs_bipush (x := 59) rfl (by decide) ?_
        obtain ⟨v20, ev193, e⟩ := ob1_some e
        have KJ193 : pr_G L 1 mt_X9_next (193, [(0, .ref 110)], [.int v20, .ref 110], hH f18) none (hH g) := by
          refine gs_put rfl (gd_pi rfl rfl) ?_
          obtain ⟨f21, hf21, e⟩ := pn_some e
          refine gs_heap hf21 ?_
          obtain rfl := inj1 e
          refine gs_drop [0] rfl ?_
          exact KJ196
        have e := ev193
        clear ev193
        refine gs_ne2 rfl (fun c19 => ?_) (fun c19 => ?_)
        · rw [if_neg c19] at e
          refine gs_iconst (x := 0) rfl (by decide) ?_
          obtain rfl := inj1 e
          refine gs_drop [1] rfl ?_
          exact KJ193
        · rw [if_pos c19] at e
          refine gs_iconst (x := 4) rfl (by decide) ?_
          refine gs_goto rfl ?_
          obtain rfl := inj1 e
          refine gs_drop [1] rfl ?_
          exact KJ193
      · rw [if_neg c17] at e
        refine gs_drop [1] rfl ?_
        obtain ⟨f22, el23, e⟩ := ob1_some e
        refine tl_X9_next_119 L 5000 f11 f22 _ _ el23 ?_
        refine gs_aload_n rfl rfl ?_
        refine gs_aload_n rfl rfl ?_
        refine gs_get rfl (gd_i rfl rfl) ?_
        refine gs_aload_n rfl rfl ?_
        refine gs_get rfl (gd_i rfl rfl) ?_
        refine gs_isub rfl ?_
        refine gs_iconst (x := 2) rfl (by decide) ?_
        obtain ⟨v25, ev165, e⟩ := ob1_some e
        have KJ165 : pr_G L 1 mt_X9_next (165, [(0, .ref 110)], [.int v25, .ref 110], hH f22) none (hH g) := by
          refine gs_put rfl (gd_pi rfl rfl) ?_
          obtain ⟨f26, hf26, e⟩ := pn_some e
          refine gs_heap hf26 ?_
          refine gs_goto rfl ?_
          obtain rfl := inj1 e
          refine gs_drop [0] rfl ?_
          exact KJ196
        have e := ev165
        clear ev165
        refine gs_le2 rfl (fun c24 => ?_) (fun c24 => ?_)
        · rw [if_pos c24] at e
          refine gs_iconst (x := 3) rfl (by decide) ?_
          obtain rfl := inj1 e
          refine gs_drop [0] rfl ?_
          exact KJ165
        · rw [if_neg c24] at e
          refine gs_iconst (x := 0) rfl (by decide) ?_
          refine gs_goto rfl ?_
          obtain rfl := inj1 e
          refine gs_drop [0] rfl ?_
          exact KJ165
    · rw [if_neg c16] at e
      refine gs_drop [1] rfl ?_
      obtain ⟨f27, el28, e⟩ := ob1_some e
      refine tl_X9_next_77 L 5000 f11 f27 _ _ el28 ?_
      refine gs_aload_n rfl rfl ?_
      refine gs_iconst (x := 2) rfl (by decide) ?_
      refine gs_put rfl (gd_pi rfl rfl) ?_
      obtain ⟨f29, hf29, e⟩ := pn_some e
      refine gs_heap hf29 ?_
      refine gs_goto rfl ?_
      obtain rfl := inj1 e
      refine gs_drop [0] rfl ?_
      exact KJ196
  · rw [if_pos c14] at e
    refine gs_aload_n rfl rfl ?_
    refine gs_iconst (x := 1) rfl (by decide) ?_
    refine gs_put rfl (gd_pi rfl rfl) ?_
    obtain ⟨f30, hf30, e⟩ := pn_some e
    refine gs_heap hf30 ?_
    refine gs_goto rfl ?_
    obtain rfl := inj1 e
    refine gs_drop [1] rfl ?_
    exact KJ196
def fn_X9_bad (p1 : Int32) (f : pd_M) : Option (pd_M) :=
  if (f 110 37) = 0 then
  pn ((pi_up f 110 37 p1)) fun f2 =>
  pn ((pi_up f2 110 38 (f2 110 35))) fun f3 =>
  some f3
  else
  some f
set_option maxRecDepth 100000 in
set_option maxHeartbeats 4000000 in
theorem th_X9_bad (L : Nat) (p1 : Int32) (f : pd_M) (g : pd_M) (e : fn_X9_bad p1 f = some g) : pr_C L 1 128 [.ref 110, .int p1] (hH f) none (hH g) := by
  refine pr_C.of (G := mt_X9_bad) rfl rfl ?_
  show pr_G L 0 mt_X9_bad (0, [(0, .ref 110), (1, .int p1)], [], hH f) _ _
  unfold fn_X9_bad at e
  refine gs_aload_n rfl rfl ?_
  refine gs_get rfl (gd_i rfl rfl) ?_
  refine gs_ne0 rfl (fun c1 => ?_) (fun c1 => ?_)
  · rw [if_neg c1] at e
    obtain rfl := inj1 e
    exact gs_vret rfl rfl rfl rfl
  · rw [if_pos c1] at e
    refine gs_aload_n rfl rfl ?_
    refine gs_iload_n rfl rfl ?_
    refine gs_put rfl (gd_pi rfl rfl) ?_
    obtain ⟨f2, hf2, e⟩ := pn_some e
    refine gs_heap hf2 ?_
    refine gs_aload_n rfl rfl ?_
    refine gs_aload_n rfl rfl ?_
    refine gs_get rfl (gd_i rfl rfl) ?_
    refine gs_put rfl (gd_pi rfl rfl) ?_
    obtain ⟨f3, hf3, e⟩ := pn_some e
    refine gs_heap hf3 ?_
    obtain rfl := inj1 e
    exact gs_vret rfl rfl rfl rfl
def fn_X9_must (p1 : Int32) (f : pd_M) : Option (pd_M) :=
  ob1 (if p1 = 0 then
  ob1 (fn_X9_bad 1 f) fun f3 =>
  some (f3)
  else
  some (f)) fun (f2 : pd_M) =>
  if (f2 110 37) = 0 then
  ob1 (fn_X9_next f2) fun f6 =>
  some f6
  else
  some f2
set_option maxRecDepth 100000 in
set_option maxHeartbeats 4000000 in
theorem th_X9_must (L : Nat) (p1 : Int32) (f : pd_M) (g : pd_M) (e : fn_X9_must p1 f = some g) : pr_C L 3 129 [.ref 110, .int p1] (hH f) none (hH g) := by
  refine pr_C.of (G := mt_X9_must) rfl rfl ?_
  show pr_G L 2 mt_X9_must (0, [(0, .ref 110), (1, .int p1)], [], hH f) _ _
  unfold fn_X9_must at e
  refine gs_iload_n rfl rfl ?_
  obtain ⟨f2, ev9, e⟩ := ob1_some e
  have KJ9 : pr_G L 2 mt_X9_must (9, [(0, .ref 110)], [], hH f2) none (hH g) := by
    refine gs_aload_n rfl rfl ?_
    refine gs_get rfl (gd_i rfl rfl) ?_
    refine gs_ne0 rfl (fun c5 => ?_) (fun c5 => ?_)
    · rw [if_neg c5] at e
      obtain rfl := inj1 e
      exact gs_vret rfl rfl rfl rfl
    · rw [if_pos c5] at e
      refine gs_aload_n rfl rfl ?_
      obtain ⟨f6, ec7, e⟩ := ob1_some e
      refine gs_callvV (st := []) rfl (pr_C_le (by decide) (th_X9_next L f2 f6 ec7)) rfl rfl rfl (by decide) rfl (Or.inr (by decide)) ?_
      obtain rfl := inj1 e
      exact gs_vret rfl rfl rfl rfl
  have e := ev9
  clear ev9
  refine gs_ne0 rfl (fun c1 => ?_) (fun c1 => ?_)
  · rw [if_neg c1] at e
    obtain rfl := inj1 e
    refine gs_drop [0] rfl ?_
    exact KJ9
  · rw [if_pos c1] at e
    refine gs_aload_n rfl rfl ?_
    refine gs_iconst (x := 1) rfl (by decide) ?_
    obtain ⟨f3, ec4, e⟩ := ob1_some e
    refine gs_callvV (st := []) rfl (pr_C_le (by decide) (th_X9_bad L 1 f f3 ec4)) rfl rfl rfl (by decide) rfl (Or.inr (by decide)) ?_
    obtain rfl := inj1 e
    refine gs_drop [0] rfl ?_
    exact KJ9
def lp_X9_word_7 : Nat → Int64 → Int32 → pd_M → Option (Int64)
  | 0, _, _, _ => none
  | n + 1, z1, z3, f =>
    if (f 110 36) ≤ z3 then
    some (z1)
    else
    if (f 110 34) = 2 then
    if 8 ≤ ((f 110 36) - (f 110 35)) then
    some (z1)
    else
    if pa_in z3 500 = true then
    pn (((z1 <<< ((8 : Int32).toInt64 &&& 63)) ||| (f 136 z3.toNatClampNeg).toInt64)) fun x6 =>
    pn (z3 + 1) fun x7 =>
    lp_X9_word_7 n x6 x7 f
    else none
    else
    some (z1)
def fn_X9_word (f : pd_M) : Option (Int64) :=
  pn ((f 110 35)) fun x1 =>
  ob1 (lp_X9_word_7 5000 0 x1 f) fun y8 =>
  some y8
set_option maxRecDepth 100000 in
set_option maxHeartbeats 4000000 in
theorem tl_X9_word_7 (L : Nat) : ∀ (n : Nat) (z1 : Int64) (z3 : Int32) (f : pd_M) (w0 : Int64) (r : Option Value) (h2 : ph_T), lp_X9_word_7 n z1 z3 f = some (w0) → pr_G L 0 mt_X9_word (56, [(1, .long w0)], [], hH f) r h2 → pr_G L 0 mt_X9_word (7, [(0, .ref 110), (1, .long z1), (3, .int z3)], [], hH f) r h2 := by
  intro n
  induction n with
  | zero => intro z1 z3 f w0 r h2 e; cases e
  | succ n ih =>
    intro z1 z3 f w0 r h2 e K
    unfold lp_X9_word_7 at e
    refine gs_iload_n rfl rfl ?_
    refine gs_aload_n rfl rfl ?_
    refine gs_get rfl (gd_i rfl rfl) ?_
    refine gs_ge2 rfl (fun c2 => ?_) (fun c2 => ?_)
    · rw [if_pos c2] at e
      obtain rfl := inj1 e
      refine gs_drop [1] rfl ?_
      exact K
    · rw [if_neg c2] at e
      refine gs_aload_n rfl rfl ?_
      refine gs_get rfl (gd_i rfl rfl) ?_
      refine gs_iconst (x := 2) rfl (by decide) ?_
      refine gs_ne2 rfl (fun c3 => ?_) (fun c3 => ?_)
      · rw [if_neg c3] at e
        obtain rfl := inj1 e
        refine gs_drop [1] rfl ?_
        exact K
      · rw [if_pos c3] at e
        refine gs_aload_n rfl rfl ?_
        refine gs_get rfl (gd_i rfl rfl) ?_
        refine gs_aload_n rfl rfl ?_
        refine gs_get rfl (gd_i rfl rfl) ?_
        refine gs_isub rfl ?_
        refine gs_bipush (x := 8) rfl (by decide) ?_
        refine gs_ge2 rfl (fun c4 => ?_) (fun c4 => ?_)
        · rw [if_pos c4] at e
          obtain rfl := inj1 e
          refine gs_drop [1] rfl ?_
          exact K
        · rw [if_neg c4] at e
          refine gs_lload_n rfl rfl ?_
          refine gs_bipush (x := 8) rfl (by decide) ?_
          refine gs_lshl rfl ?_
          refine gs_aload_n rfl rfl ?_
          refine gs_get rfl (gd_r (b := 136) rfl rfl rfl) ?_
          refine gs_iload_n rfl rfl ?_
          by_cases hb5 : pa_in z3 500 = true
          case neg => rw [if_neg hb5] at e; cases e
          rw [if_pos hb5] at e
          refine gs_iald rfl (gd_ia (j := z3.toNatClampNeg) rfl hb5 rfl) ?_
          refine gs_i2l rfl ?_
          refine gs_lor rfl ?_
          obtain ⟨x6, hx6, e⟩ := pn_some e
          refine gs_topl hx6 ?_
          refine gs_lstore_n (lv' := [(1, .long x6), (0, .ref 110), (3, .int z3)]) rfl rfl ?_
          obtain ⟨x7, hx7, e⟩ := pn_some e
          refine gs_iinc1 (x1 := x7) (c := 1) (lv' := [(3, .int x7), (1, .long x6), (0, .ref 110)]) rfl rfl (by decide) hx7 rfl ?_
          refine gs_goto rfl ?_
          refine gs_drop [2, 1, 0] rfl ?_
          exact ih x6 x7 f w0 _ _ e K
set_option maxRecDepth 100000 in
set_option maxHeartbeats 4000000 in
theorem th_X9_word (L : Nat)  (f : pd_M) (q : Int64) (e : fn_X9_word f = some q) : pr_C L 1 130 [.ref 110] (hH f) (some (.long q)) (hH f) := by
  refine pr_C.of (G := mt_X9_word) rfl rfl ?_
  show pr_G L 0 mt_X9_word (0, [(0, .ref 110)], [], hH f) _ _
  unfold fn_X9_word at e
  refine gs_lconst (w := 0) rfl (by decide) ?_
  refine gs_lstore_n (lv' := [(1, .long 0), (0, .ref 110)]) rfl rfl ?_
  refine gs_aload_n rfl rfl ?_
  refine gs_get rfl (gd_i rfl rfl) ?_
  obtain ⟨x1, hx1, e⟩ := pn_some e
  refine gs_topi hx1 ?_
  refine gs_istore_n (lv' := [(3, .int x1), (1, .long 0), (0, .ref 110)]) rfl rfl ?_
  refine gs_drop [2, 1, 0] rfl ?_
  obtain ⟨y8, el9, e⟩ := ob1_some e
  refine tl_X9_word_7 L 5000 0 x1 f y8 _ _ el9 ?_
  refine gs_lload_n rfl rfl ?_
  obtain rfl := inj1 e
  exact gs_lret rfl rfl rfl rfl
def lp_X9_numberHere_7 : Nat → Int32 → Int32 → pd_M → Option (Int32)
  | 0, _, _, _ => none
  | n + 1, z1, z2, f =>
    if (f 110 36) ≤ z2 then
    some (z1)
    else
    if (f 110 34) = 3 then
    if pa_in z2 500 = true then
    pn ((((10 * z1) + (f 136 z2.toNatClampNeg)) - 48)) fun x5 =>
    pn (z2 + 1) fun x6 =>
    lp_X9_numberHere_7 n x5 x6 f
    else none
    else
    some (z1)
def fn_X9_numberHere (f : pd_M) : Option (Int32) :=
  pn ((f 110 35)) fun x1 =>
  ob1 (lp_X9_numberHere_7 5000 0 x1 f) fun y7 =>
  some y7
set_option maxRecDepth 100000 in
set_option maxHeartbeats 4000000 in
theorem tl_X9_numberHere_7 (L : Nat) : ∀ (n : Nat) (z1 : Int32) (z2 : Int32) (f : pd_M) (w0 : Int32) (r : Option Value) (h2 : ph_T), lp_X9_numberHere_7 n z1 z2 f = some (w0) → pr_G L 0 mt_X9_numberHere (44, [(1, .int w0)], [], hH f) r h2 → pr_G L 0 mt_X9_numberHere (7, [(0, .ref 110), (1, .int z1), (2, .int z2)], [], hH f) r h2 := by
  intro n
  induction n with
  | zero => intro z1 z2 f w0 r h2 e; cases e
  | succ n ih =>
    intro z1 z2 f w0 r h2 e K
    unfold lp_X9_numberHere_7 at e
    refine gs_iload_n rfl rfl ?_
    refine gs_aload_n rfl rfl ?_
    refine gs_get rfl (gd_i rfl rfl) ?_
    refine gs_ge2 rfl (fun c2 => ?_) (fun c2 => ?_)
    · rw [if_pos c2] at e
      obtain rfl := inj1 e
      refine gs_drop [1] rfl ?_
      exact K
    · rw [if_neg c2] at e
      refine gs_aload_n rfl rfl ?_
      refine gs_get rfl (gd_i rfl rfl) ?_
      refine gs_iconst (x := 3) rfl (by decide) ?_
      refine gs_ne2 rfl (fun c3 => ?_) (fun c3 => ?_)
      · rw [if_neg c3] at e
        obtain rfl := inj1 e
        refine gs_drop [1] rfl ?_
        exact K
      · rw [if_pos c3] at e
        refine gs_bipush (x := 10) rfl (by decide) ?_
        refine gs_iload_n rfl rfl ?_
        refine gs_imul rfl ?_
        refine gs_aload_n rfl rfl ?_
        refine gs_get rfl (gd_r (b := 136) rfl rfl rfl) ?_
        refine gs_iload_n rfl rfl ?_
        by_cases hb4 : pa_in z2 500 = true
        case neg => rw [if_neg hb4] at e; cases e
        rw [if_pos hb4] at e
        refine gs_iald rfl (gd_ia (j := z2.toNatClampNeg) rfl hb4 rfl) ?_
        refine gs_iadd rfl ?_
        refine gs_bipush (x := 48) rfl (by decide) ?_
        refine gs_isub rfl ?_
        obtain ⟨x5, hx5, e⟩ := pn_some e
        refine gs_topi hx5 ?_
        refine gs_istore_n (lv' := [(1, .int x5), (0, .ref 110), (2, .int z2)]) rfl rfl ?_
        obtain ⟨x6, hx6, e⟩ := pn_some e
        refine gs_iinc1 (x1 := x6) (c := 1) (lv' := [(2, .int x6), (1, .int x5), (0, .ref 110)]) rfl rfl (by decide) hx6 rfl ?_
        refine gs_goto rfl ?_
        refine gs_drop [2, 1, 0] rfl ?_
        exact ih x5 x6 f w0 _ _ e K
set_option maxRecDepth 100000 in
set_option maxHeartbeats 4000000 in
theorem th_X9_numberHere (L : Nat)  (f : pd_M) (q : Int32) (e : fn_X9_numberHere f = some q) : pr_C L 1 131 [.ref 110] (hH f) (some (.int q)) (hH f) := by
  refine pr_C.of (G := mt_X9_numberHere) rfl rfl ?_
  show pr_G L 0 mt_X9_numberHere (0, [(0, .ref 110)], [], hH f) _ _
  unfold fn_X9_numberHere at e
  refine gs_iconst (x := 0) rfl (by decide) ?_
  refine gs_istore_n (lv' := [(1, .int 0), (0, .ref 110)]) rfl rfl ?_
  refine gs_aload_n rfl rfl ?_
  refine gs_get rfl (gd_i rfl rfl) ?_
  obtain ⟨x1, hx1, e⟩ := pn_some e
  refine gs_topi hx1 ?_
  refine gs_istore_n (lv' := [(2, .int x1), (1, .int 0), (0, .ref 110)]) rfl rfl ?_
  refine gs_drop [2, 1, 0] rfl ?_
  obtain ⟨y7, el8, e⟩ := ob1_some e
  refine tl_X9_numberHere_7 L 5000 0 x1 f y7 _ _ el8 ?_
  refine gs_iload_n rfl rfl ?_
  obtain rfl := inj1 e
  exact gs_iret rfl rfl rfl rfl rfl
def fn_X9_numberIn (p1 : Int32) (p2 : Int32) (p3 : Int32) (f : pd_M) : Option (Int32 × pd_M) :=
  if (f 110 37) ≤ 0 then
  ob1 (fn_X9_numberHere f) fun r2 =>
  ob1 (if (f 110 34) = 3 then
  if (fn_X9_in (r2.toInt64) (p1.toInt64) (p2.toInt64)) = 0 then
  ob1 (fn_X9_bad 2 f) fun f7 =>
  some (f7)
  else
  if 31 ≤ r2 then
  some (f)
  else
  if ((p3 >>> (r2 &&& 31)) &&& 1) = 1 then
  ob1 (fn_X9_bad 2 f) fun f11 =>
  some (f11)
  else
  some (f)
  else
  some (f)) fun (f5 : pd_M) =>
  ob1 (if (f5 110 34) = 3 then
  some (1)
  else
  some (0)) fun (v14 : Int32) =>
  ob1 (fn_X9_must v14 f5) fun f15 =>
  some (r2, f15)
  else
  some (0, f)
set_option maxRecDepth 100000 in
set_option maxHeartbeats 4000000 in
theorem th_X9_numberIn (L : Nat) (p1 : Int32) (p2 : Int32) (p3 : Int32) (f : pd_M) (q : Int32) (g : pd_M) (e : fn_X9_numberIn p1 p2 p3 f = some (q, g)) : pr_C L 4 132 [.ref 110, .int p1, .int p2, .int p3] (hH f) (some (.int q)) (hH g) := by
  refine pr_C.of (G := mt_X9_numberIn) rfl rfl ?_
  show pr_G L 3 mt_X9_numberIn (0, [(0, .ref 110), (1, .int p1), (2, .int p2), (3, .int p3)], [], hH f) _ _
  unfold fn_X9_numberIn at e
  refine gs_aload_n rfl rfl ?_
  refine gs_get rfl (gd_i rfl rfl) ?_
  refine gs_le0 rfl (fun c1 => ?_) (fun c1 => ?_)
  · rw [if_pos c1] at e
    refine gs_aload_n rfl rfl ?_
    obtain ⟨r2, ec3, e⟩ := ob1_some e
    refine gs_callvI (st := []) rfl (pr_C_le (by decide) (th_X9_numberHere L f r2 ec3)) rfl rfl rfl (by decide) rfl (Or.inr (by decide)) ?_
    refine gs_istore (lv' := [(4, .int r2), (0, .ref 110), (1, .int p1), (2, .int p2), (3, .int p3)]) rfl rfl ?_
    refine gs_aload_n rfl rfl ?_
    refine gs_get rfl (gd_i rfl rfl) ?_
    refine gs_iconst (x := 3) rfl (by decide) ?_
    obtain ⟨f5, ev58, e⟩ := ob1_some e
    have KJ58 : pr_G L 3 mt_X9_numberIn (58, [(0, .ref 110), (4, .int r2)], [], hH f5) (some (.int q)) (hH g) := by
      refine gs_aload_n rfl rfl ?_
      refine gs_aload_n rfl rfl ?_
      refine gs_get rfl (gd_i rfl rfl) ?_
      refine gs_iconst (x := 3) rfl (by decide) ?_
      obtain ⟨v14, ev72, e⟩ := ob1_some e
      have KJ72 : pr_G L 3 mt_X9_numberIn (72, [(4, .int r2)], [.int v14, .ref 110], hH f5) (some (.int q)) (hH g) := by
        obtain ⟨f15, ec16, e⟩ := ob1_some e
        refine gs_callvV (st := []) rfl (pr_C_le (by decide) (th_X9_must L v14 f5 f15 ec16)) rfl rfl rfl (by decide) rfl (Or.inr (by decide)) ?_
        refine gs_iload rfl rfl ?_
        obtain ⟨rfl, rfl⟩ := inj2 e
        exact gs_iret rfl rfl rfl rfl rfl
      have e := ev72
      clear ev72
      refine gs_ne2 rfl (fun c13 => ?_) (fun c13 => ?_)
      · rw [if_neg c13] at e
        refine gs_iconst (x := 0) rfl (by decide) ?_
        obtain rfl := inj1 e
        refine gs_drop [1] rfl ?_
        exact KJ72
      · rw [if_pos c13] at e
        refine gs_iconst (x := 1) rfl (by decide) ?_
        refine gs_goto rfl ?_
        obtain rfl := inj1 e
        refine gs_drop [1] rfl ?_
        exact KJ72
    have e := ev58
    clear ev58
    refine gs_ne2 rfl (fun c4 => ?_) (fun c4 => ?_)
    · rw [if_neg c4] at e
      obtain rfl := inj1 e
      refine gs_drop [1, 0] rfl ?_
      exact KJ58
    · rw [if_pos c4] at e
      refine gs_iload rfl rfl ?_
      refine gs_i2l rfl ?_
      refine gs_iload_n rfl rfl ?_
      refine gs_i2l rfl ?_
      refine gs_iload_n rfl rfl ?_
      refine gs_i2l rfl ?_
      refine gs_callsI (st := []) rfl (pr_C_le (by decide) (th_X9_in L (r2.toInt64) (p1.toInt64) (p2.toInt64) f _ rfl)) rfl rfl rfl (by decide) ?_
      refine gs_eq0 rfl (fun c6 => ?_) (fun c6 => ?_)
      · rw [if_pos c6] at e
        refine gs_aload_n rfl rfl ?_
        refine gs_iconst (x := 2) rfl (by decide) ?_
        obtain ⟨f7, ec8, e⟩ := ob1_some e
        refine gs_callvV (st := []) rfl (pr_C_le (by decide) (th_X9_bad L 2 f f7 ec8)) rfl rfl rfl (by decide) rfl (Or.inr (by decide)) ?_
        obtain rfl := inj1 e
        refine gs_drop [1, 0] rfl ?_
        exact KJ58
      · rw [if_neg c6] at e
        refine gs_iload rfl rfl ?_
        refine gs_bipush (x := 31) rfl (by decide) ?_
        refine gs_ge2 rfl (fun c9 => ?_) (fun c9 => ?_)
        · rw [if_pos c9] at e
          obtain rfl := inj1 e
          refine gs_drop [1, 0] rfl ?_
          exact KJ58
        · rw [if_neg c9] at e
          refine gs_iload_n rfl rfl ?_
          refine gs_iload rfl rfl ?_
          refine gs_ishr rfl ?_
          refine gs_iconst (x := 1) rfl (by decide) ?_
          refine gs_iand rfl ?_
          refine gs_iconst (x := 1) rfl (by decide) ?_
          refine gs_ne2 rfl (fun c10 => ?_) (fun c10 => ?_)
          · rw [if_neg c10] at e
            obtain rfl := inj1 e
            refine gs_drop [1, 0] rfl ?_
            exact KJ58
          · rw [if_pos c10] at e
            refine gs_aload_n rfl rfl ?_
            refine gs_iconst (x := 2) rfl (by decide) ?_
            obtain ⟨f11, ec12, e⟩ := ob1_some e
            refine gs_callvV (st := []) rfl (pr_C_le (by decide) (th_X9_bad L 2 f f11 ec12)) rfl rfl rfl (by decide) rfl (Or.inr (by decide)) ?_
            obtain rfl := inj1 e
            refine gs_drop [1, 0] rfl ?_
            exact KJ58
  · rw [if_neg c1] at e
    refine gs_iconst (x := 0) rfl (by decide) ?_
    obtain ⟨rfl, rfl⟩ := inj2 e
    exact gs_iret rfl rfl rfl rfl rfl
