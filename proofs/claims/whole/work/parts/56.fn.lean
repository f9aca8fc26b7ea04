def lp_X9_breaks_11 : Nat → Int32 → Int32 → Int32 → Int32 → pd_M → Option ((Int32) ⊕ (Unit))
  | 0, _, _, _, _, _ => none
  | n + 1, z1, z2, z3, z4, f =>
    if 3 ≤ z4 then
    some (.inr ())
    else
    ob1 (fn_X9_isAbout z1 z3 z4 f) fun r3 =>
    if r3 = 0 then
    pn (z4 + 1) fun x6 =>
    lp_X9_breaks_11 n z1 z2 z3 x6 f
    else
    if pa_in z1 20 = true then
    ob1 (fn_X9_answerOf (f 123 z1.toNatClampNeg) z2 z3 z4 f) fun r8 =>
    ob1 (fn_X9_wrongIn z1 r8 f) fun r10 =>
    if r10 = (-1000000) then
    pn (z4 + 1) fun x13 =>
    lp_X9_breaks_11 n z1 z2 z3 x13 f
    else
    some (.inl (((64 * z3) + (8 * z4)) + r10))
    else none
def lp_X9_breaks_2 : Nat → Int32 → Int32 → Int32 → pd_M → Option ((Int32) ⊕ (Unit))
  | 0, _, _, _, _ => none
  | n + 1, z1, z2, z3, f =>
    if 8 ≤ z3 then
    some (.inr ())
    else
    os0 (lp_X9_breaks_11 5000 z1 z2 z3 0 f) (fun q => some (.inl q)) (
    pn (z3 + 1) fun x14 =>
    lp_X9_breaks_2 n z1 z2 x14 f)
def fn_X9_breaks (p1 : Int32) (p2 : Int32) (f : pd_M) : Option (Int32) :=
  os0 (lp_X9_breaks_2 5000 p1 p2 0 f) (fun q => some q) (
  some (-1000000))
set_option maxRecDepth 100000 in
set_option maxHeartbeats 4000000 in
theorem tl_X9_breaks_11 (L : Nat) : ∀ (n : Nat) (z1 : Int32) (z2 : Int32) (z3 : Int32) (z4 : Int32) (f : pd_M) (o : (Int32) ⊕ (Unit)), lp_X9_breaks_11 n z1 z2 z3 z4 f = some o → (∀ q, o = .inl q → pr_G L 2 mt_X9_breaks (11, [(0, .ref 110), (1, .int z1), (2, .int z2), (3, .int z3), (4, .int z4)], [], hH f) (some (.int q)) (hH f)) ∧ (∀ (_ : Unit), o = .inr () → ∀ (r : Option Value) (h2 : ph_T), pr_G L 2 mt_X9_breaks (76, [(0, .ref 110), (1, .int z1), (2, .int z2), (3, .int z3)], [], hH f) r h2 → pr_G L 2 mt_X9_breaks (11, [(0, .ref 110), (1, .int z1), (2, .int z2), (3, .int z3), (4, .int z4)], [], hH f) r h2) := by
  intro n
  induction n with
  | zero => intro z1 z2 z3 z4 f o e; cases e
  | succ n ih =>
    intro z1 z2 z3 z4 f o e
    refine ⟨fun q hq => ?_, fun _ hq r h2 K => ?_⟩
    · subst hq
      unfold lp_X9_breaks_11 at e
      refine gs_iload rfl rfl ?_
      refine gs_iconst (x := 3) rfl (by decide) ?_
      refine gs_ge2 rfl (fun c2 => ?_) (fun c2 => ?_)
      · rw [if_pos c2] at e
        cases e
      · rw [if_neg c2] at e
        refine gs_aload_n rfl rfl ?_
        refine gs_iload_n rfl rfl ?_
        refine gs_iload_n rfl rfl ?_
        refine gs_iload rfl rfl ?_
        obtain ⟨r3, ec4, e⟩ := ob1_some e
        refine gs_callvI (st := []) rfl (pr_C_le (by decide) (th_X9_isAbout L z1 z3 z4 f r3 ec4)) rfl rfl rfl (by decide) rfl (Or.inr (by decide)) ?_
        refine gs_eq0 rfl (fun c5 => ?_) (fun c5 => ?_)
        · rw [if_pos c5] at e
          obtain ⟨x6, hx6, e⟩ := pn_some e
          refine gs_iinc1 (x1 := x6) (c := 1) (lv' := [(4, .int x6), (0, .ref 110), (1, .int z1), (2, .int z2), (3, .int z3)]) rfl rfl (by decide) hx6 rfl ?_
          refine gs_goto rfl ?_
          refine gs_drop [1, 2, 3, 4, 0] rfl ?_
          exact (ih z1 z2 z3 x6 f _ e).1 _ rfl
        · rw [if_neg c5] at e
          refine gs_aload_n rfl rfl ?_
          refine gs_iload_n rfl rfl ?_
          refine gs_aload_n rfl rfl ?_
          refine gs_aload_n rfl rfl ?_
          refine gs_get rfl (gd_r (b := 123) rfl rfl rfl) ?_
          refine gs_iload_n rfl rfl ?_
          by_cases hb7 : pa_in z1 20 = true
          case neg => rw [if_neg hb7] at e; cases e
          rw [if_pos hb7] at e
          refine gs_iald rfl (gd_ia (j := z1.toNatClampNeg) rfl hb7 rfl) ?_
          refine gs_iload_n rfl rfl ?_
          refine gs_iload_n rfl rfl ?_
          refine gs_iload rfl rfl ?_
          obtain ⟨r8, ec9, e⟩ := ob1_some e
          refine gs_callvI (st := [.int z1, .ref 110]) rfl (pr_C_le (by decide) (th_X9_answerOf L (f 123 z1.toNatClampNeg) z2 z3 z4 f r8 ec9)) rfl rfl rfl (by decide) rfl (Or.inr (by decide)) ?_
          obtain ⟨r10, ec11, e⟩ := ob1_some e
          refine gs_callvI (st := []) rfl (pr_C_le (by decide) (th_X9_wrongIn L z1 r8 f r10 ec11)) rfl rfl rfl (by decide) rfl (Or.inr (by decide)) ?_
          refine gs_istore (lv' := [(5, .int r10), (0, .ref 110), (1, .int z1), (2, .int z2), (3, .int z3), (4, .int z4)]) rfl rfl ?_
          refine gs_iload rfl rfl ?_
          refine gs_ldc (x := (-1000000)) rfl (by decide) ?_
          refine gs_eq2 rfl (fun c12 => ?_) (fun c12 => ?_)
          · rw [if_pos c12] at e
            obtain ⟨x13, hx13, e⟩ := pn_some e
            refine gs_iinc1 (x1 := x13) (c := 1) (lv' := [(4, .int x13), (5, .int r10), (0, .ref 110), (1, .int z1), (2, .int z2), (3, .int z3)]) rfl rfl (by decide) hx13 rfl ?_
            refine gs_goto rfl ?_
            refine gs_drop [2, 3, 4, 5, 0] rfl ?_
            exact (ih z1 z2 z3 x13 f _ e).1 _ rfl
          · rw [if_neg c12] at e
            refine gs_bipush (x := 64) rfl (by decide) ?_
            refine gs_iload_n rfl rfl ?_
            refine gs_imul rfl ?_
            refine gs_bipush (x := 8) rfl (by decide) ?_
            refine gs_iload rfl rfl ?_
            refine gs_imul rfl ?_
            refine gs_iadd rfl ?_
            refine gs_iload rfl rfl ?_
            refine gs_iadd rfl ?_
            obtain rfl := injl e
            exact gs_iret rfl rfl rfl rfl rfl
    · subst hq
      unfold lp_X9_breaks_11 at e
      refine gs_iload rfl rfl ?_
      refine gs_iconst (x := 3) rfl (by decide) ?_
      refine gs_ge2 rfl (fun c2 => ?_) (fun c2 => ?_)
      · rw [if_pos c2] at e
        refine gs_drop [0, 1, 2, 3] rfl ?_
        exact K
      · rw [if_neg c2] at e
        refine gs_aload_n rfl rfl ?_
        refine gs_iload_n rfl rfl ?_
        refine gs_iload_n rfl rfl ?_
        refine gs_iload rfl rfl ?_
        obtain ⟨r3, ec4, e⟩ := ob1_some e
        refine gs_callvI (st := []) rfl (pr_C_le (by decide) (th_X9_isAbout L z1 z3 z4 f r3 ec4)) rfl rfl rfl (by decide) rfl (Or.inr (by decide)) ?_
        refine gs_eq0 rfl (fun c5 => ?_) (fun c5 => ?_)
        · rw [if_pos c5] at e
          obtain ⟨x6, hx6, e⟩ := pn_some e
          refine gs_iinc1 (x1 := x6) (c := 1) (lv' := [(4, .int x6), (0, .ref 110), (1, .int z1), (2, .int z2), (3, .int z3)]) rfl rfl (by decide) hx6 rfl ?_
          refine gs_goto rfl ?_
          refine gs_drop [1, 2, 3, 4, 0] rfl ?_
          exact (ih z1 z2 z3 x6 f _ e).2 () rfl _ _ K
        · rw [if_neg c5] at e
          refine gs_aload_n rfl rfl ?_
          refine gs_iload_n rfl rfl ?_
          refine gs_aload_n rfl rfl ?_
          refine gs_aload_n rfl rfl ?_
          refine gs_get rfl (gd_r (b := 123) rfl rfl rfl) ?_
          refine gs_iload_n rfl rfl ?_
          by_cases hb7 : pa_in z1 20 = true
          case neg => rw [if_neg hb7] at e; cases e
          rw [if_pos hb7] at e
          refine gs_iald rfl (gd_ia (j := z1.toNatClampNeg) rfl hb7 rfl) ?_
          refine gs_iload_n rfl rfl ?_
          refine gs_iload_n rfl rfl ?_
          refine gs_iload rfl rfl ?_
          obtain ⟨r8, ec9, e⟩ := ob1_some e
          refine gs_callvI (st := [.int z1, .ref 110]) rfl (pr_C_le (by decide) (th_X9_answerOf L (f 123 z1.toNatClampNeg) z2 z3 z4 f r8 ec9)) rfl rfl rfl (by decide) rfl (Or.inr (by decide)) ?_
          obtain ⟨r10, ec11, e⟩ := ob1_some e
          refine gs_callvI (st := []) rfl (pr_C_le (by decide) (th_X9_wrongIn L z1 r8 f r10 ec11)) rfl rfl rfl (by decide) rfl (Or.inr (by decide)) ?_
          refine gs_istore (lv' := [(5, .int r10), (0, .ref 110), (1, .int z1), (2, .int z2), (3, .int z3), (4, .int z4)]) rfl rfl ?_
          refine gs_iload rfl rfl ?_
          refine gs_ldc (x := (-1000000)) rfl (by decide) ?_
          refine gs_eq2 rfl (fun c12 => ?_) (fun c12 => ?_)
          · rw [if_pos c12] at e
            obtain ⟨x13, hx13, e⟩ := pn_some e
            refine gs_iinc1 (x1 := x13) (c := 1) (lv' := [(4, .int x13), (5, .int r10), (0, .ref 110), (1, .int z1), (2, .int z2), (3, .int z3)]) rfl rfl (by decide) hx13 rfl ?_
            refine gs_goto rfl ?_
            refine gs_drop [2, 3, 4, 5, 0] rfl ?_
            exact (ih z1 z2 z3 x13 f _ e).2 () rfl _ _ K
          · rw [if_neg c12] at e
            refine gs_bipush (x := 64) rfl (by decide) ?_
            refine gs_iload_n rfl rfl ?_
            refine gs_imul rfl ?_
            refine gs_bipush (x := 8) rfl (by decide) ?_
            refine gs_iload rfl rfl ?_
            refine gs_imul rfl ?_
            refine gs_iadd rfl ?_
            refine gs_iload rfl rfl ?_
            refine gs_iadd rfl ?_
            cases e
set_option maxRecDepth 100000 in
set_option maxHeartbeats 4000000 in
theorem tl_X9_breaks_2 (L : Nat) : ∀ (n : Nat) (z1 : Int32) (z2 : Int32) (z3 : Int32) (f : pd_M) (o : (Int32) ⊕ (Unit)), lp_X9_breaks_2 n z1 z2 z3 f = some o → (∀ q, o = .inl q → pr_G L 2 mt_X9_breaks (2, [(0, .ref 110), (1, .int z1), (2, .int z2), (3, .int z3)], [], hH f) (some (.int q)) (hH f)) ∧ (∀ (_ : Unit), o = .inr () → ∀ (r : Option Value) (h2 : ph_T), pr_G L 2 mt_X9_breaks (82, [], [], hH f) r h2 → pr_G L 2 mt_X9_breaks (2, [(0, .ref 110), (1, .int z1), (2, .int z2), (3, .int z3)], [], hH f) r h2) := by
  intro n
  induction n with
  | zero => intro z1 z2 z3 f o e; cases e
  | succ n ih =>
    intro z1 z2 z3 f o e
    refine ⟨fun q hq => ?_, fun _ hq r h2 K => ?_⟩
    · subst hq
      unfold lp_X9_breaks_2 at e
      refine gs_iload_n rfl rfl ?_
      refine gs_bipush (x := 8) rfl (by decide) ?_
      refine gs_ge2 rfl (fun c1 => ?_) (fun c1 => ?_)
      · rw [if_pos c1] at e
        cases e
      · rw [if_neg c1] at e
        refine gs_iconst (x := 0) rfl (by decide) ?_
        refine gs_istore (lv' := [(4, .int 0), (0, .ref 110), (1, .int z1), (2, .int z2), (3, .int z3)]) rfl rfl ?_
        refine gs_drop [1, 2, 3, 4, 0] rfl ?_
        rcases os0_some e with ⟨q, el15, e⟩ | ⟨el15, e⟩
        · skip
          obtain rfl := injl e
          exact (tl_X9_breaks_11 L 5000 z1 z2 z3 0 f _ el15).1 _ rfl
        · refine (tl_X9_breaks_11 L 5000 z1 z2 z3 0 f _ el15).2 () rfl _ _ ?_
          obtain ⟨x14, hx14, e⟩ := pn_some e
          refine gs_iinc1 (x1 := x14) (c := 1) (lv' := [(3, .int x14), (0, .ref 110), (1, .int z1), (2, .int z2)]) rfl rfl (by decide) hx14 rfl ?_
          refine gs_goto rfl ?_
          refine gs_drop [1, 2, 3, 0] rfl ?_
          exact (ih z1 z2 x14 f _ e).1 _ rfl
    · subst hq
      unfold lp_X9_breaks_2 at e
      refine gs_iload_n rfl rfl ?_
      refine gs_bipush (x := 8) rfl (by decide) ?_
      refine gs_ge2 rfl (fun c1 => ?_) (fun c1 => ?_)
      · rw [if_pos c1] at e
        refine gs_drop [] rfl ?_
        exact K
      · rw [if_neg c1] at e
        refine gs_iconst (x := 0) rfl (by decide) ?_
        refine gs_istore (lv' := [(4, .int 0), (0, .ref 110), (1, .int z1), (2, .int z2), (3, .int z3)]) rfl rfl ?_
        refine gs_drop [1, 2, 3, 4, 0] rfl ?_
        rcases os0_some e with ⟨q, el15, e⟩ | ⟨el15, e⟩
        · skip
          cases e
        · refine (tl_X9_breaks_11 L 5000 z1 z2 z3 0 f _ el15).2 () rfl _ _ ?_
          obtain ⟨x14, hx14, e⟩ := pn_some e
          refine gs_iinc1 (x1 := x14) (c := 1) (lv' := [(3, .int x14), (0, .ref 110), (1, .int z1), (2, .int z2)]) rfl rfl (by decide) hx14 rfl ?_
          refine gs_goto rfl ?_
          refine gs_drop [1, 2, 3, 0] rfl ?_
          exact (ih z1 z2 x14 f _ e).2 () rfl _ _ K
set_option maxRecDepth 100000 in
set_option maxHeartbeats 4000000 in
theorem th_X9_breaks (L : Nat) (p1 : Int32) (p2 : Int32) (f : pd_M) (q : Int32) (e : fn_X9_breaks p1 p2 f = some q) : pr_C L 3 151 [.ref 110, .int p1, .int p2] (hH f) (some (.int q)) (hH f) := by
  refine pr_C.of (G := mt_X9_breaks) rfl rfl ?_
  show pr_G L 2 mt_X9_breaks (0, [(0, .ref 110), (1, .int p1), (2, .int p2)], [], hH f) _ _
  unfold fn_X9_breaks at e
  refine gs_iconst (x := 0) rfl (by decide) ?_
  refine gs_istore_n (lv' := [(3, .int 0), (0, .ref 110), (1, .int p1), (2, .int p2)]) rfl rfl ?_
  refine gs_drop [1, 2, 3, 0] rfl ?_
  rcases os0_some e with ⟨q, el16, e⟩ | ⟨el16, e⟩
  · skip
    obtain rfl := inj1 e
    exact (tl_X9_breaks_2 L 5000 p1 p2 0 f _ el16).1 _ rfl
  · refine (tl_X9_breaks_2 L 5000 p1 p2 0 f _ el16).2 () rfl _ _ ?_
    refine gs_ldc (x := (-1000000)) rfl (by decide) ?_
    obtain rfl := inj1 e
    exact gs_iret rfl rfl rfl rfl rfl
def fn_X9_isKept (p1 : Int32) (p2 : Int32) (f : pd_M) : Option (Int32) :=
  ob1 (fn_X9_breaks p1 p2 f) fun r1 =>
  if r1 = (-1000000) then
  some 1
  else
  some 0
set_option maxRecDepth 100000 in
set_option maxHeartbeats 4000000 in
theorem th_X9_isKept (L : Nat) (p1 : Int32) (p2 : Int32) (f : pd_M) (q : Int32) (e : fn_X9_isKept p1 p2 f = some q) : pr_C L 4 152 [.ref 110, .int p1, .int p2] (hH f) (some (.int q)) (hH f) := by
  refine pr_C.of (G := mt_X9_isKept) rfl rfl ?_
  show pr_G L 3 mt_X9_isKept (0, [(0, .ref 110), (1, .int p1), (2, .int p2)], [], hH f) _ _
  unfold fn_X9_isKept at e
  refine gs_aload_n rfl rfl ?_
  refine gs_iload_n rfl rfl ?_
  refine gs_iload_n rfl rfl ?_
  obtain ⟨r1, ec2, e⟩ := ob1_some e
  refine gs_callvI (st := []) rfl (pr_C_le (by decide) (th_X9_breaks L p1 p2 f r1 ec2)) rfl rfl rfl (by decide) rfl (Or.inr (by decide)) ?_
  refine gs_ldc (x := (-1000000)) rfl (by decide) ?_
  refine gs_ne2 rfl (fun c3 => ?_) (fun c3 => ?_)
  · rw [if_neg c3] at e
    refine gs_iconst (x := 0) rfl (by decide) ?_
    obtain rfl := inj1 e
    exact gs_iret rfl rfl (by decide) rfl rfl
  · rw [if_pos c3] at e
    refine gs_iconst (x := 1) rfl (by decide) ?_
    refine gs_goto rfl ?_
    obtain rfl := inj1 e
    exact gs_iret rfl rfl (by decide) rfl rfl
def fn_X9_play (p1 : Int32) (p2 : Int32) (p3 : Int32) (f : pd_M) : Option (Int32 × pd_M) :=
  pn ((pi_up f 110 0 0)) fun f1 =>
  ob1 (fn_X9_isSaying p1 f1) fun r2 =>
  if r2 = 0 then
  some ((-1000001), f1)
  else
  if pa_in p1 20 = true then
  ob1 (fn_X9_isEdition (f1 123 p1.toNatClampNeg) p2 f1) fun r6 =>
  if r6 = 0 then
  some ((-1000001), f1)
  else
  if (fn_X9_in (p3.toInt64) 0 1) = 0 then
  some ((-1000001), f1)
  else
  ob1 (fn_X9_breaks p1 p2 f1) fun r10 =>
  if p3 = 1 then
  some (r10, f1)
  else
  if r10 = (-1000000) then
  some (1, f1)
  else
  some (0, f1)
  else none
set_option maxRecDepth 100000 in
set_option maxHeartbeats 4000000 in
theorem th_X9_play (L : Nat) (p1 : Int32) (p2 : Int32) (p3 : Int32) (f : pd_M) (q : Int32) (g : pd_M) (e : fn_X9_play p1 p2 p3 f = some (q, g)) : pr_C L 4 153 [.ref 110, .int p1, .int p2, .int p3] (hH f) (some (.int q)) (hH g) := by
  refine pr_C.of (G := mt_X9_play) rfl rfl ?_
  show pr_G L 3 mt_X9_play (0, [(0, .ref 110), (1, .int p1), (2, .int p2), (3, .int p3)], [], hH f) _ _
  unfold fn_X9_play at e
  refine gs_aload_n rfl rfl ?_
  refine gs_iconst (x := 0) rfl (by decide) ?_
  refine gs_put rfl (gd_pi rfl rfl) ?_
  obtain ⟨f1, hf1, e⟩ := pn_some e
  refine gs_heap hf1 ?_
  refine gs_aload_n rfl rfl ?_
  refine gs_iload_n rfl rfl ?_
  obtain ⟨r2, ec3, e⟩ := ob1_some e
  refine gs_callvI (st := []) rfl (pr_C_le (by decide) (th_X9_isSaying L p1 f1 r2 ec3)) rfl rfl rfl (by decide) rfl (Or.inr (by decide)) ?_
  refine gs_eq0 rfl (fun c4 => ?_) (fun c4 => ?_)
  · rw [if_pos c4] at e
    refine gs_ldc (x := (-1000001)) rfl (by decide) ?_
    obtain ⟨rfl, rfl⟩ := inj2 e
    exact gs_iret rfl rfl rfl rfl rfl
  · rw [if_neg c4] at e
    refine gs_aload_n rfl rfl ?_
    refine gs_aload_n rfl rfl ?_
    refine gs_get rfl (gd_r (b := 123) rfl rfl rfl) ?_
    refine gs_iload_n rfl rfl ?_
    by_cases hb5 : pa_in p1 20 = true
    case neg => rw [if_neg hb5] at e; cases e
    rw [if_pos hb5] at e
    refine gs_iald rfl (gd_ia (j := p1.toNatClampNeg) rfl hb5 rfl) ?_
    refine gs_iload_n rfl rfl ?_
    obtain ⟨r6, ec7, e⟩ := ob1_some e
    refine gs_callvI (st := []) rfl (pr_C_le (by decide) (th_X9_isEdition L (f1 123 p1.toNatClampNeg) p2 f1 r6 ec7)) rfl rfl rfl (by decide) rfl (Or.inr (by decide)) ?_
    refine gs_eq0 rfl (fun c8 => ?_) (fun c8 => ?_)
    · rw [if_pos c8] at e
      refine gs_ldc (x := (-1000001)) rfl (by decide) ?_
      obtain ⟨rfl, rfl⟩ := inj2 e
      exact gs_iret rfl rfl rfl rfl rfl
    · rw [if_neg c8] at e
      refine gs_iload_n rfl rfl ?_
      refine gs_i2l rfl ?_
      refine gs_lconst (w := 0) rfl (by decide) ?_
      refine gs_lconst (w := 1) rfl (by decide) ?_
      refine gs_callsI (st := []) rfl (pr_C_le (by decide) (th_X9_in L (p3.toInt64) 0 1 f1 _ rfl)) rfl rfl rfl (by decide) ?_
      refine gs_ne0 rfl (fun c9 => ?_) (fun c9 => ?_)
      · rw [if_neg c9] at e
        refine gs_aload_n rfl rfl ?_
        refine gs_iload_n rfl rfl ?_
        refine gs_iload_n rfl rfl ?_
        obtain ⟨r10, ec11, e⟩ := ob1_some e
        refine gs_callvI (st := []) rfl (pr_C_le (by decide) (th_X9_breaks L p1 p2 f1 r10 ec11)) rfl rfl rfl (by decide) rfl (Or.inr (by decide)) ?_
        refine gs_istore (lv' := [(4, .int r10), (0, .ref 110), (1, .int p1), (2, .int p2), (3, .int p3)]) rfl rfl ?_
        refine gs_iload_n rfl rfl ?_
        refine gs_iconst (x := 1) rfl (by decide) ?_
        refine gs_ne2 rfl (fun c12 => ?_) (fun c12 => ?_)
        · rw [if_neg c12] at e
          refine gs_iload rfl rfl ?_
          refine gs_ldc (x := (-1000000)) rfl (by decide) ?_
          refine gs_ne2 rfl (fun c13 => ?_) (fun c13 => ?_)
          · rw [if_neg c13] at e
            refine gs_iconst (x := 0) rfl (by decide) ?_
            obtain ⟨rfl, rfl⟩ := inj2 e
            exact gs_iret rfl rfl rfl rfl rfl
          · rw [if_pos c13] at e
            refine gs_iconst (x := 1) rfl (by decide) ?_
            refine gs_goto rfl ?_
            obtain ⟨rfl, rfl⟩ := inj2 e
            exact gs_iret rfl rfl rfl rfl rfl
        · rw [if_pos c12] at e
          refine gs_iload rfl rfl ?_
          refine gs_goto rfl ?_
          obtain ⟨rfl, rfl⟩ := inj2 e
          exact gs_iret rfl rfl rfl rfl rfl
      · rw [if_pos c9] at e
        refine gs_ldc (x := (-1000001)) rfl (by decide) ?_
        obtain ⟨rfl, rfl⟩ := inj2 e
        exact gs_iret rfl rfl rfl rfl rfl
def lp_X9_isAllowedByAll_6 : Nat → Int32 → Int32 → Int32 → Int32 → Int32 → Int32 → Int32 → Int32 → pd_M → Option (Int32)
  | 0, _, _, _, _, _, _, _, _, _ => none
  | n + 1, z1, z2, z3, z4, z5, z6, z7, z8, f =>
    if (f 110 12) ≤ z8 then
    some (z7)
    else
    if z7 = 0 then
    some (z7)
    else
    if pa_in z8 20 = true then
    ob1 (if (f 121 z8.toNatClampNeg) = z1 then
    if pa_in z8 20 = true then
    if (f 122 z8.toNatClampNeg) = z2 then
    if pa_in z8 20 = true then
    if (f 123 z8.toNatClampNeg) = z3 then
    ob1 (fn_X9_isAbout z8 z4 z5 f) fun r10 =>
    if r10 = 0 then
    some (0)
    else
    some (1)
    else
    some (0)
    else none
    else
    some (0)
    else none
    else
    some (0)) fun (v5 : Int32) =>
    ob1 (if v5 = 0 then
    some (1)
    else
    ob1 (fn_X9_wrongIn z8 z6 f) fun r15 =>
    if r15 = (-1000000) then
    some (1)
    else
    some (0)) fun (v14 : Int32) =>
    pn (z8 + 1) fun x18 =>
    lp_X9_isAllowedByAll_6 n z1 z2 z3 z4 z5 z6 v14 x18 f
    else none
def fn_X9_isAllowedByAll (p1 : Int32) (p2 : Int32) (p3 : Int32) (p4 : Int32) (p5 : Int32) (p6 : Int32) (f : pd_M) : Option (Int32) :=
  ob1 (lp_X9_isAllowedByAll_6 5000 p1 p2 p3 p4 p5 p6 1 0 f) fun y19 =>
  if y19 = 0 ∨ y19 = 1 then some y19 else none
set_option maxRecDepth 100000 in
set_option maxHeartbeats 4000000 in
theorem tl_X9_isAllowedByAll_6 (L : Nat) : ∀ (n : Nat) (z1 : Int32) (z2 : Int32) (z3 : Int32) (z4 : Int32) (z5 : Int32) (z6 : Int32) (z7 : Int32) (z8 : Int32) (f : pd_M) (w0 : Int32) (r : Option Value) (h2 : ph_T), lp_X9_isAllowedByAll_6 n z1 z2 z3 z4 z5 z6 z7 z8 f = some (w0) → pr_G L 2 mt_X9_isAllowedByAll (104, [(7, .int w0)], [], hH f) r h2 → pr_G L 2 mt_X9_isAllowedByAll (6, [(0, .ref 110), (1, .int z1), (2, .int z2), (3, .int z3), (4, .int z4), (5, .int z5), (6, .int z6), (7, .int z7), (8, .int z8)], [], hH f) r h2 := by
  intro n
  induction n with
  | zero => intro z1 z2 z3 z4 z5 z6 z7 z8 f w0 r h2 e; cases e
  | succ n ih =>
    intro z1 z2 z3 z4 z5 z6 z7 z8 f w0 r h2 e K
    unfold lp_X9_isAllowedByAll_6 at e
    refine gs_iload rfl rfl ?_
    refine gs_aload_n rfl rfl ?_
    refine gs_get rfl (gd_i rfl rfl) ?_
    refine gs_ge2 rfl (fun c1 => ?_) (fun c1 => ?_)
    · rw [if_pos c1] at e
      obtain rfl := inj1 e
      refine gs_drop [7] rfl ?_
      exact K
    · rw [if_neg c1] at e
      refine gs_iload rfl rfl ?_
      refine gs_eq0 rfl (fun c2 => ?_) (fun c2 => ?_)
      · rw [if_pos c2] at e
        obtain rfl := inj1 e
        refine gs_drop [7] rfl ?_
        exact K
      · rw [if_neg c2] at e
        refine gs_aload_n rfl rfl ?_
        refine gs_get rfl (gd_r (b := 121) rfl rfl rfl) ?_
        refine gs_iload rfl rfl ?_
        by_cases hb3 : pa_in z8 20 = true
        case neg => rw [if_neg hb3] at e; cases e
        rw [if_pos hb3] at e
        refine gs_iald rfl (gd_ia (j := z8.toNatClampNeg) rfl hb3 rfl) ?_
        refine gs_iload_n rfl rfl ?_
        obtain ⟨v5, ev71, e⟩ := ob1_some e
        have KJ71 : pr_G L 2 mt_X9_isAllowedByAll (71, [(0, .ref 110), (1, .int z1), (2, .int z2), (3, .int z3), (4, .int z4), (5, .int z5), (6, .int z6), (8, .int z8)], [.int v5], hH f) r h2 := by
          refine gs_istore (lv' := [(9, .int v5), (0, .ref 110), (1, .int z1), (2, .int z2), (3, .int z3), (4, .int z4), (5, .int z5), (6, .int z6), (8, .int z8)]) rfl rfl ?_
          refine gs_iload rfl rfl ?_
          obtain ⟨v14, ev96, e⟩ := ob1_some e
          have KJ96 : pr_G L 2 mt_X9_isAllowedByAll (96, [(0, .ref 110), (1, .int z1), (2, .int z2), (3, .int z3), (4, .int z4), (5, .int z5), (6, .int z6), (8, .int z8)], [.int v14], hH f) r h2 := by
            refine gs_istore (lv' := [(7, .int v14), (0, .ref 110), (1, .int z1), (2, .int z2), (3, .int z3), (4, .int z4), (5, .int z5), (6, .int z6), (8, .int z8)]) rfl rfl ?_
            obtain ⟨x18, hx18, e⟩ := pn_some e
            refine gs_iinc1 (x1 := x18) (c := 1) (lv' := [(8, .int x18), (7, .int v14), (0, .ref 110), (1, .int z1), (2, .int z2), (3, .int z3), (4, .int z4), (5, .int z5), (6, .int z6)]) rfl rfl (by decide) hx18 rfl ?_
            refine gs_goto rfl ?_
            refine gs_drop [2, 3, 4, 5, 6, 7, 8, 1, 0] rfl ?_
            exact ih z1 z2 z3 z4 z5 z6 v14 x18 f w0 _ _ e K
          have e := ev96
          clear ev96
          refine gs_eq0 rfl (fun c13 => ?_) (fun c13 => ?_)
          · rw [if_pos c13] at e
            refine gs_iconst (x := 1) rfl (by decide) ?_
            refine gs_goto rfl ?_
            obtain rfl := inj1 e
            refine gs_drop [1, 2, 3, 4, 5, 6, 7, 8] rfl ?_
            exact KJ96
          · rw [if_neg c13] at e
            refine gs_aload_n rfl rfl ?_
            refine gs_iload rfl rfl ?_
            refine gs_iload rfl rfl ?_
            obtain ⟨r15, ec16, e⟩ := ob1_some e
            refine gs_callvI (st := []) rfl (pr_C_le (by decide) (th_X9_wrongIn L z8 z6 f r15 ec16)) rfl rfl rfl (by decide) rfl (Or.inr (by decide)) ?_
            refine gs_ldc (x := (-1000000)) rfl (by decide) ?_
            refine gs_ne2 rfl (fun c17 => ?_) (fun c17 => ?_)
            · rw [if_neg c17] at e
              refine gs_iconst (x := 0) rfl (by decide) ?_
              obtain rfl := inj1 e
              refine gs_drop [1, 2, 3, 4, 5, 6, 7, 8] rfl ?_
              exact KJ96
            · rw [if_pos c17] at e
              refine gs_iconst (x := 1) rfl (by decide) ?_
              refine gs_goto rfl ?_
              obtain rfl := inj1 e
              refine gs_drop [1, 2, 3, 4, 5, 6, 7, 8] rfl ?_
              exact KJ96
        have e := ev71
        clear ev71
        refine gs_ne2 rfl (fun c4 => ?_) (fun c4 => ?_)
        · rw [if_neg c4] at e
          refine gs_iconst (x := 0) rfl (by decide) ?_
          obtain rfl := inj1 e
          refine gs_drop [0, 1, 2, 3, 4, 5, 6, 8] rfl ?_
          exact KJ71
        · rw [if_pos c4] at e
          refine gs_aload_n rfl rfl ?_
          refine gs_get rfl (gd_r (b := 122) rfl rfl rfl) ?_
          refine gs_iload rfl rfl ?_
          by_cases hb6 : pa_in z8 20 = true
          case neg => rw [if_neg hb6] at e; cases e
          rw [if_pos hb6] at e
          refine gs_iald rfl (gd_ia (j := z8.toNatClampNeg) rfl hb6 rfl) ?_
          refine gs_iload_n rfl rfl ?_
          refine gs_ne2 rfl (fun c7 => ?_) (fun c7 => ?_)
          · rw [if_neg c7] at e
            refine gs_iconst (x := 0) rfl (by decide) ?_
            obtain rfl := inj1 e
            refine gs_drop [0, 1, 2, 3, 4, 5, 6, 8] rfl ?_
            exact KJ71
          · rw [if_pos c7] at e
            refine gs_aload_n rfl rfl ?_
            refine gs_get rfl (gd_r (b := 123) rfl rfl rfl) ?_
            refine gs_iload rfl rfl ?_
            by_cases hb8 : pa_in z8 20 = true
            case neg => rw [if_neg hb8] at e; cases e
            rw [if_pos hb8] at e
            refine gs_iald rfl (gd_ia (j := z8.toNatClampNeg) rfl hb8 rfl) ?_
            refine gs_iload_n rfl rfl ?_
            refine gs_ne2 rfl (fun c9 => ?_) (fun c9 => ?_)
            · rw [if_neg c9] at e
              refine gs_iconst (x := 0) rfl (by decide) ?_
              obtain rfl := inj1 e
              refine gs_drop [0, 1, 2, 3, 4, 5, 6, 8] rfl ?_
              exact KJ71
            · rw [if_pos c9] at e
              refine gs_aload_n rfl rfl ?_
              refine gs_iload rfl rfl ?_
              refine gs_iload rfl rfl ?_
              refine gs_iload rfl rfl ?_
              obtain ⟨r10, ec11, e⟩ := ob1_some e
              refine gs_callvI (st := []) rfl (pr_C_le (by decide) (th_X9_isAbout L z8 z4 z5 f r10 ec11)) rfl rfl rfl (by decide) rfl (Or.inr (by decide)) ?_
              refine gs_eq0 rfl (fun c12 => ?_) (fun c12 => ?_)
              · rw [if_pos c12] at e
                refine gs_iconst (x := 0) rfl (by decide) ?_
                obtain rfl := inj1 e
                refine gs_drop [0, 1, 2, 3, 4, 5, 6, 8] rfl ?_
                exact KJ71
              · rw [if_neg c12] at e
                refine gs_iconst (x := 1) rfl (by decide) ?_
                refine gs_goto rfl ?_
                obtain rfl := inj1 e
                refine gs_drop [0, 1, 2, 3, 4, 5, 6, 8] rfl ?_
                exact KJ71
set_option maxRecDepth 100000 in
set_option maxHeartbeats 4000000 in
theorem th_X9_isAllowedByAll (L : Nat) (p1 : Int32) (p2 : Int32) (p3 : Int32) (p4 : Int32) (p5 : Int32) (p6 : Int32) (f : pd_M) (q : Int32) (e : fn_X9_isAllowedByAll p1 p2 p3 p4 p5 p6 f = some q) : pr_C L 3 154 [.ref 110, .int p1, .int p2, .int p3, .int p4, .int p5, .int p6] (hH f) (some (.int q)) (hH f) := by
  refine pr_C.of (G := mt_X9_isAllowedByAll) rfl rfl ?_
  show pr_G L 2 mt_X9_isAllowedByAll (0, [(0, .ref 110), (1, .int p1), (2, .int p2), (3, .int p3), (4, .int p4), (5, .int p5), (6, .int p6)], [], hH f) _ _
  unfold fn_X9_isAllowedByAll at e
  refine gs_iconst (x := 1) rfl (by decide) ?_
  refine gs_istore (lv' := [(7, .int 1), (0, .ref 110), (1, .int p1), (2, .int p2), (3, .int p3), (4, .int p4), (5, .int p5), (6, .int p6)]) rfl rfl ?_
  refine gs_iconst (x := 0) rfl (by decide) ?_
  refine gs_istore (lv' := [(8, .int 0), (7, .int 1), (0, .ref 110), (1, .int p1), (2, .int p2), (3, .int p3), (4, .int p4), (5, .int p5), (6, .int p6)]) rfl rfl ?_
  refine gs_drop [2, 3, 4, 5, 6, 7, 8, 1, 0] rfl ?_
  obtain ⟨y19, el20, e⟩ := ob1_some e
  refine tl_X9_isAllowedByAll_6 L 5000 p1 p2 p3 p4 p5 p6 1 0 f y19 _ _ el20 ?_
  refine gs_iload rfl rfl ?_
  by_cases hz : y19 = 0 ∨ y19 = 1
  · rw [if_pos hz] at e
    obtain rfl := inj1 e
    exact gs_iret rfl rfl (nar_z hz) rfl rfl
  · rw [if_neg hz] at e
    cases e
def lp_X9_standIn_77 : Nat → Int32 → Int32 → Int32 → Int32 → Int32 → Int32 → Int32 → Int32 → pd_M → Option ((Int32 × pd_M) ⊕ (Int32))
  | 0, _, _, _, _, _, _, _, _, _ => none
  | n + 1, z1, z2, z3, z4, z5, z6, z7, z8, f =>
    if 2401 < z8 then
    some (.inr (z7))
    else
    ob1 (fn_X9_isAllowedByAll z1 z2 z3 z4 z5 z8 f) fun r14 =>
    if r14 = 0 then
    pn (z8 + 1) fun x17 =>
    lp_X9_standIn_77 n z1 z2 z3 z4 z5 z6 z7 x17 f
    else
    if z7 = z6 then
    some (.inl (z8, f))
    else
    pn (z7 + 1) fun x19 =>
    pn (z8 + 1) fun x20 =>
    lp_X9_standIn_77 n z1 z2 z3 z4 z5 z6 x19 x20 f
def fn_X9_standIn (p1 : Int32) (p2 : Int32) (p3 : Int32) (p4 : Int32) (p5 : Int32) (p6 : Int32) (f : pd_M) : Option (Int32 × pd_M) :=
  pn ((pi_up f 110 0 0)) fun f1 =>
  ob1 (fn_X9_isService p1) fun r2 =>
  if r2 = 0 then
  some ((-1000001), f1)
  else
  if (fn_X9_in (p2.toInt64) 0 3) = 0 then
  some ((-1000001), f1)
  else
  ob1 (fn_X9_isService p3) fun r6 =>
  if r6 = 0 then
  some ((-1000001), f1)
  else
  if p1 = p3 then
  some ((-1000001), f1)
  else
  if (fn_X9_in (p4.toInt64) 0 7) = 0 then
  some ((-1000001), f1)
  else
  if (fn_X9_in (p5.toInt64) 0 2) = 0 then
  some ((-1000001), f1)
  else
  if (-1) ≤ p6 then
  os1 (lp_X9_standIn_77 5000 p1 p2 p3 p4 p5 p6 0 0 f1) (fun q => some q) fun y21 =>
  if p6 = (-1) then
  some (y21, f1)
  else
  some ((-1000000), f1)
  else
  some ((-1000001), f1)
set_option maxRecDepth 100000 in
set_option maxHeartbeats 4000000 in
theorem tl_X9_standIn_77 (L : Nat) : ∀ (n : Nat) (z1 : Int32) (z2 : Int32) (z3 : Int32) (z4 : Int32) (z5 : Int32) (z6 : Int32) (z7 : Int32) (z8 : Int32) (f : pd_M) (o : (Int32 × pd_M) ⊕ (Int32)), lp_X9_standIn_77 n z1 z2 z3 z4 z5 z6 z7 z8 f = some o → (∀ q, o = .inl q → pr_G L 3 mt_X9_standIn (77, [(0, .ref 110), (1, .int z1), (2, .int z2), (3, .int z3), (4, .int z4), (5, .int z5), (6, .int z6), (7, .int z7), (8, .int z8)], [], hH f) (some (.int q.1)) (hH q.2)) ∧ (∀ (w0 : Int32), o = .inr (w0) → ∀ (r : Option Value) (h2 : ph_T), pr_G L 3 mt_X9_standIn (120, [(6, .int z6), (7, .int w0)], [], hH f) r h2 → pr_G L 3 mt_X9_standIn (77, [(0, .ref 110), (1, .int z1), (2, .int z2), (3, .int z3), (4, .int z4), (5, .int z5), (6, .int z6), (7, .int z7), (8, .int z8)], [], hH f) r h2) := by
  intro n
  induction n with
  | zero => intro z1 z2 z3 z4 z5 z6 z7 z8 f o e; cases e
  | succ n ih =>
    intro z1 z2 z3 z4 z5 z6 z7 z8 f o e
    refine ⟨fun q hq => ?_, fun w0 hq r h2 K => ?_⟩
    · subst hq
      unfold lp_X9_standIn_77 at e
      refine gs_iload rfl rfl ?_
      refine gs_sipush (x := 2401) rfl (by decide) ?_
      refine gs_gt2 rfl (fun c13 => ?_) (fun c13 => ?_)
      · rw [if_pos c13] at e
        cases e
      · rw [if_neg c13] at e
        refine gs_aload_n rfl rfl ?_
        refine gs_iload_n rfl rfl ?_
        refine gs_iload_n rfl rfl ?_
        refine gs_iload_n rfl rfl ?_
        refine gs_iload rfl rfl ?_
        refine gs_iload rfl rfl ?_
        refine gs_iload rfl rfl ?_
        obtain ⟨r14, ec15, e⟩ := ob1_some e
        refine gs_callvI (st := []) rfl (pr_C_le (by decide) (th_X9_isAllowedByAll L z1 z2 z3 z4 z5 z8 f r14 ec15)) rfl rfl rfl (by decide) rfl (Or.inr (by decide)) ?_
        refine gs_eq0 rfl (fun c16 => ?_) (fun c16 => ?_)
        · rw [if_pos c16] at e
          obtain ⟨x17, hx17, e⟩ := pn_some e
          refine gs_iinc1 (x1 := x17) (c := 1) (lv' := [(8, .int x17), (0, .ref 110), (1, .int z1), (2, .int z2), (3, .int z3), (4, .int z4), (5, .int z5), (6, .int z6), (7, .int z7)]) rfl rfl (by decide) hx17 rfl ?_
          refine gs_goto rfl ?_
          refine gs_drop [1, 2, 3, 4, 5, 6, 7, 8, 0] rfl ?_
          exact (ih z1 z2 z3 z4 z5 z6 z7 x17 f _ e).1 _ rfl
        · rw [if_neg c16] at e
          refine gs_iload rfl rfl ?_
          refine gs_iload rfl rfl ?_
          refine gs_ne2 rfl (fun c18 => ?_) (fun c18 => ?_)
          · rw [if_neg c18] at e
            obtain ⟨x19, hx19, e⟩ := pn_some e
            refine gs_iinc1 (x1 := x19) (c := 1) (lv' := [(7, .int x19), (0, .ref 110), (1, .int z1), (2, .int z2), (3, .int z3), (4, .int z4), (5, .int z5), (6, .int z6), (8, .int z8)]) rfl rfl (by decide) hx19 rfl ?_
            obtain ⟨x20, hx20, e⟩ := pn_some e
            refine gs_iinc1 (x1 := x20) (c := 1) (lv' := [(8, .int x20), (7, .int x19), (0, .ref 110), (1, .int z1), (2, .int z2), (3, .int z3), (4, .int z4), (5, .int z5), (6, .int z6)]) rfl rfl (by decide) hx20 rfl ?_
            refine gs_goto rfl ?_
            refine gs_drop [2, 3, 4, 5, 6, 7, 8, 1, 0] rfl ?_
            exact (ih z1 z2 z3 z4 z5 z6 x19 x20 f _ e).1 _ rfl
          · rw [if_pos c18] at e
            refine gs_iload rfl rfl ?_
            obtain rfl := injl e
            exact gs_iret rfl rfl rfl rfl rfl
    · subst hq
      unfold lp_X9_standIn_77 at e
      refine gs_iload rfl rfl ?_
      refine gs_sipush (x := 2401) rfl (by decide) ?_
      refine gs_gt2 rfl (fun c13 => ?_) (fun c13 => ?_)
      · rw [if_pos c13] at e
        obtain rfl := injr1 e
        refine gs_drop [6, 7] rfl ?_
        exact K
      · rw [if_neg c13] at e
        refine gs_aload_n rfl rfl ?_
        refine gs_iload_n rfl rfl ?_
        refine gs_iload_n rfl rfl ?_
        refine gs_iload_n rfl rfl ?_
        refine gs_iload rfl rfl ?_
        refine gs_iload rfl rfl ?_
        refine gs_iload rfl rfl ?_
        obtain ⟨r14, ec15, e⟩ := ob1_some e
        refine gs_callvI (st := []) rfl (pr_C_le (by decide) (th_X9_isAllowedByAll L z1 z2 z3 z4 z5 z8 f r14 ec15)) rfl rfl rfl (by decide) rfl (Or.inr (by decide)) ?_
        refine gs_eq0 rfl (fun c16 => ?_) (fun c16 => ?_)
        · rw [if_pos c16] at e
          obtain ⟨x17, hx17, e⟩ := pn_some e
          refine gs_iinc1 (x1 := x17) (c := 1) (lv' := [(8, .int x17), (0, .ref 110), (1, .int z1), (2, .int z2), (3, .int z3), (4, .int z4), (5, .int z5), (6, .int z6), (7, .int z7)]) rfl rfl (by decide) hx17 rfl ?_
          refine gs_goto rfl ?_
          refine gs_drop [1, 2, 3, 4, 5, 6, 7, 8, 0] rfl ?_
          exact (ih z1 z2 z3 z4 z5 z6 z7 x17 f _ e).2 w0 rfl _ _ K
        · rw [if_neg c16] at e
          refine gs_iload rfl rfl ?_
          refine gs_iload rfl rfl ?_
          refine gs_ne2 rfl (fun c18 => ?_) (fun c18 => ?_)
          · rw [if_neg c18] at e
            obtain ⟨x19, hx19, e⟩ := pn_some e
            refine gs_iinc1 (x1 := x19) (c := 1) (lv' := [(7, .int x19), (0, .ref 110), (1, .int z1), (2, .int z2), (3, .int z3), (4, .int z4), (5, .int z5), (6, .int z6), (8, .int z8)]) rfl rfl (by decide) hx19 rfl ?_
            obtain ⟨x20, hx20, e⟩ := pn_some e
            refine gs_iinc1 (x1 := x20) (c := 1) (lv' := [(8, .int x20), (7, .int x19), (0, .ref 110), (1, .int z1), (2, .int z2), (3, .int z3), (4, .int z4), (5, .int z5), (6, .int z6)]) rfl rfl (by decide) hx20 rfl ?_
            refine gs_goto rfl ?_
            refine gs_drop [2, 3, 4, 5, 6, 7, 8, 1, 0] rfl ?_
            exact (ih z1 z2 z3 z4 z5 z6 x19 x20 f _ e).2 w0 rfl _ _ K
          · rw [if_pos c18] at e
            refine gs_iload rfl rfl ?_
            cases e
set_option maxRecDepth 100000 in
set_option maxHeartbeats 4000000 in
theorem th_X9_standIn (L : Nat) (p1 : Int32) (p2 : Int32) (p3 : Int32) (p4 : Int32) (p5 : Int32) (p6 : Int32) (f : pd_M) (q : Int32) (g : pd_M) (e : fn_X9_standIn p1 p2 p3 p4 p5 p6 f = some (q, g)) : pr_C L 4 155 [.ref 110, .int p1, .int p2, .int p3, .int p4, .int p5, .int p6] (hH f) (some (.int q)) (hH g) := by
  refine pr_C.of (G := mt_X9_standIn) rfl rfl ?_
  show pr_G L 3 mt_X9_standIn (0, [(0, .ref 110), (1, .int p1), (2, .int p2), (3, .int p3), (4, .int p4), (5, .int p5), (6, .int p6)], [], hH f) _ _
  unfold fn_X9_standIn at e
  refine gs_aload_n rfl rfl ?_
  refine gs_iconst (x := 0) rfl (by decide) ?_
  refine gs_put rfl (gd_pi rfl rfl) ?_
  obtain ⟨f1, hf1, e⟩ := pn_some e
  refine gs_heap hf1 ?_
  refine gs_iload_n rfl rfl ?_
  obtain ⟨r2, ec3, e⟩ := ob1_some e
  refine gs_callsI (st := []) rfl (pr_C_le (by decide) (th_X9_isService L p1 f1 r2 ec3)) rfl rfl rfl (by decide) ?_
  refine gs_eq0 rfl (fun c4 => ?_) (fun c4 => ?_)
  · rw [if_pos c4] at e
    refine gs_ldc (x := (-1000001)) rfl (by decide) ?_
    obtain ⟨rfl, rfl⟩ := inj2 e
    exact gs_iret rfl rfl rfl rfl rfl
  · rw [if_neg c4] at e
    refine gs_iload_n rfl rfl ?_
    refine gs_i2l rfl ?_
    refine gs_lconst (w := 0) rfl (by decide) ?_
    refine gs_ldc2 (w := 3) rfl (by decide) ?_
    refine gs_callsI (st := []) rfl (pr_C_le (by decide) (th_X9_in L (p2.toInt64) 0 3 f1 _ rfl)) rfl rfl rfl (by decide) ?_
    refine gs_eq0 rfl (fun c5 => ?_) (fun c5 => ?_)
    · rw [if_pos c5] at e
      refine gs_ldc (x := (-1000001)) rfl (by decide) ?_
      obtain ⟨rfl, rfl⟩ := inj2 e
      exact gs_iret rfl rfl rfl rfl rfl
    · rw [if_neg c5] at e
      refine gs_iload_n rfl rfl ?_
      obtain ⟨r6, ec7, e⟩ := ob1_some e
      refine gs_callsI (st := []) rfl (pr_C_le (by decide) (th_X9_isService L p3 f1 r6 ec7)) rfl rfl rfl (by decide) ?_
      refine gs_eq0 rfl (fun c8 => ?_) (fun c8 => ?_)
      · rw [if_pos c8] at e
        refine gs_ldc (x := (-1000001)) rfl (by decide) ?_
        obtain ⟨rfl, rfl⟩ := inj2 e
        exact gs_iret rfl rfl rfl rfl rfl
      · rw [if_neg c8] at e
        refine gs_iload_n rfl rfl ?_
        refine gs_iload_n rfl rfl ?_
        refine gs_eq2 rfl (fun c9 => ?_) (fun c9 => ?_)
        · rw [if_pos c9] at e
          refine gs_ldc (x := (-1000001)) rfl (by decide) ?_
          obtain ⟨rfl, rfl⟩ := inj2 e
          exact gs_iret rfl rfl rfl rfl rfl
        · rw [if_neg c9] at e
          refine gs_iload rfl rfl ?_
          refine gs_i2l rfl ?_
          refine gs_lconst (w := 0) rfl (by decide) ?_
          refine gs_ldc2 (w := 7) rfl (by decide) ?_
          refine gs_callsI (st := []) rfl (pr_C_le (by decide) (th_X9_in L (p4.toInt64) 0 7 f1 _ rfl)) rfl rfl rfl (by decide) ?_
          refine gs_eq0 rfl (fun c10 => ?_) (fun c10 => ?_)
          · rw [if_pos c10] at e
            refine gs_ldc (x := (-1000001)) rfl (by decide) ?_
            obtain ⟨rfl, rfl⟩ := inj2 e
            exact gs_iret rfl rfl rfl rfl rfl
          · rw [if_neg c10] at e
            refine gs_iload rfl rfl ?_
            refine gs_i2l rfl ?_
            refine gs_lconst (w := 0) rfl (by decide) ?_
            refine gs_ldc2 (w := 2) rfl (by decide) ?_
            refine gs_callsI (st := []) rfl (pr_C_le (by decide) (th_X9_in L (p5.toInt64) 0 2 f1 _ rfl)) rfl rfl rfl (by decide) ?_
            refine gs_eq0 rfl (fun c11 => ?_) (fun c11 => ?_)
            · rw [if_pos c11] at e
              refine gs_ldc (x := (-1000001)) rfl (by decide) ?_
              obtain ⟨rfl, rfl⟩ := inj2 e
              exact gs_iret rfl rfl rfl rfl rfl
            · rw [if_neg c11] at e
              refine gs_iload rfl rfl ?_
              refine gs_iconst (x := (-1)) rfl (by decide) ?_
              refine gs_ge2 rfl (fun c12 => ?_) (fun c12 => ?_)
              · rw [if_pos c12] at e
                refine gs_iconst (x := 0) rfl (by decide) ?_
                refine gs_istore (lv' := [(7, .int 0), (0, .ref 110), (1, .int p1), (2, .int p2), (3, .int p3), (4, .int p4), (5, .int p5), (6, .int p6)]) rfl rfl ?_
                refine gs_iconst (x := 0) rfl (by decide) ?_
                refine gs_istore (lv' := [(8, .int 0), (7, .int 0), (0, .ref 110), (1, .int p1), (2, .int p2), (3, .int p3), (4, .int p4), (5, .int p5), (6, .int p6)]) rfl rfl ?_
                refine gs_drop [2, 3, 4, 5, 6, 7, 8, 1, 0] rfl ?_
                rcases os1_some e with ⟨q, el23, e⟩ | ⟨y21, el23, e⟩
                · skip
                  obtain rfl := inj1 e
                  exact (tl_X9_standIn_77 L 5000 p1 p2 p3 p4 p5 p6 0 0 f1 _ el23).1 _ rfl
                · refine (tl_X9_standIn_77 L 5000 p1 p2 p3 p4 p5 p6 0 0 f1 _ el23).2 y21 rfl _ _ ?_
                  refine gs_iload rfl rfl ?_
                  refine gs_iconst (x := (-1)) rfl (by decide) ?_
                  refine gs_ne2 rfl (fun c22 => ?_) (fun c22 => ?_)
                  · rw [if_neg c22] at e
                    refine gs_ldc (x := (-1000000)) rfl (by decide) ?_
                    obtain ⟨rfl, rfl⟩ := inj2 e
                    exact gs_iret rfl rfl rfl rfl rfl
                  · rw [if_pos c22] at e
                    refine gs_iload rfl rfl ?_
                    refine gs_goto rfl ?_
                    obtain ⟨rfl, rfl⟩ := inj2 e
                    exact gs_iret rfl rfl rfl rfl rfl
              · rw [if_neg c12] at e
                refine gs_ldc (x := (-1000001)) rfl (by decide) ?_
                obtain ⟨rfl, rfl⟩ := inj2 e
                exact gs_iret rfl rfl rfl rfl rfl
def lp_X9_allows_89 : Nat → Int32 → Int32 → Int32 → Int32 → Int32 → Int32 → pd_M → Option ((Int32 × pd_M) ⊕ (Int32))
  | 0, _, _, _, _, _, _, _ => none
  | n + 1, z1, z2, z3, z4, z5, z6, f =>
    if (((40 * z2) + z3) + z4) ≤ z6 then
    some (.inr (z5))
    else
    if pa_in z6 320 = true then
    if (fn_X9_in ((f 113 z6.toNatClampNeg).toInt64) 0 2401) = 0 then
    some (.inl ((-1000001), f))
    else
    if pa_in z6 320 = true then
    ob1 (fn_X9_wrongIn z1 (f 113 z6.toNatClampNeg) f) fun r22 =>
    ob1 (if r22 = (-1000000) then
    some (1)
    else
    some (0)) fun (v25 : Int32) =>
    pn ((z5 + v25)) fun x26 =>
    pn (z6 + 1) fun x27 =>
    lp_X9_allows_89 n z1 z2 z3 z4 x26 x27 f
    else none
    else none
def fn_X9_allows (p1 : Int32) (p2 : Int32) (p3 : Int32) (p4 : Int32) (f : pd_M) : Option (Int32 × pd_M) :=
  pn ((pi_up f 110 0 0)) fun f1 =>
  ob1 (fn_X9_isSaying p1 f1) fun r2 =>
  if r2 = 0 then
  some ((-1000001), f1)
  else
  ob1 (fn_X9_isSheet p2) fun r5 =>
  if r5 = 0 then
  some ((-1000001), f1)
  else
  if (fn_X9_in (p4.toInt64) 1 20) = 0 then
  some ((-1000001), f1)
  else
  if pa_in p2 8 = true then
  if 0 ≤ (f1 111 p2.toNatClampNeg) then
  if p3 < 0 then
  ob2 (fn_X9_finding 2 f1) fun r12 f13 =>
  some (r12, f13)
  else
  if pa_in p2 8 = true then
  if (lg_cmp (p3.toInt64 + p4.toInt64) (f1 112 p2.toNatClampNeg).toInt64) ≤ 0 then
  pn (((40 * p2) + p3)) fun x17 =>
  os1 (lp_X9_allows_89 5000 p1 p2 p3 p4 0 x17 f1) (fun q => some q) fun y28 =>
  pn ((pi_up f1 110 1 0)) fun f29 =>
  some (y28, f29)
  else
  ob2 (fn_X9_finding 2 f1) fun r31 f32 =>
  some (r31, f32)
  else none
  else
  ob2 (fn_X9_finding 1 f1) fun r34 f35 =>
  some (r34, f35)
  else none
set_option maxRecDepth 100000 in
set_option maxHeartbeats 4000000 in
theorem tl_X9_allows_89 (L : Nat) : ∀ (n : Nat) (z1 : Int32) (z2 : Int32) (z3 : Int32) (z4 : Int32) (z5 : Int32) (z6 : Int32) (f : pd_M) (o : (Int32 × pd_M) ⊕ (Int32)), lp_X9_allows_89 n z1 z2 z3 z4 z5 z6 f = some o → (∀ q, o = .inl q → pr_G L 2 mt_X9_allows (89, [(0, .ref 110), (1, .int z1), (2, .int z2), (3, .int z3), (4, .int z4), (5, .int z5), (6, .int z6)], [], hH f) (some (.int q.1)) (hH q.2)) ∧ (∀ (w0 : Int32), o = .inr (w0) → ∀ (r : Option Value) (h2 : ph_T), pr_G L 2 mt_X9_allows (157, [(0, .ref 110), (5, .int w0)], [], hH f) r h2 → pr_G L 2 mt_X9_allows (89, [(0, .ref 110), (1, .int z1), (2, .int z2), (3, .int z3), (4, .int z4), (5, .int z5), (6, .int z6)], [], hH f) r h2) := by
  intro n
  induction n with
  | zero => intro z1 z2 z3 z4 z5 z6 f o e; cases e
  | succ n ih =>
    intro z1 z2 z3 z4 z5 z6 f o e
    refine ⟨fun q hq => ?_, fun w0 hq r h2 K => ?_⟩
    · subst hq
      unfold lp_X9_allows_89 at e
      refine gs_iload rfl rfl ?_
      refine gs_bipush (x := 40) rfl (by decide) ?_
      refine gs_iload_n rfl rfl ?_
      refine gs_imul rfl ?_
      refine gs_iload_n rfl rfl ?_
      refine gs_iadd rfl ?_
      refine gs_iload rfl rfl ?_
      refine gs_iadd rfl ?_
      refine gs_ge2 rfl (fun c18 => ?_) (fun c18 => ?_)
      · rw [if_pos c18] at e
        cases e
      · rw [if_neg c18] at e
        refine gs_aload_n rfl rfl ?_
        refine gs_get rfl (gd_r (b := 113) rfl rfl rfl) ?_
        refine gs_iload rfl rfl ?_
        by_cases hb19 : pa_in z6 320 = true
        case neg => rw [if_neg hb19] at e; cases e
        rw [if_pos hb19] at e
        refine gs_iald rfl (gd_ia (j := z6.toNatClampNeg) rfl hb19 rfl) ?_
        refine gs_i2l rfl ?_
        refine gs_lconst (w := 0) rfl (by decide) ?_
        refine gs_ldc2 (w := 2401) rfl (by decide) ?_
        refine gs_callsI (st := []) rfl (pr_C_le (by decide) (th_X9_in L ((f 113 z6.toNatClampNeg).toInt64) 0 2401 f _ rfl)) rfl rfl rfl (by decide) ?_
        refine gs_ne0 rfl (fun c20 => ?_) (fun c20 => ?_)
        · rw [if_neg c20] at e
          refine gs_iload rfl rfl ?_
          refine gs_aload_n rfl rfl ?_
          refine gs_iload_n rfl rfl ?_
          refine gs_aload_n rfl rfl ?_
          refine gs_get rfl (gd_r (b := 113) rfl rfl rfl) ?_
          refine gs_iload rfl rfl ?_
          by_cases hb21 : pa_in z6 320 = true
          case neg => rw [if_neg hb21] at e; cases e
          rw [if_pos hb21] at e
          refine gs_iald rfl (gd_ia (j := z6.toNatClampNeg) rfl hb21 rfl) ?_
          obtain ⟨r22, ec23, e⟩ := ob1_some e
          refine gs_callvI (st := [.int z5]) rfl (pr_C_le (by decide) (th_X9_wrongIn L z1 (f 113 z6.toNatClampNeg) f r22 ec23)) rfl rfl rfl (by decide) rfl (Or.inr (by decide)) ?_
          refine gs_ldc (x := (-1000000)) rfl (by decide) ?_
          obtain ⟨v25, ev148, e⟩ := ob1_some e
          have KJ148 : pr_G L 2 mt_X9_allows (148, [(0, .ref 110), (1, .int z1), (2, .int z2), (3, .int z3), (4, .int z4), (6, .int z6)], [.int v25, .int z5], hH f) (some (.int q.1)) (hH q.2) := by
            refine gs_iadd rfl ?_
            obtain ⟨x26, hx26, e⟩ := pn_some e
            refine gs_topi hx26 ?_
            refine gs_istore (lv' := [(5, .int x26), (0, .ref 110), (1, .int z1), (2, .int z2), (3, .int z3), (4, .int z4), (6, .int z6)]) rfl rfl ?_
            obtain ⟨x27, hx27, e⟩ := pn_some e
            refine gs_iinc1 (x1 := x27) (c := 1) (lv' := [(6, .int x27), (5, .int x26), (0, .ref 110), (1, .int z1), (2, .int z2), (3, .int z3), (4, .int z4)]) rfl rfl (by decide) hx27 rfl ?_
            refine gs_goto rfl ?_
            refine gs_drop [2, 3, 4, 5, 6, 1, 0] rfl ?_
            exact (ih z1 z2 z3 z4 x26 x27 f _ e).1 _ rfl
          have e := ev148
          clear ev148
          refine gs_ne2 rfl (fun c24 => ?_) (fun c24 => ?_)
          · rw [if_neg c24] at e
            refine gs_iconst (x := 0) rfl (by decide) ?_
            obtain rfl := inj1 e
            refine gs_drop [0, 1, 2, 3, 4, 6] rfl ?_
            exact KJ148
          · rw [if_pos c24] at e
            refine gs_iconst (x := 1) rfl (by decide) ?_
            refine gs_goto rfl ?_
            obtain rfl := inj1 e
            refine gs_drop [0, 1, 2, 3, 4, 6] rfl ?_
            exact KJ148
        · rw [if_pos c20] at e
          refine gs_ldc (x := (-1000001)) rfl (by decide) ?_
          obtain rfl := injl e
          exact gs_iret rfl rfl rfl rfl rfl
    · subst hq
      unfold lp_X9_allows_89 at e
      refine gs_iload rfl rfl ?_
      refine gs_bipush (x := 40) rfl (by decide) ?_
      refine gs_iload_n rfl rfl ?_
      refine gs_imul rfl ?_
      refine gs_iload_n rfl rfl ?_
      refine gs_iadd rfl ?_
      refine gs_iload rfl rfl ?_
      refine gs_iadd rfl ?_
      refine gs_ge2 rfl (fun c18 => ?_) (fun c18 => ?_)
      · rw [if_pos c18] at e
        obtain rfl := injr1 e
        refine gs_drop [0, 5] rfl ?_
        exact K
      · rw [if_neg c18] at e
        refine gs_aload_n rfl rfl ?_
        refine gs_get rfl (gd_r (b := 113) rfl rfl rfl) ?_
        refine gs_iload rfl rfl ?_
        by_cases hb19 : pa_in z6 320 = true
        case neg => rw [if_neg hb19] at e; cases e
        rw [if_pos hb19] at e
        refine gs_iald rfl (gd_ia (j := z6.toNatClampNeg) rfl hb19 rfl) ?_
        refine gs_i2l rfl ?_
        refine gs_lconst (w := 0) rfl (by decide) ?_
        refine gs_ldc2 (w := 2401) rfl (by decide) ?_
        refine gs_callsI (st := []) rfl (pr_C_le (by decide) (th_X9_in L ((f 113 z6.toNatClampNeg).toInt64) 0 2401 f _ rfl)) rfl rfl rfl (by decide) ?_
        refine gs_ne0 rfl (fun c20 => ?_) (fun c20 => ?_)
        · rw [if_neg c20] at e
          refine gs_iload rfl rfl ?_
          refine gs_aload_n rfl rfl ?_
          refine gs_iload_n rfl rfl ?_
          refine gs_aload_n rfl rfl ?_
          refine gs_get rfl (gd_r (b := 113) rfl rfl rfl) ?_
          refine gs_iload rfl rfl ?_
          by_cases hb21 : pa_in z6 320 = true
          case neg => rw [if_neg hb21] at e; cases e
          rw [if_pos hb21] at e
          refine gs_iald rfl (gd_ia (j := z6.toNatClampNeg) rfl hb21 rfl) ?_
          obtain ⟨r22, ec23, e⟩ := ob1_some e
          refine gs_callvI (st := [.int z5]) rfl (pr_C_le (by decide) (th_X9_wrongIn L z1 (f 113 z6.toNatClampNeg) f r22 ec23)) rfl rfl rfl (by decide) rfl (Or.inr (by decide)) ?_
          refine gs_ldc (x := (-1000000)) rfl (by decide) ?_
          obtain ⟨v25, ev148, e⟩ := ob1_some e
          have KJ148 : pr_G L 2 mt_X9_allows (148, [(0, .ref 110), (1, .int z1), (2, .int z2), (3, .int z3), (4, .int z4), (6, .int z6)], [.int v25, .int z5], hH f) r h2 := by
            refine gs_iadd rfl ?_
            obtain ⟨x26, hx26, e⟩ := pn_some e
            refine gs_topi hx26 ?_
            refine gs_istore (lv' := [(5, .int x26), (0, .ref 110), (1, .int z1), (2, .int z2), (3, .int z3), (4, .int z4), (6, .int z6)]) rfl rfl ?_
            obtain ⟨x27, hx27, e⟩ := pn_some e
            refine gs_iinc1 (x1 := x27) (c := 1) (lv' := [(6, .int x27), (5, .int x26), (0, .ref 110), (1, .int z1), (2, .int z2), (3, .int z3), (4, .int z4)]) rfl rfl (by decide) hx27 rfl ?_
            refine gs_goto rfl ?_
            refine gs_drop [2, 3, 4, 5, 6, 1, 0] rfl ?_
            exact (ih z1 z2 z3 z4 x26 x27 f _ e).2 w0 rfl _ _ K
          have e := ev148
          clear ev148
          refine gs_ne2 rfl (fun c24 => ?_) (fun c24 => ?_)
          · rw [if_neg c24] at e
            refine gs_iconst (x := 0) rfl (by decide) ?_
            obtain rfl := inj1 e
            refine gs_drop [0, 1, 2, 3, 4, 6] rfl ?_
            exact KJ148
          · rw [if_pos c24] at e
            refine gs_iconst (x := 1) rfl (by decide) ?_
            refine gs_goto rfl ?_
            obtain rfl := inj1 e
            refine gs_drop [0, 1, 2, 3, 4, 6] rfl ?_
            exact KJ148
        · rw [if_pos c20] at e
          refine gs_ldc (x := (-1000001)) rfl (by decide) ?_
          cases e
set_option maxRecDepth 100000 in
set_option maxHeartbeats 4000000 in
theorem th_X9_allows (L : Nat) (p1 : Int32) (p2 : Int32) (p3 : Int32) (p4 : Int32) (f : pd_M) (q : Int32) (g : pd_M) (e : fn_X9_allows p1 p2 p3 p4 f = some (q, g)) : pr_C L 3 156 [.ref 110, .int p1, .int p2, .int p3, .int p4] (hH f) (some (.int q)) (hH g) := by
  refine pr_C.of (G := mt_X9_allows) rfl rfl ?_
  show pr_G L 2 mt_X9_allows (0, [(0, .ref 110), (1, .int p1), (2, .int p2), (3, .int p3), (4, .int p4)], [], hH f) _ _
  unfold fn_X9_allows at e
  refine gs_aload_n rfl rfl ?_
  refine gs_iconst (x := 0) rfl (by decide) ?_
  refine gs_put rfl (gd_pi rfl rfl) ?_
  obtain ⟨f1, hf1, e⟩ := pn_some e
  refine gs_heap hf1 ?_
  refine gs_aload_n rfl rfl ?_
  refine gs_iload_n rfl rfl ?_
  obtain ⟨r2, ec3, e⟩ := ob1_some e
  refine gs_callvI (st := []) rfl (pr_C_le (by decide) (th_X9_isSaying L p1 f1 r2 ec3)) rfl rfl rfl (by decide) rfl (Or.inr (by decide)) ?_
  refine gs_eq0 rfl (fun c4 => ?_) (fun c4 => ?_)
  · rw [if_pos c4] at e
    refine gs_ldc (x := (-1000001)) rfl (by decide) ?_
    obtain ⟨rfl, rfl⟩ := inj2 e
    exact gs_iret rfl rfl rfl rfl rfl
  · rw [if_neg c4] at e
    refine gs_iload_n rfl rfl ?_
    obtain ⟨r5, ec6, e⟩ := ob1_some e
    refine gs_callsI (st := []) rfl (pr_C_le (by decide) (th_X9_isSheet L p2 f1 r5 ec6)) rfl rfl rfl (by decide) ?_
    refine gs_eq0 rfl (fun c7 => ?_) (fun c7 => ?_)
    · rw [if_pos c7] at e
      refine gs_ldc (x := (-1000001)) rfl (by decide) ?_
      obtain ⟨rfl, rfl⟩ := inj2 e
      exact gs_iret rfl rfl rfl rfl rfl
    · rw [if_neg c7] at e
      refine gs_iload rfl rfl ?_
      refine gs_i2l rfl ?_
      refine gs_lconst (w := 1) rfl (by decide) ?_
      refine gs_ldc2 (w := 20) rfl (by decide) ?_
      refine gs_callsI (st := []) rfl (pr_C_le (by decide) (th_X9_in L (p4.toInt64) 1 20 f1 _ rfl)) rfl rfl rfl (by decide) ?_
      refine gs_ne0 rfl (fun c8 => ?_) (fun c8 => ?_)
      · rw [if_neg c8] at e
        refine gs_aload_n rfl rfl ?_
        refine gs_get rfl (gd_r (b := 111) rfl rfl rfl) ?_
        refine gs_iload_n rfl rfl ?_
        by_cases hb9 : pa_in p2 8 = true
        case neg => rw [if_neg hb9] at e; cases e
        rw [if_pos hb9] at e
        refine gs_iald rfl (gd_ia (j := p2.toNatClampNeg) rfl hb9 rfl) ?_
        refine gs_ge0 rfl (fun c10 => ?_) (fun c10 => ?_)
        · rw [if_pos c10] at e
          refine gs_iload_n rfl rfl ?_
          refine gs_lt0 rfl (fun c11 => ?_) (fun c11 => ?_)
          · rw [if_pos c11] at e
            refine gs_aload_n rfl rfl ?_
            refine gs_iconst (x := 2) rfl (by decide) ?_
            obtain ⟨r12, f13, ec14, e⟩ := ob2_some e
            refine gs_callvI (st := []) rfl (pr_C_le (by decide) (th_X9_finding L 2 f1 r12 f13 ec14)) rfl rfl rfl (by decide) rfl (Or.inr (by decide)) ?_
            obtain ⟨rfl, rfl⟩ := inj2 e
            exact gs_iret rfl rfl rfl rfl rfl
          · rw [if_neg c11] at e
            refine gs_iload_n rfl rfl ?_
            refine gs_i2l rfl ?_
            refine gs_iload rfl rfl ?_
            refine gs_i2l rfl ?_
            refine gs_ladd rfl ?_
            refine gs_aload_n rfl rfl ?_
            refine gs_get rfl (gd_r (b := 112) rfl rfl rfl) ?_
            refine gs_iload_n rfl rfl ?_
            by_cases hb15 : pa_in p2 8 = true
            case neg => rw [if_neg hb15] at e; cases e
            rw [if_pos hb15] at e
            refine gs_iald rfl (gd_ia (j := p2.toNatClampNeg) rfl hb15 rfl) ?_
            refine gs_i2l rfl ?_
            refine gs_lcmp rfl ?_
            refine gs_le0 rfl (fun c16 => ?_) (fun c16 => ?_)
            · rw [if_pos c16] at e
              refine gs_iconst (x := 0) rfl (by decide) ?_
              refine gs_istore (lv' := [(5, .int 0), (0, .ref 110), (1, .int p1), (2, .int p2), (3, .int p3), (4, .int p4)]) rfl rfl ?_
              refine gs_bipush (x := 40) rfl (by decide) ?_
              refine gs_iload_n rfl rfl ?_
              refine gs_imul rfl ?_
              refine gs_iload_n rfl rfl ?_
              refine gs_iadd rfl ?_
              obtain ⟨x17, hx17, e⟩ := pn_some e
              refine gs_topi hx17 ?_
              refine gs_istore (lv' := [(6, .int x17), (5, .int 0), (0, .ref 110), (1, .int p1), (2, .int p2), (3, .int p3), (4, .int p4)]) rfl rfl ?_
              refine gs_drop [2, 3, 4, 5, 6, 1, 0] rfl ?_
              rcases os1_some e with ⟨q, el30, e⟩ | ⟨y28, el30, e⟩
              · skip
                obtain rfl := inj1 e
                exact (tl_X9_allows_89 L 5000 p1 p2 p3 p4 0 x17 f1 _ el30).1 _ rfl
              · refine (tl_X9_allows_89 L 5000 p1 p2 p3 p4 0 x17 f1 _ el30).2 y28 rfl _ _ ?_
                refine gs_aload_n rfl rfl ?_
                refine gs_iconst (x := 0) rfl (by decide) ?_
                refine gs_put rfl (gd_pi rfl rfl) ?_
                obtain ⟨f29, hf29, e⟩ := pn_some e
                refine gs_heap hf29 ?_
                refine gs_iload rfl rfl ?_
                obtain ⟨rfl, rfl⟩ := inj2 e
                exact gs_iret rfl rfl rfl rfl rfl
            · rw [if_neg c16] at e
              refine gs_aload_n rfl rfl ?_
              refine gs_iconst (x := 2) rfl (by decide) ?_
              obtain ⟨r31, f32, ec33, e⟩ := ob2_some e
              refine gs_callvI (st := []) rfl (pr_C_le (by decide) (th_X9_finding L 2 f1 r31 f32 ec33)) rfl rfl rfl (by decide) rfl (Or.inr (by decide)) ?_
              obtain ⟨rfl, rfl⟩ := inj2 e
              exact gs_iret rfl rfl rfl rfl rfl
        · rw [if_neg c10] at e
          refine gs_aload_n rfl rfl ?_
          refine gs_iconst (x := 1) rfl (by decide) ?_
          obtain ⟨r34, f35, ec36, e⟩ := ob2_some e
          refine gs_callvI (st := []) rfl (pr_C_le (by decide) (th_X9_finding L 1 f1 r34 f35 ec36)) rfl rfl rfl (by decide) rfl (Or.inr (by decide)) ?_
          obtain ⟨rfl, rfl⟩ := inj2 e
          exact gs_iret rfl rfl rfl rfl rfl
      · rw [if_pos c8] at e
        refine gs_ldc (x := (-1000001)) rfl (by decide) ?_
        obtain ⟨rfl, rfl⟩ := inj2 e
        exact gs_iret rfl rfl rfl rfl rfl
