def fn_X9_isEdition (p1 : Int32) (p2 : Int32) (f : pd_M) : Option (Int32) :=
  ob1 (fn_X9_isService p1) fun r1 =>
  if r1 = 0 then
  some 0
  else
  if pa_in p1 4 = true then
  if (fn_X9_in (p2.toInt64) 0 (((f 114 p1.toNatClampNeg) - 1).toInt64)) = 0 then
  some 0
  else
  some 1
  else none
set_option maxRecDepth 100000 in
set_option maxHeartbeats 4000000 in
theorem th_X9_isEdition (L : Nat) (p1 : Int32) (p2 : Int32) (f : pd_M) (q : Int32) (e : fn_X9_isEdition p1 p2 f = some q) : pr_C L 3 142 [.ref 110, .int p1, .int p2] (hH f) (some (.int q)) (hH f) := by
  refine pr_C.of (G := mt_X9_isEdition) rfl rfl ?_
  show pr_G L 2 mt_X9_isEdition (0, [(0, .ref 110), (1, .int p1), (2, .int p2)], [], hH f) _ _
  unfold fn_X9_isEdition at e
  refine gs_iload_n rfl rfl ?_
  obtain ⟨r1, ec2, e⟩ := ob1_some e
  refine gs_callsI (st := []) rfl (pr_C_le (by decide) (th_X9_isService L p1 f r1 ec2)) rfl rfl rfl (by decide) ?_
  refine gs_eq0 rfl (fun c3 => ?_) (fun c3 => ?_)
  · rw [if_pos c3] at e
    refine gs_iconst (x := 0) rfl (by decide) ?_
    obtain rfl := inj1 e
    exact gs_iret rfl rfl (by decide) rfl rfl
  · rw [if_neg c3] at e
    refine gs_iload_n rfl rfl ?_
    refine gs_i2l rfl ?_
    refine gs_lconst (w := 0) rfl (by decide) ?_
    refine gs_aload_n rfl rfl ?_
    refine gs_get rfl (gd_r (b := 114) rfl rfl rfl) ?_
    refine gs_iload_n rfl rfl ?_
    by_cases hb4 : pa_in p1 4 = true
    case neg => rw [if_neg hb4] at e; cases e
    rw [if_pos hb4] at e
    refine gs_iald rfl (gd_ia (j := p1.toNatClampNeg) rfl hb4 rfl) ?_
    refine gs_iconst (x := 1) rfl (by decide) ?_
    refine gs_isub rfl ?_
    refine gs_i2l rfl ?_
    refine gs_callsI (st := []) rfl (pr_C_le (by decide) (th_X9_in L (p2.toInt64) 0 (((f 114 p1.toNatClampNeg) - 1).toInt64) f _ rfl)) rfl rfl rfl (by decide) ?_
    refine gs_eq0 rfl (fun c5 => ?_) (fun c5 => ?_)
    · rw [if_pos c5] at e
      refine gs_iconst (x := 0) rfl (by decide) ?_
      obtain rfl := inj1 e
      exact gs_iret rfl rfl (by decide) rfl rfl
    · rw [if_neg c5] at e
      refine gs_iconst (x := 1) rfl (by decide) ?_
      refine gs_goto rfl ?_
      obtain rfl := inj1 e
      exact gs_iret rfl rfl (by decide) rfl rfl
def fn_X9_isSaying (p1 : Int32) (f : pd_M) : Option (Int32) :=
  if (fn_X9_in (p1.toInt64) 0 (((f 110 12) - 1).toInt64)) = 0 ∨ (fn_X9_in (p1.toInt64) 0 (((f 110 12) - 1).toInt64)) = 1 then some (fn_X9_in (p1.toInt64) 0 (((f 110 12) - 1).toInt64)) else none
set_option maxRecDepth 100000 in
set_option maxHeartbeats 4000000 in
theorem th_X9_isSaying (L : Nat) (p1 : Int32) (f : pd_M) (q : Int32) (e : fn_X9_isSaying p1 f = some q) : pr_C L 2 143 [.ref 110, .int p1] (hH f) (some (.int q)) (hH f) := by
  refine pr_C.of (G := mt_X9_isSaying) rfl rfl ?_
  show pr_G L 1 mt_X9_isSaying (0, [(0, .ref 110), (1, .int p1)], [], hH f) _ _
  unfold fn_X9_isSaying at e
  refine gs_iload_n rfl rfl ?_
  refine gs_i2l rfl ?_
  refine gs_lconst (w := 0) rfl (by decide) ?_
  refine gs_aload_n rfl rfl ?_
  refine gs_get rfl (gd_i rfl rfl) ?_
  refine gs_iconst (x := 1) rfl (by decide) ?_
  refine gs_isub rfl ?_
  refine gs_i2l rfl ?_
  refine gs_callsI (st := []) rfl (pr_C_le (by decide) (th_X9_in L (p1.toInt64) 0 (((f 110 12) - 1).toInt64) f _ rfl)) rfl rfl rfl (by decide) ?_
  by_cases hz : (fn_X9_in (p1.toInt64) 0 (((f 110 12) - 1).toInt64)) = 0 ∨ (fn_X9_in (p1.toInt64) 0 (((f 110 12) - 1).toInt64)) = 1
  · rw [if_pos hz] at e
    obtain rfl := inj1 e
    exact gs_iret rfl rfl (nar_z hz) rfl rfl
  · rw [if_neg hz] at e
    cases e
def fn_X9_editions (p1 : Int32) (f : pd_M) : Option (Int32 × pd_M) :=
  pn ((pi_up f 110 0 0)) fun f1 =>
  ob1 (fn_X9_isService p1) fun r2 =>
  if r2 = 0 then
  some ((-1000001), f1)
  else
  if pa_in p1 4 = true then
  some ((f1 114 p1.toNatClampNeg), f1)
  else none
set_option maxRecDepth 100000 in
set_option maxHeartbeats 4000000 in
theorem th_X9_editions (L : Nat) (p1 : Int32) (f : pd_M) (q : Int32) (g : pd_M) (e : fn_X9_editions p1 f = some (q, g)) : pr_C L 3 144 [.ref 110, .int p1] (hH f) (some (.int q)) (hH g) := by
  refine pr_C.of (G := mt_X9_editions) rfl rfl ?_
  show pr_G L 2 mt_X9_editions (0, [(0, .ref 110), (1, .int p1)], [], hH f) _ _
  unfold fn_X9_editions at e
  refine gs_aload_n rfl rfl ?_
  refine gs_iconst (x := 0) rfl (by decide) ?_
  refine gs_put rfl (gd_pi rfl rfl) ?_
  obtain ⟨f1, hf1, e⟩ := pn_some e
  refine gs_heap hf1 ?_
  refine gs_iload_n rfl rfl ?_
  obtain ⟨r2, ec3, e⟩ := ob1_some e
  refine gs_callsI (st := []) rfl (pr_C_le (by decide) (th_X9_isService L p1 f1 r2 ec3)) rfl rfl rfl (by decide) ?_
  refine gs_eq0 rfl (fun c4 => ?_) (fun c4 => ?_)
  · rw [if_pos c4] at e
    refine gs_ldc (x := (-1000001)) rfl (by decide) ?_
    obtain ⟨rfl, rfl⟩ := inj2 e
    exact gs_iret rfl rfl rfl rfl rfl
  · rw [if_neg c4] at e
    refine gs_aload_n rfl rfl ?_
    refine gs_get rfl (gd_r (b := 114) rfl rfl rfl) ?_
    refine gs_iload_n rfl rfl ?_
    by_cases hb5 : pa_in p1 4 = true
    case neg => rw [if_neg hb5] at e; cases e
    rw [if_pos hb5] at e
    refine gs_iald rfl (gd_ia (j := p1.toNatClampNeg) rfl hb5 rfl) ?_
    refine gs_goto rfl ?_
    obtain ⟨rfl, rfl⟩ := inj2 e
    exact gs_iret rfl rfl rfl rfl rfl
def lp_X9_answerOf_14 : Nat → Int32 → Int32 → Int32 → Int32 → pd_M → Option ((Int32) ⊕ (Unit))
  | 0, _, _, _, _, _ => none
  | n + 1, z3, z4, z5, z6, f =>
    if pa_in z5 16 = true then
    if ((6 * z5) + (f 116 z5.toNatClampNeg)) ≤ z6 then
    some (.inr ())
    else
    if pa_in z6 96 = true then
    if pa_in z6 96 = true then
    if (fn_X9_in (z3.toInt64) ((f 117 z6.toNatClampNeg).toInt64) ((f 118 z6.toNatClampNeg).toInt64)) = 0 then
    pn (z6 + 1) fun x8 =>
    lp_X9_answerOf_14 n z3 z4 z5 x8 f
    else
    if pa_in z6 96 = true then
    if (f 119 z6.toNatClampNeg) = 3 then
    if pa_in z6 96 = true then
    some (.inl (f 120 z6.toNatClampNeg))
    else none
    else
    if pa_in z6 96 = true then
    if (f 119 z6.toNatClampNeg) = z4 then
    if pa_in z6 96 = true then
    some (.inl (f 120 z6.toNatClampNeg))
    else none
    else
    pn (z6 + 1) fun x14 =>
    lp_X9_answerOf_14 n z3 z4 z5 x14 f
    else none
    else none
    else none
    else none
    else none
def fn_X9_answerOf (p1 : Int32) (p2 : Int32) (p3 : Int32) (p4 : Int32) (f : pd_M) : Option (Int32) :=
  pn (((4 * p1) + p2)) fun x1 =>
  pn ((6 * x1)) fun x2 =>
  os0 (lp_X9_answerOf_14 5000 p3 p4 x1 x2 f) (fun q => some q) (
  some 2401)
set_option maxRecDepth 100000 in
set_option maxHeartbeats 4000000 in
theorem tl_X9_answerOf_14 (L : Nat) : ∀ (n : Nat) (z3 : Int32) (z4 : Int32) (z5 : Int32) (z6 : Int32) (f : pd_M) (o : (Int32) ⊕ (Unit)), lp_X9_answerOf_14 n z3 z4 z5 z6 f = some o → (∀ q, o = .inl q → pr_G L 1 mt_X9_answerOf (14, [(0, .ref 110), (3, .int z3), (4, .int z4), (5, .int z5), (6, .int z6)], [], hH f) (some (.int q)) (hH f)) ∧ (∀ (_ : Unit), o = .inr () → ∀ (r : Option Value) (h2 : ph_T), pr_G L 1 mt_X9_answerOf (93, [], [], hH f) r h2 → pr_G L 1 mt_X9_answerOf (14, [(0, .ref 110), (3, .int z3), (4, .int z4), (5, .int z5), (6, .int z6)], [], hH f) r h2) := by
  intro n
  induction n with
  | zero => intro z3 z4 z5 z6 f o e; cases e
  | succ n ih =>
    intro z3 z4 z5 z6 f o e
    refine ⟨fun q hq => ?_, fun _ hq r h2 K => ?_⟩
    · subst hq
      unfold lp_X9_answerOf_14 at e
      refine gs_iload rfl rfl ?_
      refine gs_bipush (x := 6) rfl (by decide) ?_
      refine gs_iload rfl rfl ?_
      refine gs_imul rfl ?_
      refine gs_aload_n rfl rfl ?_
      refine gs_get rfl (gd_r (b := 116) rfl rfl rfl) ?_
      refine gs_iload rfl rfl ?_
      by_cases hb3 : pa_in z5 16 = true
      case neg => rw [if_neg hb3] at e; cases e
      rw [if_pos hb3] at e
      refine gs_iald rfl (gd_ia (j := z5.toNatClampNeg) rfl hb3 rfl) ?_
      refine gs_iadd rfl ?_
      refine gs_ge2 rfl (fun c4 => ?_) (fun c4 => ?_)
      · rw [if_pos c4] at e
        cases e
      · rw [if_neg c4] at e
        refine gs_iload_n rfl rfl ?_
        refine gs_i2l rfl ?_
        refine gs_aload_n rfl rfl ?_
        refine gs_get rfl (gd_r (b := 117) rfl rfl rfl) ?_
        refine gs_iload rfl rfl ?_
        by_cases hb5 : pa_in z6 96 = true
        case neg => rw [if_neg hb5] at e; cases e
        rw [if_pos hb5] at e
        refine gs_iald rfl (gd_ia (j := z6.toNatClampNeg) rfl hb5 rfl) ?_
        refine gs_i2l rfl ?_
        refine gs_aload_n rfl rfl ?_
        refine gs_get rfl (gd_r (b := 118) rfl rfl rfl) ?_
        refine gs_iload rfl rfl ?_
        by_cases hb6 : pa_in z6 96 = true
        case neg => rw [if_neg hb6] at e; cases e
        rw [if_pos hb6] at e
        refine gs_iald rfl (gd_ia (j := z6.toNatClampNeg) rfl hb6 rfl) ?_
        refine gs_i2l rfl ?_
        refine gs_callsI (st := []) rfl (pr_C_le (by decide) (th_X9_in L (z3.toInt64) ((f 117 z6.toNatClampNeg).toInt64) ((f 118 z6.toNatClampNeg).toInt64) f _ rfl)) rfl rfl rfl (by decide) ?_
        refine gs_eq0 rfl (fun c7 => ?_) (fun c7 => ?_)
        · rw [if_pos c7] at e
          obtain ⟨x8, hx8, e⟩ := pn_some e
          refine gs_iinc1 (x1 := x8) (c := 1) (lv' := [(6, .int x8), (0, .ref 110), (3, .int z3), (4, .int z4), (5, .int z5)]) rfl rfl (by decide) hx8 rfl ?_
          refine gs_goto rfl ?_
          refine gs_drop [1, 2, 3, 4, 0] rfl ?_
          exact (ih z3 z4 z5 x8 f _ e).1 _ rfl
        · rw [if_neg c7] at e
          refine gs_aload_n rfl rfl ?_
          refine gs_get rfl (gd_r (b := 119) rfl rfl rfl) ?_
          refine gs_iload rfl rfl ?_
          by_cases hb9 : pa_in z6 96 = true
          case neg => rw [if_neg hb9] at e; cases e
          rw [if_pos hb9] at e
          refine gs_iald rfl (gd_ia (j := z6.toNatClampNeg) rfl hb9 rfl) ?_
          refine gs_iconst (x := 3) rfl (by decide) ?_
          refine gs_eq2 rfl (fun c10 => ?_) (fun c10 => ?_)
          · rw [if_pos c10] at e
            refine gs_aload_n rfl rfl ?_
            refine gs_get rfl (gd_r (b := 120) rfl rfl rfl) ?_
            refine gs_iload rfl rfl ?_
            by_cases hb11 : pa_in z6 96 = true
            case neg => rw [if_neg hb11] at e; cases e
            rw [if_pos hb11] at e
            refine gs_iald rfl (gd_ia (j := z6.toNatClampNeg) rfl hb11 rfl) ?_
            obtain rfl := injl e
            exact gs_iret rfl rfl rfl rfl rfl
          · rw [if_neg c10] at e
            refine gs_aload_n rfl rfl ?_
            refine gs_get rfl (gd_r (b := 119) rfl rfl rfl) ?_
            refine gs_iload rfl rfl ?_
            by_cases hb12 : pa_in z6 96 = true
            case neg => rw [if_neg hb12] at e; cases e
            rw [if_pos hb12] at e
            refine gs_iald rfl (gd_ia (j := z6.toNatClampNeg) rfl hb12 rfl) ?_
            refine gs_iload rfl rfl ?_
            refine gs_ne2 rfl (fun c13 => ?_) (fun c13 => ?_)
            · rw [if_neg c13] at e
              obtain ⟨x14, hx14, e⟩ := pn_some e
              refine gs_iinc1 (x1 := x14) (c := 1) (lv' := [(6, .int x14), (0, .ref 110), (3, .int z3), (4, .int z4), (5, .int z5)]) rfl rfl (by decide) hx14 rfl ?_
              refine gs_goto rfl ?_
              refine gs_drop [1, 2, 3, 4, 0] rfl ?_
              exact (ih z3 z4 z5 x14 f _ e).1 _ rfl
            · rw [if_pos c13] at e
              refine gs_aload_n rfl rfl ?_
              refine gs_get rfl (gd_r (b := 120) rfl rfl rfl) ?_
              refine gs_iload rfl rfl ?_
              by_cases hb15 : pa_in z6 96 = true
              case neg => rw [if_neg hb15] at e; cases e
              rw [if_pos hb15] at e
              refine gs_iald rfl (gd_ia (j := z6.toNatClampNeg) rfl hb15 rfl) ?_
              obtain rfl := injl e
              exact gs_iret rfl rfl rfl rfl rfl
    · subst hq
      unfold lp_X9_answerOf_14 at e
      refine gs_iload rfl rfl ?_
      refine gs_bipush (x := 6) rfl (by decide) ?_
      refine gs_iload rfl rfl ?_
      refine gs_imul rfl ?_
      refine gs_aload_n rfl rfl ?_
      refine gs_get rfl (gd_r (b := 116) rfl rfl rfl) ?_
      refine gs_iload rfl rfl ?_
      by_cases hb3 : pa_in z5 16 = true
      case neg => rw [if_neg hb3] at e; cases e
      rw [if_pos hb3] at e
      refine gs_iald rfl (gd_ia (j := z5.toNatClampNeg) rfl hb3 rfl) ?_
      refine gs_iadd rfl ?_
      refine gs_ge2 rfl (fun c4 => ?_) (fun c4 => ?_)
      · rw [if_pos c4] at e
        refine gs_drop [] rfl ?_
        exact K
      · rw [if_neg c4] at e
        refine gs_iload_n rfl rfl ?_
        refine gs_i2l rfl ?_
        refine gs_aload_n rfl rfl ?_
        refine gs_get rfl (gd_r (b := 117) rfl rfl rfl) ?_
        refine gs_iload rfl rfl ?_
        by_cases hb5 : pa_in z6 96 = true
        case neg => rw [if_neg hb5] at e; cases e
        rw [if_pos hb5] at e
        refine gs_iald rfl (gd_ia (j := z6.toNatClampNeg) rfl hb5 rfl) ?_
        refine gs_i2l rfl ?_
        refine gs_aload_n rfl rfl ?_
        refine gs_get rfl (gd_r (b := 118) rfl rfl rfl) ?_
        refine gs_iload rfl rfl ?_
        by_cases hb6 : pa_in z6 96 = true
        case neg => rw [if_neg hb6] at e; cases e
        rw [if_pos hb6] at e
        refine gs_iald rfl (gd_ia (j := z6.toNatClampNeg) rfl hb6 rfl) ?_
        refine gs_i2l rfl ?_
        refine gs_callsI (st := []) rfl (pr_C_le (by decide) (th_X9_in L (z3.toInt64) ((f 117 z6.toNatClampNeg).toInt64) ((f 118 z6.toNatClampNeg).toInt64) f _ rfl)) rfl rfl rfl (by decide) ?_
        refine gs_eq0 rfl (fun c7 => ?_) (fun c7 => ?_)
        · rw [if_pos c7] at e
          obtain ⟨x8, hx8, e⟩ := pn_some e
          refine gs_iinc1 (x1 := x8) (c := 1) (lv' := [(6, .int x8), (0, .ref 110), (3, .int z3), (4, .int z4), (5, .int z5)]) rfl rfl (by decide) hx8 rfl ?_
          refine gs_goto rfl ?_
          refine gs_drop [1, 2, 3, 4, 0] rfl ?_
          exact (ih z3 z4 z5 x8 f _ e).2 () rfl _ _ K
        · rw [if_neg c7] at e
          refine gs_aload_n rfl rfl ?_
          refine gs_get rfl (gd_r (b := 119) rfl rfl rfl) ?_
          refine gs_iload rfl rfl ?_
          by_cases hb9 : pa_in z6 96 = true
          case neg => rw [if_neg hb9] at e; cases e
          rw [if_pos hb9] at e
          refine gs_iald rfl (gd_ia (j := z6.toNatClampNeg) rfl hb9 rfl) ?_
          refine gs_iconst (x := 3) rfl (by decide) ?_
          refine gs_eq2 rfl (fun c10 => ?_) (fun c10 => ?_)
          · rw [if_pos c10] at e
            refine gs_aload_n rfl rfl ?_
            refine gs_get rfl (gd_r (b := 120) rfl rfl rfl) ?_
            refine gs_iload rfl rfl ?_
            by_cases hb11 : pa_in z6 96 = true
            case neg => rw [if_neg hb11] at e; cases e
            rw [if_pos hb11] at e
            refine gs_iald rfl (gd_ia (j := z6.toNatClampNeg) rfl hb11 rfl) ?_
            cases e
          · rw [if_neg c10] at e
            refine gs_aload_n rfl rfl ?_
            refine gs_get rfl (gd_r (b := 119) rfl rfl rfl) ?_
            refine gs_iload rfl rfl ?_
            by_cases hb12 : pa_in z6 96 = true
            case neg => rw [if_neg hb12] at e; cases e
            rw [if_pos hb12] at e
            refine gs_iald rfl (gd_ia (j := z6.toNatClampNeg) rfl hb12 rfl) ?_
            refine gs_iload rfl rfl ?_
            refine gs_ne2 rfl (fun c13 => ?_) (fun c13 => ?_)
            · rw [if_neg c13] at e
              obtain ⟨x14, hx14, e⟩ := pn_some e
              refine gs_iinc1 (x1 := x14) (c := 1) (lv' := [(6, .int x14), (0, .ref 110), (3, .int z3), (4, .int z4), (5, .int z5)]) rfl rfl (by decide) hx14 rfl ?_
              refine gs_goto rfl ?_
              refine gs_drop [1, 2, 3, 4, 0] rfl ?_
              exact (ih z3 z4 z5 x14 f _ e).2 () rfl _ _ K
            · rw [if_pos c13] at e
              refine gs_aload_n rfl rfl ?_
              refine gs_get rfl (gd_r (b := 120) rfl rfl rfl) ?_
              refine gs_iload rfl rfl ?_
              by_cases hb15 : pa_in z6 96 = true
              case neg => rw [if_neg hb15] at e; cases e
              rw [if_pos hb15] at e
              refine gs_iald rfl (gd_ia (j := z6.toNatClampNeg) rfl hb15 rfl) ?_
              cases e
set_option maxRecDepth 100000 in
set_option maxHeartbeats 4000000 in
theorem th_X9_answerOf (L : Nat) (p1 : Int32) (p2 : Int32) (p3 : Int32) (p4 : Int32) (f : pd_M) (q : Int32) (e : fn_X9_answerOf p1 p2 p3 p4 f = some q) : pr_C L 2 145 [.ref 110, .int p1, .int p2, .int p3, .int p4] (hH f) (some (.int q)) (hH f) := by
  refine pr_C.of (G := mt_X9_answerOf) rfl rfl ?_
  show pr_G L 1 mt_X9_answerOf (0, [(0, .ref 110), (1, .int p1), (2, .int p2), (3, .int p3), (4, .int p4)], [], hH f) _ _
  unfold fn_X9_answerOf at e
  refine gs_iconst (x := 4) rfl (by decide) ?_
  refine gs_iload_n rfl rfl ?_
  refine gs_imul rfl ?_
  refine gs_iload_n rfl rfl ?_
  refine gs_iadd rfl ?_
  obtain ⟨x1, hx1, e⟩ := pn_some e
  refine gs_topi hx1 ?_
  refine gs_istore (lv' := [(5, .int x1), (0, .ref 110), (1, .int p1), (2, .int p2), (3, .int p3), (4, .int p4)]) rfl rfl ?_
  refine gs_bipush (x := 6) rfl (by decide) ?_
  refine gs_iload rfl rfl ?_
  refine gs_imul rfl ?_
  obtain ⟨x2, hx2, e⟩ := pn_some e
  refine gs_topi hx2 ?_
  refine gs_istore (lv' := [(6, .int x2), (5, .int x1), (0, .ref 110), (1, .int p1), (2, .int p2), (3, .int p3), (4, .int p4)]) rfl rfl ?_
  refine gs_drop [2, 5, 6, 1, 0] rfl ?_
  rcases os0_some e with ⟨q, el16, e⟩ | ⟨el16, e⟩
  · skip
    obtain rfl := inj1 e
    exact (tl_X9_answerOf_14 L 5000 p3 p4 x1 x2 f _ el16).1 _ rfl
  · refine (tl_X9_answerOf_14 L 5000 p3 p4 x1 x2 f _ el16).2 () rfl _ _ ?_
    refine gs_sipush (x := 2401) rfl (by decide) ?_
    obtain rfl := inj1 e
    exact gs_iret rfl rfl rfl rfl rfl
def lp_X9_fieldIn_4 : Nat → Int32 → Int32 → Int32 → pd_M → Option (Int32)
  | 0, _, _, _, _ => none
  | n + 1, z1, z2, z3, f =>
    if z1 ≤ z3 then
    some (z2)
    else
    pn ((z2 / 7)) fun x2 =>
    pn (z3 + 1) fun x3 =>
    lp_X9_fieldIn_4 n z1 x2 x3 f
def fn_X9_fieldIn (p1 : Int32) (p2 : Int32) (f : pd_M) : Option (Int32) :=
  ob1 (lp_X9_fieldIn_4 5000 p2 p1 0 f) fun y4 =>
  some (y4 - y4 / 7 * 7)
set_option maxRecDepth 100000 in
set_option maxHeartbeats 4000000 in
theorem tl_X9_fieldIn_4 (L : Nat) : ∀ (n : Nat) (z1 : Int32) (z2 : Int32) (z3 : Int32) (f : pd_M) (w0 : Int32) (r : Option Value) (h2 : ph_T), lp_X9_fieldIn_4 n z1 z2 z3 f = some (w0) → pr_G L 0 mt_X9_fieldIn (20, [(2, .int w0)], [], hH f) r h2 → pr_G L 0 mt_X9_fieldIn (4, [(1, .int z1), (2, .int z2), (3, .int z3)], [], hH f) r h2 := by
  intro n
  induction n with
  | zero => intro z1 z2 z3 f w0 r h2 e; cases e
  | succ n ih =>
    intro z1 z2 z3 f w0 r h2 e K
    unfold lp_X9_fieldIn_4 at e
    refine gs_iload_n rfl rfl ?_
    refine gs_iload_n rfl rfl ?_
    refine gs_ge2 rfl (fun c1 => ?_) (fun c1 => ?_)
    · rw [if_pos c1] at e
      obtain rfl := inj1 e
      refine gs_drop [1] rfl ?_
      exact K
    · rw [if_neg c1] at e
      refine gs_iload_n rfl rfl ?_
      refine gs_bipush (x := 7) rfl (by decide) ?_
      refine gs_idiv rfl (by decide) ?_
      obtain ⟨x2, hx2, e⟩ := pn_some e
      refine gs_topi hx2 ?_
      refine gs_istore_n (lv' := [(2, .int x2), (1, .int z1), (3, .int z3)]) rfl rfl ?_
      obtain ⟨x3, hx3, e⟩ := pn_some e
      refine gs_iinc1 (x1 := x3) (c := 1) (lv' := [(3, .int x3), (2, .int x2), (1, .int z1)]) rfl rfl (by decide) hx3 rfl ?_
      refine gs_goto rfl ?_
      refine gs_drop [2, 1, 0] rfl ?_
      exact ih z1 x2 x3 f w0 _ _ e K
set_option maxRecDepth 100000 in
set_option maxHeartbeats 4000000 in
theorem th_X9_fieldIn (L : Nat) (p1 : Int32) (p2 : Int32) (f : pd_M) (q : Int32) (e : fn_X9_fieldIn p1 p2 f = some q) : pr_C L 1 146 [.int p1, .int p2] (hH f) (some (.int q)) (hH f) := by
  refine pr_C.of (G := mt_X9_fieldIn) rfl rfl ?_
  show pr_G L 0 mt_X9_fieldIn (0, [(0, .int p1), (1, .int p2)], [], hH f) _ _
  unfold fn_X9_fieldIn at e
  refine gs_iload_n rfl rfl ?_
  refine gs_istore_n (lv' := [(2, .int p1), (0, .int p1), (1, .int p2)]) rfl rfl ?_
  refine gs_iconst (x := 0) rfl (by decide) ?_
  refine gs_istore_n (lv' := [(3, .int 0), (2, .int p1), (0, .int p1), (1, .int p2)]) rfl rfl ?_
  refine gs_drop [3, 1, 0] rfl ?_
  obtain ⟨y4, el5, e⟩ := ob1_some e
  refine tl_X9_fieldIn_4 L 5000 p2 p1 0 f y4 _ _ el5 ?_
  refine gs_iload_n rfl rfl ?_
  refine gs_bipush (x := 7) rfl (by decide) ?_
  refine gs_irem rfl (by decide) ?_
  obtain rfl := inj1 e
  exact gs_iret rfl rfl rfl rfl rfl
def fn_X9_answer (p1 : Int32) (p2 : Int32) (p3 : Int32) (p4 : Int32) (p5 : Int32) (f : pd_M) : Option (Int32 × pd_M) :=
  pn ((pi_up f 110 0 0)) fun f1 =>
  ob1 (fn_X9_isEdition p1 p2 f1) fun r2 =>
  if r2 = 0 then
  some ((-1000001), f1)
  else
  if (fn_X9_in (p3.toInt64) 0 7) = 0 then
  some ((-1000001), f1)
  else
  if (fn_X9_in (p4.toInt64) 0 2) = 0 then
  some ((-1000001), f1)
  else
  if (fn_X9_in (p5.toInt64) 0 4) = 0 then
  some ((-1000001), f1)
  else
  ob1 (fn_X9_answerOf p1 p2 p3 p4 f1) fun r8 =>
  if p5 = 4 then
  if r8 = 2401 then
  some (1, f1)
  else
  some (0, f1)
  else
  if r8 = 2401 then
  some ((-1000000), f1)
  else
  ob1 (fn_X9_fieldIn r8 p5 f1) fun r12 =>
  some (r12, f1)
set_option maxRecDepth 100000 in
set_option maxHeartbeats 4000000 in
theorem th_X9_answer (L : Nat) (p1 : Int32) (p2 : Int32) (p3 : Int32) (p4 : Int32) (p5 : Int32) (f : pd_M) (q : Int32) (g : pd_M) (e : fn_X9_answer p1 p2 p3 p4 p5 f = some (q, g)) : pr_C L 4 147 [.ref 110, .int p1, .int p2, .int p3, .int p4, .int p5] (hH f) (some (.int q)) (hH g) := by
  refine pr_C.of (G := mt_X9_answer) rfl rfl ?_
  show pr_G L 3 mt_X9_answer (0, [(0, .ref 110), (1, .int p1), (2, .int p2), (3, .int p3), (4, .int p4), (5, .int p5)], [], hH f) _ _
  unfold fn_X9_answer at e
  refine gs_aload_n rfl rfl ?_
  refine gs_iconst (x := 0) rfl (by decide) ?_
  refine gs_put rfl (gd_pi rfl rfl) ?_
  obtain ⟨f1, hf1, e⟩ := pn_some e
  refine gs_heap hf1 ?_
  refine gs_aload_n rfl rfl ?_
  refine gs_iload_n rfl rfl ?_
  refine gs_iload_n rfl rfl ?_
  obtain ⟨r2, ec3, e⟩ := ob1_some e
  refine gs_callvI (st := []) rfl (pr_C_le (by decide) (th_X9_isEdition L p1 p2 f1 r2 ec3)) rfl rfl rfl (by decide) rfl (Or.inr (by decide)) ?_
  refine gs_eq0 rfl (fun c4 => ?_) (fun c4 => ?_)
  · rw [if_pos c4] at e
    refine gs_ldc (x := (-1000001)) rfl (by decide) ?_
    obtain ⟨rfl, rfl⟩ := inj2 e
    exact gs_iret rfl rfl rfl rfl rfl
  · rw [if_neg c4] at e
    refine gs_iload_n rfl rfl ?_
    refine gs_i2l rfl ?_
    refine gs_lconst (w := 0) rfl (by decide) ?_
    refine gs_ldc2 (w := 7) rfl (by decide) ?_
    refine gs_callsI (st := []) rfl (pr_C_le (by decide) (th_X9_in L (p3.toInt64) 0 7 f1 _ rfl)) rfl rfl rfl (by decide) ?_
    refine gs_eq0 rfl (fun c5 => ?_) (fun c5 => ?_)
    · rw [if_pos c5] at e
      refine gs_ldc (x := (-1000001)) rfl (by decide) ?_
      obtain ⟨rfl, rfl⟩ := inj2 e
      exact gs_iret rfl rfl rfl rfl rfl
    · rw [if_neg c5] at e
      refine gs_iload rfl rfl ?_
      refine gs_i2l rfl ?_
      refine gs_lconst (w := 0) rfl (by decide) ?_
      refine gs_ldc2 (w := 2) rfl (by decide) ?_
      refine gs_callsI (st := []) rfl (pr_C_le (by decide) (th_X9_in L (p4.toInt64) 0 2 f1 _ rfl)) rfl rfl rfl (by decide) ?_
      refine gs_eq0 rfl (fun c6 => ?_) (fun c6 => ?_)
      · rw [if_pos c6] at e
        refine gs_ldc (x := (-1000001)) rfl (by decide) ?_
        obtain ⟨rfl, rfl⟩ := inj2 e
        exact gs_iret rfl rfl rfl rfl rfl
      · rw [if_neg c6] at e
        refine gs_iload rfl rfl ?_
        refine gs_i2l rfl ?_
        refine gs_lconst (w := 0) rfl (by decide) ?_
        refine gs_ldc2 (w := 4) rfl (by decide) ?_
        refine gs_callsI (st := []) rfl (pr_C_le (by decide) (th_X9_in L (p5.toInt64) 0 4 f1 _ rfl)) rfl rfl rfl (by decide) ?_
        refine gs_ne0 rfl (fun c7 => ?_) (fun c7 => ?_)
        · rw [if_neg c7] at e
          refine gs_aload_n rfl rfl ?_
          refine gs_iload_n rfl rfl ?_
          refine gs_iload_n rfl rfl ?_
          refine gs_iload_n rfl rfl ?_
          refine gs_iload rfl rfl ?_
          obtain ⟨r8, ec9, e⟩ := ob1_some e
          refine gs_callvI (st := []) rfl (pr_C_le (by decide) (th_X9_answerOf L p1 p2 p3 p4 f1 r8 ec9)) rfl rfl rfl (by decide) rfl (Or.inr (by decide)) ?_
          refine gs_istore (lv' := [(6, .int r8), (0, .ref 110), (1, .int p1), (2, .int p2), (3, .int p3), (4, .int p4), (5, .int p5)]) rfl rfl ?_
          refine gs_iload rfl rfl ?_
          refine gs_iconst (x := 4) rfl (by decide) ?_
          refine gs_ne2 rfl (fun c10 => ?_) (fun c10 => ?_)
          · rw [if_neg c10] at e
            refine gs_iload rfl rfl ?_
            refine gs_sipush (x := 2401) rfl (by decide) ?_
            refine gs_ne2 rfl (fun c11 => ?_) (fun c11 => ?_)
            · rw [if_neg c11] at e
              refine gs_iload rfl rfl ?_
              refine gs_iload rfl rfl ?_
              obtain ⟨r12, ec13, e⟩ := ob1_some e
              refine gs_callsI (st := []) rfl (pr_C_le (by decide) (th_X9_fieldIn L r8 p5 f1 r12 ec13)) rfl rfl rfl (by decide) ?_
              obtain ⟨rfl, rfl⟩ := inj2 e
              exact gs_iret rfl rfl rfl rfl rfl
            · rw [if_pos c11] at e
              refine gs_ldc (x := (-1000000)) rfl (by decide) ?_
              refine gs_goto rfl ?_
              obtain ⟨rfl, rfl⟩ := inj2 e
              exact gs_iret rfl rfl rfl rfl rfl
          · rw [if_pos c10] at e
            refine gs_iload rfl rfl ?_
            refine gs_sipush (x := 2401) rfl (by decide) ?_
            refine gs_ne2 rfl (fun c14 => ?_) (fun c14 => ?_)
            · rw [if_neg c14] at e
              refine gs_iconst (x := 0) rfl (by decide) ?_
              refine gs_goto rfl ?_
              obtain ⟨rfl, rfl⟩ := inj2 e
              exact gs_iret rfl rfl rfl rfl rfl
            · rw [if_pos c14] at e
              refine gs_iconst (x := 1) rfl (by decide) ?_
              refine gs_goto rfl ?_
              obtain ⟨rfl, rfl⟩ := inj2 e
              exact gs_iret rfl rfl rfl rfl rfl
        · rw [if_pos c7] at e
          refine gs_ldc (x := (-1000001)) rfl (by decide) ?_
          obtain ⟨rfl, rfl⟩ := inj2 e
          exact gs_iret rfl rfl rfl rfl rfl
def fn_X9_saying (p1 : Int32) (p2 : Int32) (f : pd_M) : Option (Int32 × pd_M) :=
  pn ((pi_up f 110 0 0)) fun f1 =>
  ob1 (fn_X9_isSaying p1 f1) fun r2 =>
  if r2 = 0 then
  some ((-1000001), f1)
  else
  if (fn_X9_in (p2.toInt64) 0 7) = 0 then
  some ((-1000001), f1)
  else
  if p2 = 0 then
  if pa_in p1 20 = true then
  some ((f1 121 p1.toNatClampNeg), f1)
  else none
  else
  if p2 = 1 then
  if pa_in p1 20 = true then
  some ((f1 122 p1.toNatClampNeg), f1)
  else none
  else
  if p2 = 2 then
  if pa_in p1 20 = true then
  some ((f1 123 p1.toNatClampNeg), f1)
  else none
  else
  if p2 = 3 then
  if pa_in p1 20 = true then
  some ((f1 124 p1.toNatClampNeg), f1)
  else none
  else
  if p2 = 4 then
  if pa_in p1 20 = true then
  some ((f1 125 p1.toNatClampNeg), f1)
  else none
  else
  if p2 = 5 then
  if pa_in p1 20 = true then
  some ((f1 126 p1.toNatClampNeg), f1)
  else none
  else
  if p2 = 6 then
  if pa_in p1 20 = true then
  if (f1 127 p1.toNatClampNeg) = 0 then
  some (0, f1)
  else
  some (1, f1)
  else none
  else
  if pa_in p1 20 = true then
  some ((f1 128 p1.toNatClampNeg), f1)
  else none
set_option maxRecDepth 100000 in
set_option maxHeartbeats 4000000 in
theorem th_X9_saying (L : Nat) (p1 : Int32) (p2 : Int32) (f : pd_M) (q : Int32) (g : pd_M) (e : fn_X9_saying p1 p2 f = some (q, g)) : pr_C L 3 148 [.ref 110, .int p1, .int p2] (hH f) (some (.int q)) (hH g) := by
  refine pr_C.of (G := mt_X9_saying) rfl rfl ?_
  show pr_G L 2 mt_X9_saying (0, [(0, .ref 110), (1, .int p1), (2, .int p2)], [], hH f) _ _
  unfold fn_X9_saying at e
  refine gs_aload_n rfl rfl ?_
  refine gs_iconst (x := 0) rfl (by decide) ?_
  refine gs_put rfl (gd_pi rfl rfl) ?_
  obtain ⟨f1, hf1, e⟩ := pn_some e
  refine gs_heap hf1 ?_
  refine gs_aload_n rfl rfl ?_
  refine gs_iload_n rfl rfl ?_
  obtain ⟨r2, ec3, e⟩ := ob1_some e
  refine gs_callvI (st := []) rfl (pr_C_le (by decide) (th_X9_isSaying L p1 f1 r2 ec3)) rfl rfl rfl (by decide) rfl (Or.inr (by decide)) ?_
  refine gs_eq0 rfl (fun c4 => ?_) (fun c4 => ?_)
  · rw [if_pos c4] at e
    refine gs_ldc (x := (-1000001)) rfl (by decide) ?_
    obtain ⟨rfl, rfl⟩ := inj2 e
    exact gs_iret rfl rfl rfl rfl rfl
  · rw [if_neg c4] at e
    refine gs_iload_n rfl rfl ?_
    refine gs_i2l rfl ?_
    refine gs_lconst (w := 0) rfl (by decide) ?_
    refine gs_ldc2 (w := 7) rfl (by decide) ?_
    refine gs_callsI (st := []) rfl (pr_C_le (by decide) (th_X9_in L (p2.toInt64) 0 7 f1 _ rfl)) rfl rfl rfl (by decide) ?_
    refine gs_ne0 rfl (fun c5 => ?_) (fun c5 => ?_)
    · rw [if_neg c5] at e
      refine gs_iload_n rfl rfl ?_
      by_cases c6 : p2 = 0
      · rw [if_pos c6] at e
        refine gs_switch (t := 72) rfl (by rw [c6]; decide) ?_
        refine gs_aload_n rfl rfl ?_
        refine gs_get rfl (gd_r (b := 121) rfl rfl rfl) ?_
        refine gs_iload_n rfl rfl ?_
        by_cases hb7 : pa_in p1 20 = true
        case neg => rw [if_neg hb7] at e; cases e
        rw [if_pos hb7] at e
        refine gs_iald rfl (gd_ia (j := p1.toNatClampNeg) rfl hb7 rfl) ?_
        obtain ⟨rfl, rfl⟩ := inj2 e
        exact gs_iret rfl rfl rfl rfl rfl
      · rw [if_neg c6] at e
        by_cases c8 : p2 = 1
        · rw [if_pos c8] at e
          refine gs_switch (t := 79) rfl (by rw [c8]; decide) ?_
          refine gs_aload_n rfl rfl ?_
          refine gs_get rfl (gd_r (b := 122) rfl rfl rfl) ?_
          refine gs_iload_n rfl rfl ?_
          by_cases hb9 : pa_in p1 20 = true
          case neg => rw [if_neg hb9] at e; cases e
          rw [if_pos hb9] at e
          refine gs_iald rfl (gd_ia (j := p1.toNatClampNeg) rfl hb9 rfl) ?_
          obtain ⟨rfl, rfl⟩ := inj2 e
          exact gs_iret rfl rfl rfl rfl rfl
        · rw [if_neg c8] at e
          by_cases c10 : p2 = 2
          · rw [if_pos c10] at e
            refine gs_switch (t := 86) rfl (by rw [c10]; decide) ?_
            refine gs_aload_n rfl rfl ?_
            refine gs_get rfl (gd_r (b := 123) rfl rfl rfl) ?_
            refine gs_iload_n rfl rfl ?_
            by_cases hb11 : pa_in p1 20 = true
            case neg => rw [if_neg hb11] at e; cases e
            rw [if_pos hb11] at e
            refine gs_iald rfl (gd_ia (j := p1.toNatClampNeg) rfl hb11 rfl) ?_
            obtain ⟨rfl, rfl⟩ := inj2 e
            exact gs_iret rfl rfl rfl rfl rfl
          · rw [if_neg c10] at e
            by_cases c12 : p2 = 3
            · rw [if_pos c12] at e
              refine gs_switch (t := 93) rfl (by rw [c12]; decide) ?_
              refine gs_aload_n rfl rfl ?_
              refine gs_get rfl (gd_r (b := 124) rfl rfl rfl) ?_
              refine gs_iload_n rfl rfl ?_
              by_cases hb13 : pa_in p1 20 = true
              case neg => rw [if_neg hb13] at e; cases e
              rw [if_pos hb13] at e
              refine gs_iald rfl (gd_ia (j := p1.toNatClampNeg) rfl hb13 rfl) ?_
              obtain ⟨rfl, rfl⟩ := inj2 e
              exact gs_iret rfl rfl rfl rfl rfl
            · rw [if_neg c12] at e
              by_cases c14 : p2 = 4
              · rw [if_pos c14] at e
                refine gs_switch (t := 100) rfl (by rw [c14]; decide) ?_
                refine gs_aload_n rfl rfl ?_
                refine gs_get rfl (gd_r (b := 125) rfl rfl rfl) ?_
                refine gs_iload_n rfl rfl ?_
                by_cases hb15 : pa_in p1 20 = true
                case neg => rw [if_neg hb15] at e; cases e
                rw [if_pos hb15] at e
                refine gs_iald rfl (gd_ia (j := p1.toNatClampNeg) rfl hb15 rfl) ?_
                obtain ⟨rfl, rfl⟩ := inj2 e
                exact gs_iret rfl rfl rfl rfl rfl
              · rw [if_neg c14] at e
                by_cases c16 : p2 = 5
                · rw [if_pos c16] at e
                  refine gs_switch (t := 107) rfl (by rw [c16]; decide) ?_
                  refine gs_aload_n rfl rfl ?_
                  refine gs_get rfl (gd_r (b := 126) rfl rfl rfl) ?_
                  refine gs_iload_n rfl rfl ?_
                  by_cases hb17 : pa_in p1 20 = true
                  case neg => rw [if_neg hb17] at e; cases e
                  rw [if_pos hb17] at e
                  refine gs_iald rfl (gd_ia (j := p1.toNatClampNeg) rfl hb17 rfl) ?_
                  obtain ⟨rfl, rfl⟩ := inj2 e
                  exact gs_iret rfl rfl rfl rfl rfl
                · rw [if_neg c16] at e
                  by_cases c18 : p2 = 6
                  · rw [if_pos c18] at e
                    refine gs_switch (t := 114) rfl (by rw [c18]; decide) ?_
                    refine gs_aload_n rfl rfl ?_
                    refine gs_get rfl (gd_r (b := 127) rfl rfl rfl) ?_
                    refine gs_iload_n rfl rfl ?_
                    by_cases hb19 : pa_in p1 20 = true
                    case neg => rw [if_neg hb19] at e; cases e
                    rw [if_pos hb19] at e
                    refine gs_bald rfl (gd_za (j := p1.toNatClampNeg) rfl hb19 rfl) ?_
                    refine gs_eq0 rfl (fun c20 => ?_) (fun c20 => ?_)
                    · rw [if_pos c20] at e
                      refine gs_iconst (x := 0) rfl (by decide) ?_
                      obtain ⟨rfl, rfl⟩ := inj2 e
                      exact gs_iret rfl rfl rfl rfl rfl
                    · rw [if_neg c20] at e
                      refine gs_iconst (x := 1) rfl (by decide) ?_
                      refine gs_goto rfl ?_
                      obtain ⟨rfl, rfl⟩ := inj2 e
                      exact gs_iret rfl rfl rfl rfl rfl
                  · rw [if_neg c18] at e
                    refine gs_switch (t := 129) rfl (sw_out (lo := 0) (hi := 6) (by decide) (fun k hk => by
                      rcases (by omega : k = 0 ∨ k = 1 ∨ k = 2 ∨ k = 3 ∨ k = 4 ∨ k = 5 ∨ k = 6) with rfl | rfl | rfl | rfl | rfl | rfl | rfl
                      · exact fun z => c6 (z.trans (by decide))
                      · exact fun z => c8 (z.trans (by decide))
                      · exact fun z => c10 (z.trans (by decide))
                      · exact fun z => c12 (z.trans (by decide))
                      · exact fun z => c14 (z.trans (by decide))
                      · exact fun z => c16 (z.trans (by decide))
                      · exact fun z => c18 (z.trans (by decide))) (by decide)) ?_
                    refine gs_aload_n rfl rfl ?_
                    refine gs_get rfl (gd_r (b := 128) rfl rfl rfl) ?_
                    refine gs_iload_n rfl rfl ?_
                    by_cases hb21 : pa_in p1 20 = true
                    case neg => rw [if_neg hb21] at e; cases e
                    rw [if_pos hb21] at e
                    refine gs_iald rfl (gd_ia (j := p1.toNatClampNeg) rfl hb21 rfl) ?_
                    obtain ⟨rfl, rfl⟩ := inj2 e
                    exact gs_iret rfl rfl rfl rfl rfl
    · rw [if_pos c5] at e
      refine gs_ldc (x := (-1000001)) rfl (by decide) ?_
      obtain ⟨rfl, rfl⟩ := inj2 e
      exact gs_iret rfl rfl rfl rfl rfl
def fn_X9_isAbout (p1 : Int32) (p2 : Int32) (p3 : Int32) (f : pd_M) : Option (Int32) :=
  if pa_in p1 20 = true then
  if pa_in p1 20 = true then
  if (fn_X9_in (p2.toInt64) ((f 124 p1.toNatClampNeg).toInt64) ((f 125 p1.toNatClampNeg).toInt64)) = 0 then
  some 0
  else
  if pa_in p1 20 = true then
  if (f 126 p1.toNatClampNeg) = 3 then
  some 1
  else
  if pa_in p1 20 = true then
  if (f 126 p1.toNatClampNeg) = p3 then
  some 1
  else
  some 0
  else none
  else none
  else none
  else none
set_option maxRecDepth 100000 in
set_option maxHeartbeats 4000000 in
theorem th_X9_isAbout (L : Nat) (p1 : Int32) (p2 : Int32) (p3 : Int32) (f : pd_M) (q : Int32) (e : fn_X9_isAbout p1 p2 p3 f = some q) : pr_C L 2 149 [.ref 110, .int p1, .int p2, .int p3] (hH f) (some (.int q)) (hH f) := by
  refine pr_C.of (G := mt_X9_isAbout) rfl rfl ?_
  show pr_G L 1 mt_X9_isAbout (0, [(0, .ref 110), (1, .int p1), (2, .int p2), (3, .int p3)], [], hH f) _ _
  unfold fn_X9_isAbout at e
  refine gs_iload_n rfl rfl ?_
  refine gs_i2l rfl ?_
  refine gs_aload_n rfl rfl ?_
  refine gs_get rfl (gd_r (b := 124) rfl rfl rfl) ?_
  refine gs_iload_n rfl rfl ?_
  by_cases hb1 : pa_in p1 20 = true
  case neg => rw [if_neg hb1] at e; cases e
  rw [if_pos hb1] at e
  refine gs_iald rfl (gd_ia (j := p1.toNatClampNeg) rfl hb1 rfl) ?_
  refine gs_i2l rfl ?_
  refine gs_aload_n rfl rfl ?_
  refine gs_get rfl (gd_r (b := 125) rfl rfl rfl) ?_
  refine gs_iload_n rfl rfl ?_
  by_cases hb2 : pa_in p1 20 = true
  case neg => rw [if_neg hb2] at e; cases e
  rw [if_pos hb2] at e
  refine gs_iald rfl (gd_ia (j := p1.toNatClampNeg) rfl hb2 rfl) ?_
  refine gs_i2l rfl ?_
  refine gs_callsI (st := []) rfl (pr_C_le (by decide) (th_X9_in L (p2.toInt64) ((f 124 p1.toNatClampNeg).toInt64) ((f 125 p1.toNatClampNeg).toInt64) f _ rfl)) rfl rfl rfl (by decide) ?_
  refine gs_eq0 rfl (fun c3 => ?_) (fun c3 => ?_)
  · rw [if_pos c3] at e
    refine gs_iconst (x := 0) rfl (by decide) ?_
    obtain rfl := inj1 e
    exact gs_iret rfl rfl (by decide) rfl rfl
  · rw [if_neg c3] at e
    refine gs_aload_n rfl rfl ?_
    refine gs_get rfl (gd_r (b := 126) rfl rfl rfl) ?_
    refine gs_iload_n rfl rfl ?_
    by_cases hb4 : pa_in p1 20 = true
    case neg => rw [if_neg hb4] at e; cases e
    rw [if_pos hb4] at e
    refine gs_iald rfl (gd_ia (j := p1.toNatClampNeg) rfl hb4 rfl) ?_
    refine gs_iconst (x := 3) rfl (by decide) ?_
    refine gs_eq2 rfl (fun c5 => ?_) (fun c5 => ?_)
    · rw [if_pos c5] at e
      refine gs_iconst (x := 1) rfl (by decide) ?_
      refine gs_goto rfl ?_
      obtain rfl := inj1 e
      exact gs_iret rfl rfl (by decide) rfl rfl
    · rw [if_neg c5] at e
      refine gs_aload_n rfl rfl ?_
      refine gs_get rfl (gd_r (b := 126) rfl rfl rfl) ?_
      refine gs_iload_n rfl rfl ?_
      by_cases hb6 : pa_in p1 20 = true
      case neg => rw [if_neg hb6] at e; cases e
      rw [if_pos hb6] at e
      refine gs_iald rfl (gd_ia (j := p1.toNatClampNeg) rfl hb6 rfl) ?_
      refine gs_iload_n rfl rfl ?_
      refine gs_ne2 rfl (fun c7 => ?_) (fun c7 => ?_)
      · rw [if_neg c7] at e
        refine gs_iconst (x := 0) rfl (by decide) ?_
        obtain rfl := inj1 e
        exact gs_iret rfl rfl (by decide) rfl rfl
      · rw [if_pos c7] at e
        refine gs_iconst (x := 1) rfl (by decide) ?_
        refine gs_goto rfl ?_
        obtain rfl := inj1 e
        exact gs_iret rfl rfl (by decide) rfl rfl
def lp_X9_wrongIn_46 : Nat → Int32 → Int32 → Int32 → pd_M → Option ((Int32) ⊕ (Unit))
  | 0, _, _, _, _ => none
  | n + 1, z1, z2, z3, f =>
    if 4 ≤ z3 then
    some (.inr ())
    else
    if pa_in ((4 * z1) + z3) 80 = true then
    ob1 (fn_X9_fieldIn z2 z3 f) fun r10 =>
    if (((f 129 ((4 * z1) + z3).toNatClampNeg) >>> (r10 &&& 31)) &&& 1) = 0 then
    some (.inl z3)
    else
    pn (z3 + 1) fun x13 =>
    lp_X9_wrongIn_46 n z1 z2 x13 f
    else none
def fn_X9_wrongIn (p1 : Int32) (p2 : Int32) (f : pd_M) : Option (Int32) :=
  if pa_in p1 20 = true then
  if (f 127 p1.toNatClampNeg) = 0 then
  if p2 = 2401 then
  if pa_in p1 20 = true then
  ob1 (if p2 = 2401 then
  some (1)
  else
  some (0)) fun (v17 : Int32) =>
  if (f 127 p1.toNatClampNeg) = v17 then
  some (-1000000)
  else
  some 4
  else none
  else
  os0 (lp_X9_wrongIn_46 5000 p1 p2 0 f) (fun q => some q) (
  some (-1000000))
  else
  if pa_in p1 20 = true then
  ob1 (if p2 = 2401 then
  some (1)
  else
  some (0)) fun (v5 : Int32) =>
  if (f 127 p1.toNatClampNeg) = v5 then
  some (-1000000)
  else
  some 4
  else none
  else none
set_option maxRecDepth 100000 in
set_option maxHeartbeats 4000000 in
theorem tl_X9_wrongIn_46 (L : Nat) : ∀ (n : Nat) (z1 : Int32) (z2 : Int32) (z3 : Int32) (f : pd_M) (o : (Int32) ⊕ (Unit)), lp_X9_wrongIn_46 n z1 z2 z3 f = some o → (∀ q, o = .inl q → pr_G L 1 mt_X9_wrongIn (46, [(0, .ref 110), (1, .int z1), (2, .int z2), (3, .int z3)], [], hH f) (some (.int q)) (hH f)) ∧ (∀ (_ : Unit), o = .inr () → ∀ (r : Option Value) (h2 : ph_T), pr_G L 1 mt_X9_wrongIn (80, [], [], hH f) r h2 → pr_G L 1 mt_X9_wrongIn (46, [(0, .ref 110), (1, .int z1), (2, .int z2), (3, .int z3)], [], hH f) r h2) := by
  intro n
  induction n with
  | zero => intro z1 z2 z3 f o e; cases e
  | succ n ih =>
    intro z1 z2 z3 f o e
    refine ⟨fun q hq => ?_, fun _ hq r h2 K => ?_⟩
    · subst hq
      unfold lp_X9_wrongIn_46 at e
      refine gs_iload_n rfl rfl ?_
      refine gs_iconst (x := 4) rfl (by decide) ?_
      refine gs_ge2 rfl (fun c8 => ?_) (fun c8 => ?_)
      · rw [if_pos c8] at e
        cases e
      · rw [if_neg c8] at e
        refine gs_aload_n rfl rfl ?_
        refine gs_get rfl (gd_r (b := 129) rfl rfl rfl) ?_
        refine gs_iconst (x := 4) rfl (by decide) ?_
        refine gs_iload_n rfl rfl ?_
        refine gs_imul rfl ?_
        refine gs_iload_n rfl rfl ?_
        refine gs_iadd rfl ?_
        by_cases hb9 : pa_in ((4 * z1) + z3) 80 = true
        case neg => rw [if_neg hb9] at e; cases e
        rw [if_pos hb9] at e
        refine gs_iald rfl (gd_ia (j := ((4 * z1) + z3).toNatClampNeg) rfl hb9 rfl) ?_
        refine gs_iload_n rfl rfl ?_
        refine gs_iload_n rfl rfl ?_
        obtain ⟨r10, ec11, e⟩ := ob1_some e
        refine gs_callsI (st := [.int (f 129 ((4 * z1) + z3).toNatClampNeg)]) rfl (pr_C_le (by decide) (th_X9_fieldIn L z2 z3 f r10 ec11)) rfl rfl rfl (by decide) ?_
        refine gs_ishr rfl ?_
        refine gs_iconst (x := 1) rfl (by decide) ?_
        refine gs_iand rfl ?_
        refine gs_ne0 rfl (fun c12 => ?_) (fun c12 => ?_)
        · rw [if_neg c12] at e
          obtain ⟨x13, hx13, e⟩ := pn_some e
          refine gs_iinc1 (x1 := x13) (c := 1) (lv' := [(3, .int x13), (0, .ref 110), (1, .int z1), (2, .int z2)]) rfl rfl (by decide) hx13 rfl ?_
          refine gs_goto rfl ?_
          refine gs_drop [1, 2, 3, 0] rfl ?_
          exact (ih z1 z2 x13 f _ e).1 _ rfl
        · rw [if_pos c12] at e
          refine gs_iload_n rfl rfl ?_
          obtain rfl := injl e
          exact gs_iret rfl rfl rfl rfl rfl
    · subst hq
      unfold lp_X9_wrongIn_46 at e
      refine gs_iload_n rfl rfl ?_
      refine gs_iconst (x := 4) rfl (by decide) ?_
      refine gs_ge2 rfl (fun c8 => ?_) (fun c8 => ?_)
      · rw [if_pos c8] at e
        refine gs_drop [] rfl ?_
        exact K
      · rw [if_neg c8] at e
        refine gs_aload_n rfl rfl ?_
        refine gs_get rfl (gd_r (b := 129) rfl rfl rfl) ?_
        refine gs_iconst (x := 4) rfl (by decide) ?_
        refine gs_iload_n rfl rfl ?_
        refine gs_imul rfl ?_
        refine gs_iload_n rfl rfl ?_
        refine gs_iadd rfl ?_
        by_cases hb9 : pa_in ((4 * z1) + z3) 80 = true
        case neg => rw [if_neg hb9] at e; cases e
        rw [if_pos hb9] at e
        refine gs_iald rfl (gd_ia (j := ((4 * z1) + z3).toNatClampNeg) rfl hb9 rfl) ?_
        refine gs_iload_n rfl rfl ?_
        refine gs_iload_n rfl rfl ?_
        obtain ⟨r10, ec11, e⟩ := ob1_some e
        refine gs_callsI (st := [.int (f 129 ((4 * z1) + z3).toNatClampNeg)]) rfl (pr_C_le (by decide) (th_X9_fieldIn L z2 z3 f r10 ec11)) rfl rfl rfl (by decide) ?_
        refine gs_ishr rfl ?_
        refine gs_iconst (x := 1) rfl (by decide) ?_
        refine gs_iand rfl ?_
        refine gs_ne0 rfl (fun c12 => ?_) (fun c12 => ?_)
        · rw [if_neg c12] at e
          obtain ⟨x13, hx13, e⟩ := pn_some e
          refine gs_iinc1 (x1 := x13) (c := 1) (lv' := [(3, .int x13), (0, .ref 110), (1, .int z1), (2, .int z2)]) rfl rfl (by decide) hx13 rfl ?_
          refine gs_goto rfl ?_
          refine gs_drop [1, 2, 3, 0] rfl ?_
          exact (ih z1 z2 x13 f _ e).2 () rfl _ _ K
        · rw [if_pos c12] at e
          refine gs_iload_n rfl rfl ?_
          cases e
set_option maxRecDepth 100000 in
set_option maxHeartbeats 4000000 in
theorem th_X9_wrongIn (L : Nat) (p1 : Int32) (p2 : Int32) (f : pd_M) (q : Int32) (e : fn_X9_wrongIn p1 p2 f = some q) : pr_C L 2 150 [.ref 110, .int p1, .int p2] (hH f) (some (.int q)) (hH f) := by
  refine pr_C.of (G := mt_X9_wrongIn) rfl rfl ?_
  show pr_G L 1 mt_X9_wrongIn (0, [(0, .ref 110), (1, .int p1), (2, .int p2)], [], hH f) _ _
  unfold fn_X9_wrongIn at e
  refine gs_aload_n rfl rfl ?_
  refine gs_get rfl (gd_r (b := 127) rfl rfl rfl) ?_
  refine gs_iload_n rfl rfl ?_
  by_cases hb1 : pa_in p1 20 = true
  case neg => rw [if_neg hb1] at e; cases e
  rw [if_pos hb1] at e
  refine gs_bald rfl (gd_za (j := p1.toNatClampNeg) rfl hb1 rfl) ?_
  refine gs_ne0 rfl (fun c2 => ?_) (fun c2 => ?_)
  · rw [if_neg c2] at e
    refine gs_aload_n rfl rfl ?_
    refine gs_get rfl (gd_r (b := 127) rfl rfl rfl) ?_
    refine gs_iload_n rfl rfl ?_
    by_cases hb3 : pa_in p1 20 = true
    case neg => rw [if_neg hb3] at e; cases e
    rw [if_pos hb3] at e
    refine gs_bald rfl (gd_za (j := p1.toNatClampNeg) rfl hb3 rfl) ?_
    refine gs_iload_n rfl rfl ?_
    refine gs_sipush (x := 2401) rfl (by decide) ?_
    obtain ⟨v5, ev34, e⟩ := ob1_some e
    have KJ34 : pr_G L 1 mt_X9_wrongIn (34, [], [.int v5, .int (f 127 p1.toNatClampNeg)], hH f) (some (.int q)) (hH f) := by
      refine gs_ne2 rfl (fun c6 => ?_) (fun c6 => ?_)
      · rw [if_neg c6] at e
        refine gs_iconst (x := 4) rfl (by decide) ?_
        obtain rfl := inj1 e
        exact gs_iret rfl rfl rfl rfl rfl
      · rw [if_pos c6] at e
        refine gs_ldc (x := (-1000000)) rfl (by decide) ?_
        refine gs_goto rfl ?_
        obtain rfl := inj1 e
        exact gs_iret rfl rfl rfl rfl rfl
    have e := ev34
    clear ev34
    refine gs_ne2 rfl (fun c4 => ?_) (fun c4 => ?_)
    · rw [if_neg c4] at e
      refine gs_iconst (x := 0) rfl (by decide) ?_
      obtain rfl := inj1 e
      refine gs_drop [] rfl ?_
      exact KJ34
    · rw [if_pos c4] at e
      refine gs_iconst (x := 1) rfl (by decide) ?_
      refine gs_goto rfl ?_
      obtain rfl := inj1 e
      refine gs_drop [] rfl ?_
      exact KJ34
  · rw [if_pos c2] at e
    refine gs_iload_n rfl rfl ?_
    refine gs_sipush (x := 2401) rfl (by decide) ?_
    refine gs_ne2 rfl (fun c7 => ?_) (fun c7 => ?_)
    · rw [if_neg c7] at e
      refine gs_iconst (x := 0) rfl (by decide) ?_
      refine gs_istore_n (lv' := [(3, .int 0), (0, .ref 110), (1, .int p1), (2, .int p2)]) rfl rfl ?_
      refine gs_drop [1, 2, 3, 0] rfl ?_
      rcases os0_some e with ⟨q, el14, e⟩ | ⟨el14, e⟩
      · skip
        obtain rfl := inj1 e
        exact (tl_X9_wrongIn_46 L 5000 p1 p2 0 f _ el14).1 _ rfl
      · refine (tl_X9_wrongIn_46 L 5000 p1 p2 0 f _ el14).2 () rfl _ _ ?_
        refine gs_ldc (x := (-1000000)) rfl (by decide) ?_
        obtain rfl := inj1 e
        exact gs_iret rfl rfl rfl rfl rfl
    · rw [if_pos c7] at e
      refine gs_aload_n rfl rfl ?_
      refine gs_get rfl (gd_r (b := 127) rfl rfl rfl) ?_
      refine gs_iload_n rfl rfl ?_
      by_cases hb15 : pa_in p1 20 = true
      case neg => rw [if_neg hb15] at e; cases e
      rw [if_pos hb15] at e
      refine gs_bald rfl (gd_za (j := p1.toNatClampNeg) rfl hb15 rfl) ?_
      refine gs_iload_n rfl rfl ?_
      refine gs_sipush (x := 2401) rfl (by decide) ?_
      obtain ⟨v17, ev34, e⟩ := ob1_some e
      have KJ34 : pr_G L 1 mt_X9_wrongIn (34, [], [.int v17, .int (f 127 p1.toNatClampNeg)], hH f) (some (.int q)) (hH f) := by
        refine gs_ne2 rfl (fun c18 => ?_) (fun c18 => ?_)
        · rw [if_neg c18] at e
          refine gs_iconst (x := 4) rfl (by decide) ?_
          obtain rfl := inj1 e
          exact gs_iret rfl rfl rfl rfl rfl
        · rw [if_pos c18] at e
          refine gs_ldc (x := (-1000000)) rfl (by decide) ?_
          refine gs_goto rfl ?_
          obtain rfl := inj1 e
          exact gs_iret rfl rfl rfl rfl rfl
      have e := ev34
      clear ev34
      refine gs_ne2 rfl (fun c16 => ?_) (fun c16 => ?_)
      · rw [if_neg c16] at e
        refine gs_iconst (x := 0) rfl (by decide) ?_
        obtain rfl := inj1 e
        refine gs_drop [] rfl ?_
        exact KJ34
      · rw [if_pos c16] at e
        refine gs_iconst (x := 1) rfl (by decide) ?_
        refine gs_goto rfl ?_
        obtain rfl := inj1 e
        refine gs_drop [] rfl ?_
        exact KJ34
