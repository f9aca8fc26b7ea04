def lp_X8_nthGiven_10 : Nat → Int32 → Int32 → Int32 → Int32 → Int32 → pd_M → Option ((Int32) ⊕ (Int32))
  | 0, _, _, _, _, _, _ => none
  | n + 1, z0, z2, z3, z4, z5, f =>
    if 4 ≤ z5 then
    some (.inr (z2))
    else
    pn ((fn_X8_fieldOf z0 z5)) fun x2 =>
    pn ((fn_J6_bitCount_0f7a4 x2)) fun x3 =>
    if x3 = 0 then
    some (.inl (-1000000))
    else
    if x3 = 0 then none else
    ob1 (fn_X8_nthBit x2 (z4 - z4 / x3 * x3) f) fun r6 =>
    pn ((z2 + (z3 * r6))) fun x8 =>
    if x3 = 0 then none else
    pn ((z4 / x3)) fun x10 =>
    pn ((z3 * 7)) fun x11 =>
    pn (z5 + 1) fun x12 =>
    lp_X8_nthGiven_10 n z0 x8 x11 x10 x12 f
def fn_X8_nthGiven (p1 : Int32) (p2 : Int32) (f : pd_M) : Option (Int32) :=
  os1 (lp_X8_nthGiven_10 5000 p1 0 1 p2 0 f) (fun q => some q) fun y13 =>
  some y13
set_option maxRecDepth 100000 in
set_option maxHeartbeats 4000000 in
theorem tl_X8_nthGiven_10 (L : Nat) : ∀ (n : Nat) (z0 : Int32) (z2 : Int32) (z3 : Int32) (z4 : Int32) (z5 : Int32) (f : pd_M) (o : (Int32) ⊕ (Int32)), lp_X8_nthGiven_10 n z0 z2 z3 z4 z5 f = some o → (∀ q, o = .inl q → pr_G L 1 mt_X8_nthGiven (10, [(0, .int z0), (2, .int z2), (3, .int z3), (4, .int z4), (5, .int z5)], [], hH f) (some (.int q)) (hH f)) ∧ (∀ (w0 : Int32), o = .inr (w0) → ∀ (r : Option Value) (h2 : ph_T), pr_G L 1 mt_X8_nthGiven (72, [(2, .int w0)], [], hH f) r h2 → pr_G L 1 mt_X8_nthGiven (10, [(0, .int z0), (2, .int z2), (3, .int z3), (4, .int z4), (5, .int z5)], [], hH f) r h2) := by
  intro n
  induction n with
  | zero => intro z0 z2 z3 z4 z5 f o e; cases e
  | succ n ih =>
    intro z0 z2 z3 z4 z5 f o e
    refine ⟨fun q hq => ?_, fun w0 hq r h2 K => ?_⟩
    · subst hq
      unfold lp_X8_nthGiven_10 at e
      refine gs_iload rfl rfl ?_
      refine gs_iconst (x := 4) rfl (by decide) ?_
      refine gs_ge2 rfl (fun c1 => ?_) (fun c1 => ?_)
      · rw [if_pos c1] at e
        cases e
      · rw [if_neg c1] at e
        refine gs_iload_n rfl rfl ?_
        refine gs_iload rfl rfl ?_
        refine gs_callsI (st := []) rfl (pr_C_le (by decide) (th_X8_fieldOf L z0 z5 f _ rfl)) rfl rfl rfl (by decide) ?_
        obtain ⟨x2, hx2, e⟩ := pn_some e
        refine gs_topi hx2 ?_
        refine gs_istore (lv' := [(6, .int x2), (0, .int z0), (2, .int z2), (3, .int z3), (4, .int z4), (5, .int z5)]) rfl rfl ?_
        refine gs_iload rfl rfl ?_
        refine gs_callsI (st := []) rfl (pr_C_le (by decide) (th_J6_bitCount_0f7a4 L x2 f _ rfl)) rfl rfl rfl (by decide) ?_
        obtain ⟨x3, hx3, e⟩ := pn_some e
        refine gs_topi hx3 ?_
        refine gs_istore (lv' := [(7, .int x3), (6, .int x2), (0, .int z0), (2, .int z2), (3, .int z3), (4, .int z4), (5, .int z5)]) rfl rfl ?_
        refine gs_iload rfl rfl ?_
        refine gs_ne0 rfl (fun c4 => ?_) (fun c4 => ?_)
        · rw [if_neg c4] at e
          refine gs_iload_n rfl rfl ?_
          refine gs_iload_n rfl rfl ?_
          refine gs_iload rfl rfl ?_
          refine gs_iload rfl rfl ?_
          refine gs_iload rfl rfl ?_
          by_cases hd5 : x3 = 0
          · rw [if_pos hd5] at e
            cases e
          rw [if_neg hd5] at e
          refine gs_irem rfl hd5 ?_
          obtain ⟨r6, ec7, e⟩ := ob1_some e
          refine gs_callsI (st := [.int z3, .int z2]) rfl (pr_C_le (by decide) (th_X8_nthBit L x2 (z4 - z4 / x3 * x3) f r6 ec7)) rfl rfl rfl (by decide) ?_
          refine gs_imul rfl ?_
          refine gs_iadd rfl ?_
          obtain ⟨x8, hx8, e⟩ := pn_some e
          refine gs_topi hx8 ?_
          refine gs_istore_n (lv' := [(2, .int x8), (7, .int x3), (6, .int x2), (0, .int z0), (3, .int z3), (4, .int z4), (5, .int z5)]) rfl rfl ?_
          refine gs_iload rfl rfl ?_
          refine gs_iload rfl rfl ?_
          by_cases hd9 : x3 = 0
          · rw [if_pos hd9] at e
            cases e
          rw [if_neg hd9] at e
          refine gs_idiv rfl hd9 ?_
          obtain ⟨x10, hx10, e⟩ := pn_some e
          refine gs_topi hx10 ?_
          refine gs_istore (lv' := [(4, .int x10), (2, .int x8), (7, .int x3), (6, .int x2), (0, .int z0), (3, .int z3), (5, .int z5)]) rfl rfl ?_
          refine gs_iload_n rfl rfl ?_
          refine gs_bipush (x := 7) rfl (by decide) ?_
          refine gs_imul rfl ?_
          obtain ⟨x11, hx11, e⟩ := pn_some e
          refine gs_topi hx11 ?_
          refine gs_istore_n (lv' := [(3, .int x11), (4, .int x10), (2, .int x8), (7, .int x3), (6, .int x2), (0, .int z0), (5, .int z5)]) rfl rfl ?_
          obtain ⟨x12, hx12, e⟩ := pn_some e
          refine gs_iinc1 (x1 := x12) (c := 1) (lv' := [(5, .int x12), (3, .int x11), (4, .int x10), (2, .int x8), (7, .int x3), (6, .int x2), (0, .int z0)]) rfl rfl (by decide) hx12 rfl ?_
          refine gs_goto rfl ?_
          refine gs_drop [6, 3, 1, 2, 0] rfl ?_
          exact (ih z0 x8 x11 x10 x12 f _ e).1 _ rfl
        · rw [if_pos c4] at e
          refine gs_ldc (x := (-1000000)) rfl (by decide) ?_
          obtain rfl := injl e
          exact gs_iret rfl rfl rfl rfl rfl
    · subst hq
      unfold lp_X8_nthGiven_10 at e
      refine gs_iload rfl rfl ?_
      refine gs_iconst (x := 4) rfl (by decide) ?_
      refine gs_ge2 rfl (fun c1 => ?_) (fun c1 => ?_)
      · rw [if_pos c1] at e
        obtain rfl := injr1 e
        refine gs_drop [1] rfl ?_
        exact K
      · rw [if_neg c1] at e
        refine gs_iload_n rfl rfl ?_
        refine gs_iload rfl rfl ?_
        refine gs_callsI (st := []) rfl (pr_C_le (by decide) (th_X8_fieldOf L z0 z5 f _ rfl)) rfl rfl rfl (by decide) ?_
        obtain ⟨x2, hx2, e⟩ := pn_some e
        refine gs_topi hx2 ?_
        refine gs_istore (lv' := [(6, .int x2), (0, .int z0), (2, .int z2), (3, .int z3), (4, .int z4), (5, .int z5)]) rfl rfl ?_
        refine gs_iload rfl rfl ?_
        refine gs_callsI (st := []) rfl (pr_C_le (by decide) (th_J6_bitCount_0f7a4 L x2 f _ rfl)) rfl rfl rfl (by decide) ?_
        obtain ⟨x3, hx3, e⟩ := pn_some e
        refine gs_topi hx3 ?_
        refine gs_istore (lv' := [(7, .int x3), (6, .int x2), (0, .int z0), (2, .int z2), (3, .int z3), (4, .int z4), (5, .int z5)]) rfl rfl ?_
        refine gs_iload rfl rfl ?_
        refine gs_ne0 rfl (fun c4 => ?_) (fun c4 => ?_)
        · rw [if_neg c4] at e
          refine gs_iload_n rfl rfl ?_
          refine gs_iload_n rfl rfl ?_
          refine gs_iload rfl rfl ?_
          refine gs_iload rfl rfl ?_
          refine gs_iload rfl rfl ?_
          by_cases hd5 : x3 = 0
          · rw [if_pos hd5] at e
            cases e
          rw [if_neg hd5] at e
          refine gs_irem rfl hd5 ?_
          obtain ⟨r6, ec7, e⟩ := ob1_some e
          refine gs_callsI (st := [.int z3, .int z2]) rfl (pr_C_le (by decide) (th_X8_nthBit L x2 (z4 - z4 / x3 * x3) f r6 ec7)) rfl rfl rfl (by decide) ?_
          refine gs_imul rfl ?_
          refine gs_iadd rfl ?_
          obtain ⟨x8, hx8, e⟩ := pn_some e
          refine gs_topi hx8 ?_
          refine gs_istore_n (lv' := [(2, .int x8), (7, .int x3), (6, .int x2), (0, .int z0), (3, .int z3), (4, .int z4), (5, .int z5)]) rfl rfl ?_
          refine gs_iload rfl rfl ?_
          refine gs_iload rfl rfl ?_
          by_cases hd9 : x3 = 0
          · rw [if_pos hd9] at e
            cases e
          rw [if_neg hd9] at e
          refine gs_idiv rfl hd9 ?_
          obtain ⟨x10, hx10, e⟩ := pn_some e
          refine gs_topi hx10 ?_
          refine gs_istore (lv' := [(4, .int x10), (2, .int x8), (7, .int x3), (6, .int x2), (0, .int z0), (3, .int z3), (5, .int z5)]) rfl rfl ?_
          refine gs_iload_n rfl rfl ?_
          refine gs_bipush (x := 7) rfl (by decide) ?_
          refine gs_imul rfl ?_
          obtain ⟨x11, hx11, e⟩ := pn_some e
          refine gs_topi hx11 ?_
          refine gs_istore_n (lv' := [(3, .int x11), (4, .int x10), (2, .int x8), (7, .int x3), (6, .int x2), (0, .int z0), (5, .int z5)]) rfl rfl ?_
          obtain ⟨x12, hx12, e⟩ := pn_some e
          refine gs_iinc1 (x1 := x12) (c := 1) (lv' := [(5, .int x12), (3, .int x11), (4, .int x10), (2, .int x8), (7, .int x3), (6, .int x2), (0, .int z0)]) rfl rfl (by decide) hx12 rfl ?_
          refine gs_goto rfl ?_
          refine gs_drop [6, 3, 1, 2, 0] rfl ?_
          exact (ih z0 x8 x11 x10 x12 f _ e).2 w0 rfl _ _ K
        · rw [if_pos c4] at e
          refine gs_ldc (x := (-1000000)) rfl (by decide) ?_
          cases e
set_option maxRecDepth 100000 in
set_option maxHeartbeats 4000000 in
theorem th_X8_nthGiven (L : Nat) (p1 : Int32) (p2 : Int32) (f : pd_M) (q : Int32) (e : fn_X8_nthGiven p1 p2 f = some q) : pr_C L 2 98 [.int p1, .int p2] (hH f) (some (.int q)) (hH f) := by
  refine pr_C.of (G := mt_X8_nthGiven) rfl rfl ?_
  show pr_G L 1 mt_X8_nthGiven (0, [(0, .int p1), (1, .int p2)], [], hH f) _ _
  unfold fn_X8_nthGiven at e
  refine gs_iconst (x := 0) rfl (by decide) ?_
  refine gs_istore_n (lv' := [(2, .int 0), (0, .int p1), (1, .int p2)]) rfl rfl ?_
  refine gs_iconst (x := 1) rfl (by decide) ?_
  refine gs_istore_n (lv' := [(3, .int 1), (2, .int 0), (0, .int p1), (1, .int p2)]) rfl rfl ?_
  refine gs_iload_n rfl rfl ?_
  refine gs_istore (lv' := [(4, .int p2), (3, .int 1), (2, .int 0), (0, .int p1), (1, .int p2)]) rfl rfl ?_
  refine gs_iconst (x := 0) rfl (by decide) ?_
  refine gs_istore (lv' := [(5, .int 0), (4, .int p2), (3, .int 1), (2, .int 0), (0, .int p1), (1, .int p2)]) rfl rfl ?_
  refine gs_drop [4, 3, 2, 1, 0] rfl ?_
  rcases os1_some e with ⟨q, el14, e⟩ | ⟨y13, el14, e⟩
  · skip
    obtain rfl := inj1 e
    exact (tl_X8_nthGiven_10 L 5000 p1 0 1 p2 0 f _ el14).1 _ rfl
  · refine (tl_X8_nthGiven_10 L 5000 p1 0 1 p2 0 f _ el14).2 y13 rfl _ _ ?_
    refine gs_iload_n rfl rfl ?_
    obtain rfl := inj1 e
    exact gs_iret rfl rfl rfl rfl rfl
def fn_X8_standIn (p1 : Int32) (p2 : Int32) (p3 : Int32) (p4 : Int32) (p5 : Int32) (p6 : Int32) (f : pd_M) : Option (Int32) :=
  if (fn_X8_isBelow p1 4) = 0 then
  some (-1000001)
  else
  if (fn_X8_isBelow p2 4) = 0 then
  some (-1000001)
  else
  if (fn_X8_isBelow p3 4) = 0 then
  some (-1000001)
  else
  if p1 = p3 then
  some (-1000001)
  else
  if (fn_X8_isCase p4 p5) = 0 then
  some (-1000001)
  else
  if (-1) ≤ p6 then
  ob1 (fn_X7_standIns p1 p2 p3 (fn_X8_caseOf p4 p5) f) fun r7 =>
  ob1 (fn_X8_countGiven r7 f) fun r9 =>
  ob1 (if (r7 &&& 268435456) = 0 then
  some (r9)
  else
  some ((r9 + 1))) fun (v12 : Int32) =>
  if p6 = (-1) then
  some v12
  else
  if p6 < v12 then
  if r9 ≤ p6 then
  some 2401
  else
  ob1 (fn_X8_nthGiven r7 p6 f) fun r16 =>
  some r16
  else
  some (-1000000)
  else
  some (-1000001)
set_option maxRecDepth 100000 in
set_option maxHeartbeats 4000000 in
theorem th_X8_standIn (L : Nat) (p1 : Int32) (p2 : Int32) (p3 : Int32) (p4 : Int32) (p5 : Int32) (p6 : Int32) (f : pd_M) (q : Int32) (e : fn_X8_standIn p1 p2 p3 p4 p5 p6 f = some q) : pr_C L 3 71 [.ref 17, .int p1, .int p2, .int p3, .int p4, .int p5, .int p6] (hH f) (some (.int q)) (hH f) := by
  refine pr_C.of (G := mt_X8_standIn) rfl rfl ?_
  show pr_G L 2 mt_X8_standIn (0, [(0, .ref 17), (1, .int p1), (2, .int p2), (3, .int p3), (4, .int p4), (5, .int p5), (6, .int p6)], [], hH f) _ _
  unfold fn_X8_standIn at e
  refine gs_iload_n rfl rfl ?_
  refine gs_iconst (x := 4) rfl (by decide) ?_
  refine gs_callsI (st := []) rfl (pr_C_le (by decide) (th_X8_isBelow L p1 4 f _ rfl)) rfl rfl rfl (by decide) ?_
  refine gs_eq0 rfl (fun c1 => ?_) (fun c1 => ?_)
  · rw [if_pos c1] at e
    refine gs_ldc (x := (-1000001)) rfl (by decide) ?_
    obtain rfl := inj1 e
    exact gs_iret rfl rfl rfl rfl rfl
  · rw [if_neg c1] at e
    refine gs_iload_n rfl rfl ?_
    refine gs_iconst (x := 4) rfl (by decide) ?_
    refine gs_callsI (st := []) rfl (pr_C_le (by decide) (th_X8_isBelow L p2 4 f _ rfl)) rfl rfl rfl (by decide) ?_
    refine gs_eq0 rfl (fun c2 => ?_) (fun c2 => ?_)
    · rw [if_pos c2] at e
      refine gs_ldc (x := (-1000001)) rfl (by decide) ?_
      obtain rfl := inj1 e
      exact gs_iret rfl rfl rfl rfl rfl
    · rw [if_neg c2] at e
      refine gs_iload_n rfl rfl ?_
      refine gs_iconst (x := 4) rfl (by decide) ?_
      refine gs_callsI (st := []) rfl (pr_C_le (by decide) (th_X8_isBelow L p3 4 f _ rfl)) rfl rfl rfl (by decide) ?_
      refine gs_ne0 rfl (fun c3 => ?_) (fun c3 => ?_)
      · rw [if_neg c3] at e
        refine gs_iload_n rfl rfl ?_
        refine gs_iload_n rfl rfl ?_
        refine gs_eq2 rfl (fun c4 => ?_) (fun c4 => ?_)
        · rw [if_pos c4] at e
          refine gs_ldc (x := (-1000001)) rfl (by decide) ?_
          obtain rfl := inj1 e
          exact gs_iret rfl rfl rfl rfl rfl
        · rw [if_neg c4] at e
          refine gs_iload rfl rfl ?_
          refine gs_iload rfl rfl ?_
          refine gs_callsI (st := []) rfl (pr_C_le (by decide) (th_X8_isCase L p4 p5 f _ rfl)) rfl rfl rfl (by decide) ?_
          refine gs_eq0 rfl (fun c5 => ?_) (fun c5 => ?_)
          · rw [if_pos c5] at e
            refine gs_ldc (x := (-1000001)) rfl (by decide) ?_
            obtain rfl := inj1 e
            exact gs_iret rfl rfl rfl rfl rfl
          · rw [if_neg c5] at e
            refine gs_iload rfl rfl ?_
            refine gs_iconst (x := (-1)) rfl (by decide) ?_
            refine gs_ge2 rfl (fun c6 => ?_) (fun c6 => ?_)
            · rw [if_pos c6] at e
              refine gs_aload_n rfl rfl ?_
              refine gs_get rfl (gd_r (b := 39) rfl rfl rfl) ?_
              refine gs_iload_n rfl rfl ?_
              refine gs_iload_n rfl rfl ?_
              refine gs_iload_n rfl rfl ?_
              refine gs_iload rfl rfl ?_
              refine gs_iload rfl rfl ?_
              refine gs_callsI (st := [.int p3, .int p2, .int p1, .ref 39]) rfl (pr_C_le (by decide) (th_X8_caseOf L p4 p5 f _ rfl)) rfl rfl rfl (by decide) ?_
              obtain ⟨r7, ec8, e⟩ := ob1_some e
              refine gs_callvI (st := []) rfl (pr_C_le (by decide) (th_X7_standIns L p1 p2 p3 (fn_X8_caseOf p4 p5) f r7 ec8)) rfl rfl rfl (by decide) rfl (Or.inr (by decide)) ?_
              refine gs_istore (lv' := [(7, .int r7), (0, .ref 17), (1, .int p1), (2, .int p2), (3, .int p3), (4, .int p4), (5, .int p5), (6, .int p6)]) rfl rfl ?_
              refine gs_iload rfl rfl ?_
              obtain ⟨r9, ec10, e⟩ := ob1_some e
              refine gs_callsI (st := []) rfl (pr_C_le (by decide) (th_X8_countGiven L r7 f r9 ec10)) rfl rfl rfl (by decide) ?_
              refine gs_istore (lv' := [(8, .int r9), (7, .int r7), (0, .ref 17), (1, .int p1), (2, .int p2), (3, .int p3), (4, .int p4), (5, .int p5), (6, .int p6)]) rfl rfl ?_
              refine gs_iload rfl rfl ?_
              refine gs_ldc (x := 268435456) rfl (by decide) ?_
              refine gs_iand rfl ?_
              obtain ⟨v12, ev94, e⟩ := ob1_some e
              have KJ94 : pr_G L 2 mt_X8_standIn (94, [(6, .int p6), (7, .int r7), (8, .int r9)], [.int v12], hH f) (some (.int q)) (hH f) := by
                refine gs_istore (lv' := [(9, .int v12), (6, .int p6), (7, .int r7), (8, .int r9)]) rfl rfl ?_
                refine gs_iload rfl rfl ?_
                refine gs_iconst (x := (-1)) rfl (by decide) ?_
                refine gs_ne2 rfl (fun c13 => ?_) (fun c13 => ?_)
                · rw [if_neg c13] at e
                  refine gs_iload rfl rfl ?_
                  refine gs_iload rfl rfl ?_
                  refine gs_lt2 rfl (fun c14 => ?_) (fun c14 => ?_)
                  · rw [if_pos c14] at e
                    refine gs_iload rfl rfl ?_
                    refine gs_iload rfl rfl ?_
                    refine gs_ge2 rfl (fun c15 => ?_) (fun c15 => ?_)
                    · rw [if_pos c15] at e
                      refine gs_sipush (x := 2401) rfl (by decide) ?_
                      obtain rfl := inj1 e
                      exact gs_iret rfl rfl rfl rfl rfl
                    · rw [if_neg c15] at e
                      refine gs_iload rfl rfl ?_
                      refine gs_iload rfl rfl ?_
                      obtain ⟨r16, ec17, e⟩ := ob1_some e
                      refine gs_callsI (st := []) rfl (pr_C_le (by decide) (th_X8_nthGiven L r7 p6 f r16 ec17)) rfl rfl rfl (by decide) ?_
                      refine gs_goto rfl ?_
                      obtain rfl := inj1 e
                      exact gs_iret rfl rfl rfl rfl rfl
                  · rw [if_neg c14] at e
                    refine gs_ldc (x := (-1000000)) rfl (by decide) ?_
                    obtain rfl := inj1 e
                    exact gs_iret rfl rfl rfl rfl rfl
                · rw [if_pos c13] at e
                  refine gs_iload rfl rfl ?_
                  obtain rfl := inj1 e
                  exact gs_iret rfl rfl rfl rfl rfl
              have e := ev94
              clear ev94
              refine gs_eq0 rfl (fun c11 => ?_) (fun c11 => ?_)
              · rw [if_pos c11] at e
                refine gs_iload rfl rfl ?_
                obtain rfl := inj1 e
                refine gs_drop [8, 1, 0] rfl ?_
                exact KJ94
              · rw [if_neg c11] at e
                refine gs_iload rfl rfl ?_
                refine gs_iconst (x := 1) rfl (by decide) ?_
                refine gs_iadd rfl ?_
                refine gs_goto rfl ?_
                obtain rfl := inj1 e
                refine gs_drop [8, 1, 0] rfl ?_
                exact KJ94
            · rw [if_neg c6] at e
              refine gs_ldc (x := (-1000001)) rfl (by decide) ?_
              obtain rfl := inj1 e
              exact gs_iret rfl rfl rfl rfl rfl
      · rw [if_pos c3] at e
        refine gs_ldc (x := (-1000001)) rfl (by decide) ?_
        obtain rfl := inj1 e
        exact gs_iret rfl rfl rfl rfl rfl
def lp_X8_answerOf_16 : Nat → Int32 → Int32 → Int32 → pd_M → Option (Int32)
  | 0, _, _, _, _ => none
  | n + 1, z1, z2, z3, f =>
    if 4 ≤ z3 then
    some (z1)
    else
    pn ((z1 ||| ((1 : Int32) <<< (((7 * z3) + (z2 - z2 / 7 * 7)) &&& 31)))) fun x3 =>
    pn ((z2 / 7)) fun x4 =>
    pn (z3 + 1) fun x5 =>
    lp_X8_answerOf_16 n x3 x4 x5 f
def fn_X8_answerOf (p1 : Int32) (f : pd_M) : Option (Int32) :=
  if p1 = 2401 then
  some 268435456
  else
  ob1 (lp_X8_answerOf_16 5000 0 p1 0 f) fun y6 =>
  some y6
set_option maxRecDepth 100000 in
set_option maxHeartbeats 4000000 in
theorem tl_X8_answerOf_16 (L : Nat) : ∀ (n : Nat) (z1 : Int32) (z2 : Int32) (z3 : Int32) (f : pd_M) (w0 : Int32) (r : Option Value) (h2 : ph_T), lp_X8_answerOf_16 n z1 z2 z3 f = some (w0) → pr_G L 0 mt_X8_answerOf (46, [(1, .int w0)], [], hH f) r h2 → pr_G L 0 mt_X8_answerOf (16, [(1, .int z1), (2, .int z2), (3, .int z3)], [], hH f) r h2 := by
  intro n
  induction n with
  | zero => intro z1 z2 z3 f w0 r h2 e; cases e
  | succ n ih =>
    intro z1 z2 z3 f w0 r h2 e K
    unfold lp_X8_answerOf_16 at e
    refine gs_iload_n rfl rfl ?_
    refine gs_iconst (x := 4) rfl (by decide) ?_
    refine gs_ge2 rfl (fun c2 => ?_) (fun c2 => ?_)
    · rw [if_pos c2] at e
      obtain rfl := inj1 e
      refine gs_drop [0] rfl ?_
      exact K
    · rw [if_neg c2] at e
      refine gs_iload_n rfl rfl ?_
      refine gs_iconst (x := 1) rfl (by decide) ?_
      refine gs_bipush (x := 7) rfl (by decide) ?_
      refine gs_iload_n rfl rfl ?_
      refine gs_imul rfl ?_
      refine gs_iload_n rfl rfl ?_
      refine gs_bipush (x := 7) rfl (by decide) ?_
      refine gs_irem rfl (by decide) ?_
      refine gs_iadd rfl ?_
      refine gs_ishl rfl ?_
      refine gs_ior rfl ?_
      obtain ⟨x3, hx3, e⟩ := pn_some e
      refine gs_topi hx3 ?_
      refine gs_istore_n (lv' := [(1, .int x3), (2, .int z2), (3, .int z3)]) rfl rfl ?_
      refine gs_iload_n rfl rfl ?_
      refine gs_bipush (x := 7) rfl (by decide) ?_
      refine gs_idiv rfl (by decide) ?_
      obtain ⟨x4, hx4, e⟩ := pn_some e
      refine gs_topi hx4 ?_
      refine gs_istore_n (lv' := [(2, .int x4), (1, .int x3), (3, .int z3)]) rfl rfl ?_
      obtain ⟨x5, hx5, e⟩ := pn_some e
      refine gs_iinc1 (x1 := x5) (c := 1) (lv' := [(3, .int x5), (2, .int x4), (1, .int x3)]) rfl rfl (by decide) hx5 rfl ?_
      refine gs_goto rfl ?_
      refine gs_drop [2, 1, 0] rfl ?_
      exact ih x3 x4 x5 f w0 _ _ e K
set_option maxRecDepth 100000 in
set_option maxHeartbeats 4000000 in
theorem th_X8_answerOf (L : Nat) (p1 : Int32) (f : pd_M) (q : Int32) (e : fn_X8_answerOf p1 f = some q) : pr_C L 1 96 [.int p1] (hH f) (some (.int q)) (hH f) := by
  refine pr_C.of (G := mt_X8_answerOf) rfl rfl ?_
  show pr_G L 0 mt_X8_answerOf (0, [(0, .int p1)], [], hH f) _ _
  unfold fn_X8_answerOf at e
  refine gs_iload_n rfl rfl ?_
  refine gs_sipush (x := 2401) rfl (by decide) ?_
  refine gs_ne2 rfl (fun c1 => ?_) (fun c1 => ?_)
  · rw [if_neg c1] at e
    refine gs_iconst (x := 0) rfl (by decide) ?_
    refine gs_istore_n (lv' := [(1, .int 0), (0, .int p1)]) rfl rfl ?_
    refine gs_iload_n rfl rfl ?_
    refine gs_istore_n (lv' := [(2, .int p1), (1, .int 0), (0, .int p1)]) rfl rfl ?_
    refine gs_iconst (x := 0) rfl (by decide) ?_
    refine gs_istore_n (lv' := [(3, .int 0), (2, .int p1), (1, .int 0), (0, .int p1)]) rfl rfl ?_
    refine gs_drop [2, 1, 0] rfl ?_
    obtain ⟨y6, el7, e⟩ := ob1_some e
    refine tl_X8_answerOf_16 L 5000 0 p1 0 f y6 _ _ el7 ?_
    refine gs_iload_n rfl rfl ?_
    obtain rfl := inj1 e
    exact gs_iret rfl rfl rfl rfl rfl
  · rw [if_pos c1] at e
    refine gs_ldc (x := 268435456) rfl (by decide) ?_
    obtain rfl := inj1 e
    exact gs_iret rfl rfl rfl rfl rfl
def lp_X8_allows_81 : Nat → Int32 → Int32 → Int32 → Nat → Int32 → Int32 → pd_M → Option ((Int32 × pd_M) ⊕ (Int32))
  | 0, _, _, _, _, _, _, _ => none
  | n + 1, z1, z3, z4, z5, z6, z7, f =>
    if sk z5 = (15, 4) then
    if (z3 + z4) ≤ z7 then
    some (.inr (z6))
    else
    if pa_in z7 40 = true then
    if (fn_X8_isBelow (f (z5 + 1) z7.toNatClampNeg) 2402) = 0 then
    some (.inl ((-1000001), f))
    else
    if pa_in z7 40 = true then
    ob1 (fn_X8_answerOf (f (z5 + 1) z7.toNatClampNeg) f) fun r16 =>
    if pa_in z1 20 = true then
    ob1 (if (fn_X8_isWithin r16 (f (48 + z1.toNatClampNeg) 8)) = 0 then
    some (z6)
    else
    pn (z6 + 1) fun x21 =>
    some (x21)) fun (y20 : Int32) =>
    pn (z7 + 1) fun x22 =>
    lp_X8_allows_81 n z1 z3 z4 z5 y20 x22 f
    else none
    else none
    else none
    else none
def fn_X8_allows (p1 : Int32) (p2 : Int32) (p3 : Int32) (p4 : Int32) (f : pd_M) : Option (Int32 × pd_M) :=
  ob1 (fn_X7_hasSaying p1 f) fun r1 =>
  if r1 = 0 then
  some ((-1000001), f)
  else
  if (fn_X8_isBelow p2 8) = 0 then
  some ((-1000001), f)
  else
  if p4 < 1 then
  some ((-1000001), f)
  else
  if p4 ≤ 20 then
  if pa_in p2 8 = true then
  if (f (19 + 2 * p2.toNatClampNeg) 1) = 0 then
  ob2 (fn_X8_found 1 f) fun r31 f32 =>
  some (r31, f32)
  else
  ob1 (fn_X5_reaches (19 + 2 * p2.toNatClampNeg) p3 p4 f) fun r9 =>
  if r9 = 0 then
  ob2 (fn_X8_found 2 f) fun r28 f29 =>
  some (r28, f29)
  else
  os1 (lp_X8_allows_81 5000 p1 p3 p4 (19 + 2 * p2.toNatClampNeg) 0 p3 f) (fun q => some q) fun y23 =>
  ob2 (fn_X8_well y23 f) fun r24 f25 =>
  some (r24, f25)
  else none
  else
  some ((-1000001), f)
set_option maxRecDepth 100000 in
set_option maxHeartbeats 4000000 in
theorem tl_X8_allows_81 (L : Nat) : ∀ (n : Nat) (z1 : Int32) (z3 : Int32) (z4 : Int32) (z5 : Nat) (z6 : Int32) (z7 : Int32) (f : pd_M) (o : (Int32 × pd_M) ⊕ (Int32)), lp_X8_allows_81 n z1 z3 z4 z5 z6 z7 f = some o → (∀ q, o = .inl q → pr_G L 2 mt_X8_allows (81, [(0, .ref 17), (1, .int z1), (3, .int z3), (4, .int z4), (5, .ref z5), (6, .int z6), (7, .int z7)], [], hH f) (some (.int q.1)) (hH q.2)) ∧ (∀ (w0 : Int32), o = .inr (w0) → ∀ (r : Option Value) (h2 : ph_T), pr_G L 2 mt_X8_allows (148, [(0, .ref 17), (6, .int w0)], [], hH f) r h2 → pr_G L 2 mt_X8_allows (81, [(0, .ref 17), (1, .int z1), (3, .int z3), (4, .int z4), (5, .ref z5), (6, .int z6), (7, .int z7)], [], hH f) r h2) := by
  intro n
  induction n with
  | zero => intro z1 z3 z4 z5 z6 z7 f o e; cases e
  | succ n ih =>
    intro z1 z3 z4 z5 z6 z7 f o e
    refine ⟨fun q hq => ?_, fun w0 hq r h2 K => ?_⟩
    · subst hq
      unfold lp_X8_allows_81 at e
      by_cases hk5 : sk z5 = (15, 4)
      case neg => rw [if_neg hk5] at e; cases e
      rw [if_pos hk5] at e
      refine gs_iload rfl rfl ?_
      refine gs_iload_n rfl rfl ?_
      refine gs_iload rfl rfl ?_
      refine gs_iadd rfl ?_
      refine gs_ge2 rfl (fun c12 => ?_) (fun c12 => ?_)
      · rw [if_pos c12] at e
        cases e
      · rw [if_neg c12] at e
        refine gs_aload rfl rfl ?_
        refine gs_get rfl (gd_r (b := (z5 + 1)) (sh_of hk5 (by decide)) rfl (ref_15_0 hk5)) ?_
        refine gs_iload rfl rfl ?_
        by_cases hb13 : pa_in z7 40 = true
        case neg => rw [if_neg hb13] at e; cases e
        rw [if_pos hb13] at e
        refine gs_iald rfl (gd_ia (j := z7.toNatClampNeg) (sh_of (fam_15_0 hk5) (by decide)) hb13 rfl) ?_
        refine gs_sipush (x := 2402) rfl (by decide) ?_
        refine gs_callsI (st := []) rfl (pr_C_le (by decide) (th_X8_isBelow L (f (z5 + 1) z7.toNatClampNeg) 2402 f _ rfl)) rfl rfl rfl (by decide) ?_
        refine gs_ne0 rfl (fun c14 => ?_) (fun c14 => ?_)
        · rw [if_neg c14] at e
          refine gs_aload rfl rfl ?_
          refine gs_get rfl (gd_r (b := (z5 + 1)) (sh_of hk5 (by decide)) rfl (ref_15_0 hk5)) ?_
          refine gs_iload rfl rfl ?_
          by_cases hb15 : pa_in z7 40 = true
          case neg => rw [if_neg hb15] at e; cases e
          rw [if_pos hb15] at e
          refine gs_iald rfl (gd_ia (j := z7.toNatClampNeg) (sh_of (fam_15_0 hk5) (by decide)) hb15 rfl) ?_
          obtain ⟨r16, ec17, e⟩ := ob1_some e
          refine gs_callsI (st := []) rfl (pr_C_le (by decide) (th_X8_answerOf L (f (z5 + 1) z7.toNatClampNeg) f r16 ec17)) rfl rfl rfl (by decide) ?_
          refine gs_aload_n rfl rfl ?_
          refine gs_get rfl (gd_r (b := 39) rfl rfl rfl) ?_
          refine gs_get rfl (gd_r (b := 45) rfl rfl rfl) ?_
          refine gs_iload_n rfl rfl ?_
          by_cases hb18 : pa_in z1 20 = true
          case neg => rw [if_neg hb18] at e; cases e
          rw [if_pos hb18] at e
          refine gs_aald rfl (gd_aa (b := (48 + z1.toNatClampNeg)) rfl (by decide) rfl hb18 rfl (arr_rf_45 (lt_of_in hb18))) ?_
          refine gs_get rfl (gd_i (sh_of (arr_sh_45 (lt_of_in hb18)) (by decide)) rfl) ?_
          refine gs_callsI (st := []) rfl (pr_C_le (by decide) (th_X8_isWithin L r16 (f (48 + z1.toNatClampNeg) 8) f _ rfl)) rfl rfl rfl (by decide) ?_
          obtain ⟨y20, ev142, e⟩ := ob1_some e
          have KJ142 : pr_G L 2 mt_X8_allows (142, [(0, .ref 17), (1, .int z1), (3, .int z3), (4, .int z4), (5, .ref z5), (6, .int y20), (7, .int z7)], [], hH f) (some (.int q.1)) (hH q.2) := by
            obtain ⟨x22, hx22, e⟩ := pn_some e
            refine gs_iinc1 (x1 := x22) (c := 1) (lv' := [(7, .int x22), (0, .ref 17), (1, .int z1), (3, .int z3), (4, .int z4), (5, .ref z5), (6, .int y20)]) rfl rfl (by decide) hx22 rfl ?_
            refine gs_goto rfl ?_
            refine gs_drop [1, 2, 3, 4, 5, 6, 0] rfl ?_
            exact (ih z1 z3 z4 z5 y20 x22 f _ e).1 _ rfl
          have e := ev142
          clear ev142
          refine gs_eq0 rfl (fun c19 => ?_) (fun c19 => ?_)
          · rw [if_pos c19] at e
            obtain rfl := inj1 e
            refine gs_drop [0, 1, 2, 3, 4, 5, 6] rfl ?_
            exact KJ142
          · rw [if_neg c19] at e
            obtain ⟨x21, hx21, e⟩ := pn_some e
            refine gs_iinc1 (x1 := x21) (c := 1) (lv' := [(6, .int x21), (0, .ref 17), (1, .int z1), (3, .int z3), (4, .int z4), (5, .ref z5), (7, .int z7)]) rfl rfl (by decide) hx21 rfl ?_
            obtain rfl := inj1 e
            refine gs_drop [1, 2, 3, 4, 5, 0, 6] rfl ?_
            exact KJ142
        · rw [if_pos c14] at e
          refine gs_ldc (x := (-1000001)) rfl (by decide) ?_
          obtain rfl := injl e
          exact gs_iret rfl rfl rfl rfl rfl
    · subst hq
      unfold lp_X8_allows_81 at e
      by_cases hk5 : sk z5 = (15, 4)
      case neg => rw [if_neg hk5] at e; cases e
      rw [if_pos hk5] at e
      refine gs_iload rfl rfl ?_
      refine gs_iload_n rfl rfl ?_
      refine gs_iload rfl rfl ?_
      refine gs_iadd rfl ?_
      refine gs_ge2 rfl (fun c12 => ?_) (fun c12 => ?_)
      · rw [if_pos c12] at e
        obtain rfl := injr1 e
        refine gs_drop [0, 5] rfl ?_
        exact K
      · rw [if_neg c12] at e
        refine gs_aload rfl rfl ?_
        refine gs_get rfl (gd_r (b := (z5 + 1)) (sh_of hk5 (by decide)) rfl (ref_15_0 hk5)) ?_
        refine gs_iload rfl rfl ?_
        by_cases hb13 : pa_in z7 40 = true
        case neg => rw [if_neg hb13] at e; cases e
        rw [if_pos hb13] at e
        refine gs_iald rfl (gd_ia (j := z7.toNatClampNeg) (sh_of (fam_15_0 hk5) (by decide)) hb13 rfl) ?_
        refine gs_sipush (x := 2402) rfl (by decide) ?_
        refine gs_callsI (st := []) rfl (pr_C_le (by decide) (th_X8_isBelow L (f (z5 + 1) z7.toNatClampNeg) 2402 f _ rfl)) rfl rfl rfl (by decide) ?_
        refine gs_ne0 rfl (fun c14 => ?_) (fun c14 => ?_)
        · rw [if_neg c14] at e
          refine gs_aload rfl rfl ?_
          refine gs_get rfl (gd_r (b := (z5 + 1)) (sh_of hk5 (by decide)) rfl (ref_15_0 hk5)) ?_
          refine gs_iload rfl rfl ?_
          by_cases hb15 : pa_in z7 40 = true
          case neg => rw [if_neg hb15] at e; cases e
          rw [if_pos hb15] at e
          refine gs_iald rfl (gd_ia (j := z7.toNatClampNeg) (sh_of (fam_15_0 hk5) (by decide)) hb15 rfl) ?_
          obtain ⟨r16, ec17, e⟩ := ob1_some e
          refine gs_callsI (st := []) rfl (pr_C_le (by decide) (th_X8_answerOf L (f (z5 + 1) z7.toNatClampNeg) f r16 ec17)) rfl rfl rfl (by decide) ?_
          refine gs_aload_n rfl rfl ?_
          refine gs_get rfl (gd_r (b := 39) rfl rfl rfl) ?_
          refine gs_get rfl (gd_r (b := 45) rfl rfl rfl) ?_
          refine gs_iload_n rfl rfl ?_
          by_cases hb18 : pa_in z1 20 = true
          case neg => rw [if_neg hb18] at e; cases e
          rw [if_pos hb18] at e
          refine gs_aald rfl (gd_aa (b := (48 + z1.toNatClampNeg)) rfl (by decide) rfl hb18 rfl (arr_rf_45 (lt_of_in hb18))) ?_
          refine gs_get rfl (gd_i (sh_of (arr_sh_45 (lt_of_in hb18)) (by decide)) rfl) ?_
          refine gs_callsI (st := []) rfl (pr_C_le (by decide) (th_X8_isWithin L r16 (f (48 + z1.toNatClampNeg) 8) f _ rfl)) rfl rfl rfl (by decide) ?_
          obtain ⟨y20, ev142, e⟩ := ob1_some e
          have KJ142 : pr_G L 2 mt_X8_allows (142, [(0, .ref 17), (1, .int z1), (3, .int z3), (4, .int z4), (5, .ref z5), (6, .int y20), (7, .int z7)], [], hH f) r h2 := by
            obtain ⟨x22, hx22, e⟩ := pn_some e
            refine gs_iinc1 (x1 := x22) (c := 1) (lv' := [(7, .int x22), (0, .ref 17), (1, .int z1), (3, .int z3), (4, .int z4), (5, .ref z5), (6, .int y20)]) rfl rfl (by decide) hx22 rfl ?_
            refine gs_goto rfl ?_
            refine gs_drop [1, 2, 3, 4, 5, 6, 0] rfl ?_
            exact (ih z1 z3 z4 z5 y20 x22 f _ e).2 w0 rfl _ _ K
          have e := ev142
          clear ev142
          refine gs_eq0 rfl (fun c19 => ?_) (fun c19 => ?_)
          · rw [if_pos c19] at e
            obtain rfl := inj1 e
            refine gs_drop [0, 1, 2, 3, 4, 5, 6] rfl ?_
            exact KJ142
          · rw [if_neg c19] at e
            obtain ⟨x21, hx21, e⟩ := pn_some e
            refine gs_iinc1 (x1 := x21) (c := 1) (lv' := [(6, .int x21), (0, .ref 17), (1, .int z1), (3, .int z3), (4, .int z4), (5, .ref z5), (7, .int z7)]) rfl rfl (by decide) hx21 rfl ?_
            obtain rfl := inj1 e
            refine gs_drop [1, 2, 3, 4, 5, 0, 6] rfl ?_
            exact KJ142
        · rw [if_pos c14] at e
          refine gs_ldc (x := (-1000001)) rfl (by decide) ?_
          cases e
set_option maxRecDepth 100000 in
set_option maxHeartbeats 4000000 in
theorem th_X8_allows (L : Nat) (p1 : Int32) (p2 : Int32) (p3 : Int32) (p4 : Int32) (f : pd_M) (q : Int32) (g : pd_M) (e : fn_X8_allows p1 p2 p3 p4 f = some (q, g)) : pr_C L 3 72 [.ref 17, .int p1, .int p2, .int p3, .int p4] (hH f) (some (.int q)) (hH g) := by
  refine pr_C.of (G := mt_X8_allows) rfl rfl ?_
  show pr_G L 2 mt_X8_allows (0, [(0, .ref 17), (1, .int p1), (2, .int p2), (3, .int p3), (4, .int p4)], [], hH f) _ _
  unfold fn_X8_allows at e
  refine gs_aload_n rfl rfl ?_
  refine gs_get rfl (gd_r (b := 39) rfl rfl rfl) ?_
  refine gs_iload_n rfl rfl ?_
  obtain ⟨r1, ec2, e⟩ := ob1_some e
  refine gs_callvI (st := []) rfl (pr_C_le (by decide) (th_X7_hasSaying L p1 f r1 ec2)) rfl rfl rfl (by decide) rfl (Or.inr (by decide)) ?_
  refine gs_eq0 rfl (fun c3 => ?_) (fun c3 => ?_)
  · rw [if_pos c3] at e
    refine gs_ldc (x := (-1000001)) rfl (by decide) ?_
    obtain ⟨rfl, rfl⟩ := inj2 e
    exact gs_iret rfl rfl rfl rfl rfl
  · rw [if_neg c3] at e
    refine gs_iload_n rfl rfl ?_
    refine gs_bipush (x := 8) rfl (by decide) ?_
    refine gs_callsI (st := []) rfl (pr_C_le (by decide) (th_X8_isBelow L p2 8 f _ rfl)) rfl rfl rfl (by decide) ?_
    refine gs_eq0 rfl (fun c4 => ?_) (fun c4 => ?_)
    · rw [if_pos c4] at e
      refine gs_ldc (x := (-1000001)) rfl (by decide) ?_
      obtain ⟨rfl, rfl⟩ := inj2 e
      exact gs_iret rfl rfl rfl rfl rfl
    · rw [if_neg c4] at e
      refine gs_iload rfl rfl ?_
      refine gs_iconst (x := 1) rfl (by decide) ?_
      refine gs_lt2 rfl (fun c5 => ?_) (fun c5 => ?_)
      · rw [if_pos c5] at e
        refine gs_ldc (x := (-1000001)) rfl (by decide) ?_
        obtain ⟨rfl, rfl⟩ := inj2 e
        exact gs_iret rfl rfl rfl rfl rfl
      · rw [if_neg c5] at e
        refine gs_iload rfl rfl ?_
        refine gs_bipush (x := 20) rfl (by decide) ?_
        refine gs_le2 rfl (fun c6 => ?_) (fun c6 => ?_)
        · rw [if_pos c6] at e
          refine gs_aload_n rfl rfl ?_
          refine gs_get rfl (gd_r (b := 18) rfl rfl rfl) ?_
          refine gs_iload_n rfl rfl ?_
          by_cases hb7 : pa_in p2 8 = true
          case neg => rw [if_neg hb7] at e; cases e
          rw [if_pos hb7] at e
          refine gs_aald rfl (gd_aa (b := (19 + 2 * p2.toNatClampNeg)) rfl (by decide) rfl hb7 rfl (arr_rf_18 (lt_of_in hb7))) ?_
          refine gs_astore (lv' := [(5, .ref (19 + 2 * p2.toNatClampNeg)), (0, .ref 17), (1, .int p1), (2, .int p2), (3, .int p3), (4, .int p4)]) rfl rfl ?_
          refine gs_aload rfl rfl ?_
          refine gs_get rfl (gd_i (sh_of (arr_sh_18 (lt_of_in hb7)) (by decide)) rfl) ?_
          refine gs_ne0 rfl (fun c8 => ?_) (fun c8 => ?_)
          · rw [if_neg c8] at e
            refine gs_aload rfl rfl ?_
            refine gs_iload_n rfl rfl ?_
            refine gs_iload rfl rfl ?_
            obtain ⟨r9, ec10, e⟩ := ob1_some e
            refine gs_callvI (st := []) rfl (pr_C_le (by decide) (th_X5_reaches L (19 + 2 * p2.toNatClampNeg) p3 p4 f r9 ec10)) rfl rfl rfl (by decide) (by rw [(sh_of (arr_sh_18 (lt_of_in hb7)) (by decide))]; rfl) (Or.inr (by decide)) ?_
            refine gs_ne0 rfl (fun c11 => ?_) (fun c11 => ?_)
            · rw [if_neg c11] at e
              refine gs_iconst (x := 0) rfl (by decide) ?_
              refine gs_istore (lv' := [(6, .int 0), (5, .ref (19 + 2 * p2.toNatClampNeg)), (0, .ref 17), (1, .int p1), (2, .int p2), (3, .int p3), (4, .int p4)]) rfl rfl ?_
              refine gs_iload_n rfl rfl ?_
              refine gs_istore (lv' := [(7, .int p3), (6, .int 0), (5, .ref (19 + 2 * p2.toNatClampNeg)), (0, .ref 17), (1, .int p1), (2, .int p2), (3, .int p3), (4, .int p4)]) rfl rfl ?_
              refine gs_drop [3, 4, 6, 7, 2, 1, 0] rfl ?_
              rcases os1_some e with ⟨q, el27, e⟩ | ⟨y23, el27, e⟩
              · skip
                obtain rfl := inj1 e
                exact (tl_X8_allows_81 L 5000 p1 p3 p4 (19 + 2 * p2.toNatClampNeg) 0 p3 f _ el27).1 _ rfl
              · refine (tl_X8_allows_81 L 5000 p1 p3 p4 (19 + 2 * p2.toNatClampNeg) 0 p3 f _ el27).2 y23 rfl _ _ ?_
                refine gs_aload_n rfl rfl ?_
                refine gs_iload rfl rfl ?_
                obtain ⟨r24, f25, ec26, e⟩ := ob2_some e
                refine gs_callvI (st := []) rfl (pr_C_le (by decide) (th_X8_well L y23 f r24 f25 ec26)) rfl rfl rfl (by decide) rfl (Or.inr (by decide)) ?_
                obtain ⟨rfl, rfl⟩ := inj2 e
                exact gs_iret rfl rfl rfl rfl rfl
            · rw [if_pos c11] at e
              refine gs_aload_n rfl rfl ?_
              refine gs_iconst (x := 2) rfl (by decide) ?_
              obtain ⟨r28, f29, ec30, e⟩ := ob2_some e
              refine gs_callvI (st := []) rfl (pr_C_le (by decide) (th_X8_found L 2 f r28 f29 ec30)) rfl rfl rfl (by decide) rfl (Or.inr (by decide)) ?_
              obtain ⟨rfl, rfl⟩ := inj2 e
              exact gs_iret rfl rfl rfl rfl rfl
          · rw [if_pos c8] at e
            refine gs_aload_n rfl rfl ?_
            refine gs_iconst (x := 1) rfl (by decide) ?_
            obtain ⟨r31, f32, ec33, e⟩ := ob2_some e
            refine gs_callvI (st := []) rfl (pr_C_le (by decide) (th_X8_found L 1 f r31 f32 ec33)) rfl rfl rfl (by decide) rfl (Or.inr (by decide)) ?_
            obtain ⟨rfl, rfl⟩ := inj2 e
            exact gs_iret rfl rfl rfl rfl rfl
        · rw [if_neg c6] at e
          refine gs_ldc (x := (-1000001)) rfl (by decide) ?_
          obtain ⟨rfl, rfl⟩ := inj2 e
          exact gs_iret rfl rfl rfl rfl rfl
def fn_X8_noMore (p1 : Int32) (p2 : Int32) (f : pd_M) : Option (Int32) :=
  ob1 (fn_X7_hasSaying p1 f) fun r1 =>
  if r1 = 0 then
  some (-1000001)
  else
  ob1 (fn_X7_hasSaying p2 f) fun r4 =>
  if r4 = 0 then
  some (-1000001)
  else
  if pa_in p1 20 = true then
  if pa_in p2 20 = true then
  if (f (48 + p1.toNatClampNeg) 2) = (f (48 + p2.toNatClampNeg) 2) then
  if (fn_X8_isWithin (f (48 + p1.toNatClampNeg) 7) (f (48 + p2.toNatClampNeg) 7)) = 0 then
  some 0
  else
  if (fn_X8_isWithin (f (48 + p2.toNatClampNeg) 8) (f (48 + p1.toNatClampNeg) 8)) = 0 then
  some 0
  else
  some 1
  else
  some (-1000002)
  else none
  else none
set_option maxRecDepth 100000 in
set_option maxHeartbeats 4000000 in
theorem th_X8_noMore (L : Nat) (p1 : Int32) (p2 : Int32) (f : pd_M) (q : Int32) (e : fn_X8_noMore p1 p2 f = some q) : pr_C L 3 73 [.ref 17, .int p1, .int p2] (hH f) (some (.int q)) (hH f) := by
  refine pr_C.of (G := mt_X8_noMore) rfl rfl ?_
  show pr_G L 2 mt_X8_noMore (0, [(0, .ref 17), (1, .int p1), (2, .int p2)], [], hH f) _ _
  unfold fn_X8_noMore at e
  refine gs_aload_n rfl rfl ?_
  refine gs_get rfl (gd_r (b := 39) rfl rfl rfl) ?_
  refine gs_iload_n rfl rfl ?_
  obtain ⟨r1, ec2, e⟩ := ob1_some e
  refine gs_callvI (st := []) rfl (pr_C_le (by decide) (th_X7_hasSaying L p1 f r1 ec2)) rfl rfl rfl (by decide) rfl (Or.inr (by decide)) ?_
  refine gs_eq0 rfl (fun c3 => ?_) (fun c3 => ?_)
  · rw [if_pos c3] at e
    refine gs_ldc (x := (-1000001)) rfl (by decide) ?_
    obtain rfl := inj1 e
    exact gs_iret rfl rfl rfl rfl rfl
  · rw [if_neg c3] at e
    refine gs_aload_n rfl rfl ?_
    refine gs_get rfl (gd_r (b := 39) rfl rfl rfl) ?_
    refine gs_iload_n rfl rfl ?_
    obtain ⟨r4, ec5, e⟩ := ob1_some e
    refine gs_callvI (st := []) rfl (pr_C_le (by decide) (th_X7_hasSaying L p2 f r4 ec5)) rfl rfl rfl (by decide) rfl (Or.inr (by decide)) ?_
    refine gs_ne0 rfl (fun c6 => ?_) (fun c6 => ?_)
    · rw [if_neg c6] at e
      refine gs_aload_n rfl rfl ?_
      refine gs_get rfl (gd_r (b := 39) rfl rfl rfl) ?_
      refine gs_get rfl (gd_r (b := 45) rfl rfl rfl) ?_
      refine gs_iload_n rfl rfl ?_
      by_cases hb7 : pa_in p1 20 = true
      case neg => rw [if_neg hb7] at e; cases e
      rw [if_pos hb7] at e
      refine gs_aald rfl (gd_aa (b := (48 + p1.toNatClampNeg)) rfl (by decide) rfl hb7 rfl (arr_rf_45 (lt_of_in hb7))) ?_
      refine gs_astore_n (lv' := [(3, .ref (48 + p1.toNatClampNeg)), (0, .ref 17), (1, .int p1), (2, .int p2)]) rfl rfl ?_
      refine gs_aload_n rfl rfl ?_
      refine gs_get rfl (gd_r (b := 39) rfl rfl rfl) ?_
      refine gs_get rfl (gd_r (b := 45) rfl rfl rfl) ?_
      refine gs_iload_n rfl rfl ?_
      by_cases hb8 : pa_in p2 20 = true
      case neg => rw [if_neg hb8] at e; cases e
      rw [if_pos hb8] at e
      refine gs_aald rfl (gd_aa (b := (48 + p2.toNatClampNeg)) rfl (by decide) rfl hb8 rfl (arr_rf_45 (lt_of_in hb8))) ?_
      refine gs_astore (lv' := [(4, .ref (48 + p2.toNatClampNeg)), (3, .ref (48 + p1.toNatClampNeg)), (0, .ref 17), (1, .int p1), (2, .int p2)]) rfl rfl ?_
      refine gs_aload_n rfl rfl ?_
      refine gs_get rfl (gd_i (sh_of (arr_sh_45 (lt_of_in hb7)) (by decide)) rfl) ?_
      refine gs_aload rfl rfl ?_
      refine gs_get rfl (gd_i (sh_of (arr_sh_45 (lt_of_in hb8)) (by decide)) rfl) ?_
      refine gs_eq2 rfl (fun c9 => ?_) (fun c9 => ?_)
      · rw [if_pos c9] at e
        refine gs_aload_n rfl rfl ?_
        refine gs_get rfl (gd_i (sh_of (arr_sh_45 (lt_of_in hb7)) (by decide)) rfl) ?_
        refine gs_aload rfl rfl ?_
        refine gs_get rfl (gd_i (sh_of (arr_sh_45 (lt_of_in hb8)) (by decide)) rfl) ?_
        refine gs_callsI (st := []) rfl (pr_C_le (by decide) (th_X8_isWithin L (f (48 + p1.toNatClampNeg) 7) (f (48 + p2.toNatClampNeg) 7) f _ rfl)) rfl rfl rfl (by decide) ?_
        refine gs_eq0 rfl (fun c10 => ?_) (fun c10 => ?_)
        · rw [if_pos c10] at e
          refine gs_iconst (x := 0) rfl (by decide) ?_
          obtain rfl := inj1 e
          exact gs_iret rfl rfl rfl rfl rfl
        · rw [if_neg c10] at e
          refine gs_aload rfl rfl ?_
          refine gs_get rfl (gd_i (sh_of (arr_sh_45 (lt_of_in hb8)) (by decide)) rfl) ?_
          refine gs_aload_n rfl rfl ?_
          refine gs_get rfl (gd_i (sh_of (arr_sh_45 (lt_of_in hb7)) (by decide)) rfl) ?_
          refine gs_callsI (st := []) rfl (pr_C_le (by decide) (th_X8_isWithin L (f (48 + p2.toNatClampNeg) 8) (f (48 + p1.toNatClampNeg) 8) f _ rfl)) rfl rfl rfl (by decide) ?_
          refine gs_eq0 rfl (fun c11 => ?_) (fun c11 => ?_)
          · rw [if_pos c11] at e
            refine gs_iconst (x := 0) rfl (by decide) ?_
            obtain rfl := inj1 e
            exact gs_iret rfl rfl rfl rfl rfl
          · rw [if_neg c11] at e
            refine gs_iconst (x := 1) rfl (by decide) ?_
            refine gs_goto rfl ?_
            obtain rfl := inj1 e
            exact gs_iret rfl rfl rfl rfl rfl
      · rw [if_neg c9] at e
        refine gs_ldc (x := (-1000002)) rfl (by decide) ?_
        obtain rfl := inj1 e
        exact gs_iret rfl rfl rfl rfl rfl
    · rw [if_pos c6] at e
      refine gs_ldc (x := (-1000001)) rfl (by decide) ?_
      obtain rfl := inj1 e
      exact gs_iret rfl rfl rfl rfl rfl
def fn_X8_quarrel (p1 : Int32) (f : pd_M) : Option (Int32) :=
  if (fn_X8_isBelow p1 4) = 0 then
  some (-1000001)
  else
  if pa_in p1 4 = true then
  some (f 47 p1.toNatClampNeg)
  else none
set_option maxRecDepth 100000 in
set_option maxHeartbeats 4000000 in
theorem th_X8_quarrel (L : Nat) (p1 : Int32) (f : pd_M) (q : Int32) (e : fn_X8_quarrel p1 f = some q) : pr_C L 2 74 [.ref 17, .int p1] (hH f) (some (.int q)) (hH f) := by
  refine pr_C.of (G := mt_X8_quarrel) rfl rfl ?_
  show pr_G L 1 mt_X8_quarrel (0, [(0, .ref 17), (1, .int p1)], [], hH f) _ _
  unfold fn_X8_quarrel at e
  refine gs_iload_n rfl rfl ?_
  refine gs_iconst (x := 4) rfl (by decide) ?_
  refine gs_callsI (st := []) rfl (pr_C_le (by decide) (th_X8_isBelow L p1 4 f _ rfl)) rfl rfl rfl (by decide) ?_
  refine gs_eq0 rfl (fun c1 => ?_) (fun c1 => ?_)
  · rw [if_pos c1] at e
    refine gs_ldc (x := (-1000001)) rfl (by decide) ?_
    obtain rfl := inj1 e
    exact gs_iret rfl rfl rfl rfl rfl
  · rw [if_neg c1] at e
    refine gs_aload_n rfl rfl ?_
    refine gs_get rfl (gd_r (b := 39) rfl rfl rfl) ?_
    refine gs_get rfl (gd_r (b := 47) rfl rfl rfl) ?_
    refine gs_iload_n rfl rfl ?_
    by_cases hb2 : pa_in p1 4 = true
    case neg => rw [if_neg hb2] at e; cases e
    rw [if_pos hb2] at e
    refine gs_iald rfl (gd_ia (j := p1.toNatClampNeg) rfl hb2 rfl) ?_
    refine gs_goto rfl ?_
    obtain rfl := inj1 e
    exact gs_iret rfl rfl rfl rfl rfl
def fn_X8_change (p1 : Int32) (p2 : Int32) (p3 : Int32) (f : pd_M) : Option (Int32) :=
  ob1 (fn_X7_hasEdition p1 p2 f) fun r1 =>
  if r1 = 0 then
  some (-1000001)
  else
  ob1 (fn_X7_hasEdition p1 p3 f) fun r4 =>
  if r4 = 0 then
  some (-1000001)
  else
  ob1 (fn_X7_editionOf p1 p2) fun r7 =>
  ob1 (fn_X7_editionOf p1 p3) fun r9 =>
  some ((f r7 1) &&& ((f r9 1) ^^^ (-1)))
set_option maxRecDepth 100000 in
set_option maxHeartbeats 4000000 in
theorem th_X8_change (L : Nat) (p1 : Int32) (p2 : Int32) (p3 : Int32) (f : pd_M) (q : Int32) (e : fn_X8_change p1 p2 p3 f = some q) : pr_C L 3 75 [.ref 17, .int p1, .int p2, .int p3] (hH f) (some (.int q)) (hH f) := by
  refine pr_C.of (G := mt_X8_change) rfl rfl ?_
  show pr_G L 2 mt_X8_change (0, [(0, .ref 17), (1, .int p1), (2, .int p2), (3, .int p3)], [], hH f) _ _
  unfold fn_X8_change at e
  refine gs_aload_n rfl rfl ?_
  refine gs_get rfl (gd_r (b := 39) rfl rfl rfl) ?_
  refine gs_iload_n rfl rfl ?_
  refine gs_iload_n rfl rfl ?_
  obtain ⟨r1, ec2, e⟩ := ob1_some e
  refine gs_callvI (st := []) rfl (pr_C_le (by decide) (th_X7_hasEdition L p1 p2 f r1 ec2)) rfl rfl rfl (by decide) rfl (Or.inr (by decide)) ?_
  refine gs_eq0 rfl (fun c3 => ?_) (fun c3 => ?_)
  · rw [if_pos c3] at e
    refine gs_ldc (x := (-1000001)) rfl (by decide) ?_
    obtain rfl := inj1 e
    exact gs_iret rfl rfl rfl rfl rfl
  · rw [if_neg c3] at e
    refine gs_aload_n rfl rfl ?_
    refine gs_get rfl (gd_r (b := 39) rfl rfl rfl) ?_
    refine gs_iload_n rfl rfl ?_
    refine gs_iload_n rfl rfl ?_
    obtain ⟨r4, ec5, e⟩ := ob1_some e
    refine gs_callvI (st := []) rfl (pr_C_le (by decide) (th_X7_hasEdition L p1 p3 f r4 ec5)) rfl rfl rfl (by decide) rfl (Or.inr (by decide)) ?_
    refine gs_ne0 rfl (fun c6 => ?_) (fun c6 => ?_)
    · rw [if_neg c6] at e
      refine gs_aload_n rfl rfl ?_
      refine gs_get rfl (gd_r (b := 39) rfl rfl rfl) ?_
      refine gs_iload_n rfl rfl ?_
      refine gs_iload_n rfl rfl ?_
      obtain ⟨r7, ec8, e⟩ := ob1_some e
      refine gs_callvR (st := []) rfl (pr_C_le (by decide) (th_X7_editionOf L p1 p2 f r7 ec8)) rfl rfl rfl (by decide) rfl (Or.inr (by decide)) ?_
      refine gs_get rfl (gd_i (sh_of (fnk_X7_editionOf ec8) (by decide)) rfl) ?_
      refine gs_aload_n rfl rfl ?_
      refine gs_get rfl (gd_r (b := 39) rfl rfl rfl) ?_
      refine gs_iload_n rfl rfl ?_
      refine gs_iload_n rfl rfl ?_
      obtain ⟨r9, ec10, e⟩ := ob1_some e
      refine gs_callvR (st := [.int (f r7 1)]) rfl (pr_C_le (by decide) (th_X7_editionOf L p1 p3 f r9 ec10)) rfl rfl rfl (by decide) rfl (Or.inr (by decide)) ?_
      refine gs_get rfl (gd_i (sh_of (fnk_X7_editionOf ec10) (by decide)) rfl) ?_
      refine gs_iconst (x := (-1)) rfl (by decide) ?_
      refine gs_ixor rfl ?_
      refine gs_iand rfl ?_
      obtain rfl := inj1 e
      exact gs_iret rfl rfl rfl rfl rfl
    · rw [if_pos c6] at e
      refine gs_ldc (x := (-1000001)) rfl (by decide) ?_
      obtain rfl := inj1 e
      exact gs_iret rfl rfl rfl rfl rfl
