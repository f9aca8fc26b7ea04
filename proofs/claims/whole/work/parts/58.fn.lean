def lp_X9_quarrelOf_19 : Nat → Int32 → Int32 → Int32 → Int32 → pd_M → Option (Int32)
  | 0, _, _, _, _, _ => none
  | n + 1, z1, z2, z3, z4, f =>
    if z3 ≤ z4 then
    some (z2)
    else
    if z2 = 0 then
    ob1 (fn_X9_doQuarrel z1 (((1 : Int32) <<< (z3 &&& 31)) ||| ((1 : Int32) <<< (z4 &&& 31))) f) fun r5 =>
    ob1 (if r5 = 0 then
    some (0)
    else
    some ((((1 : Int32) <<< (z3 &&& 31)) ||| ((1 : Int32) <<< (z4 &&& 31))))) fun (v8 : Int32) =>
    pn (z4 + 1) fun x9 =>
    lp_X9_quarrelOf_19 n z1 v8 z3 x9 f
    else
    some (z2)
def lp_X9_quarrelOf_4 : Nat → Int32 → Int32 → Int32 → pd_M → Option (Int32)
  | 0, _, _, _, _ => none
  | n + 1, z1, z2, z3, f =>
    if (f 110 12) ≤ z3 then
    some (z2)
    else
    if z2 = 0 then
    ob1 (lp_X9_quarrelOf_19 5000 z1 z2 z3 0 f) fun y10 =>
    pn (z3 + 1) fun x12 =>
    lp_X9_quarrelOf_4 n z1 y10 x12 f
    else
    some (z2)
def lp_X9_quarrelOf_100 : Nat → Int32 → Int32 → Int32 → Int32 → Int32 → pd_M → Option (Int32)
  | 0, _, _, _, _, _, _ => none
  | n + 1, z1, z2, z3, z4, z5, f =>
    if z4 ≤ z5 then
    some (z2)
    else
    if z2 = 0 then
    ob1 (fn_X9_doQuarrel z1 ((((1 : Int32) <<< (z3 &&& 31)) ||| ((1 : Int32) <<< (z4 &&& 31))) ||| ((1 : Int32) <<< (z5 &&& 31))) f) fun r21 =>
    ob1 (if r21 = 0 then
    some (0)
    else
    some (((((1 : Int32) <<< (z3 &&& 31)) ||| ((1 : Int32) <<< (z4 &&& 31))) ||| ((1 : Int32) <<< (z5 &&& 31))))) fun (v24 : Int32) =>
    pn (z5 + 1) fun x25 =>
    lp_X9_quarrelOf_100 n z1 v24 z3 z4 x25 f
    else
    some (z2)
def lp_X9_quarrelOf_87 : Nat → Int32 → Int32 → Int32 → Int32 → pd_M → Option (Int32)
  | 0, _, _, _, _, _ => none
  | n + 1, z1, z2, z3, z4, f =>
    if z3 ≤ z4 then
    some (z2)
    else
    if z2 = 0 then
    ob1 (lp_X9_quarrelOf_100 5000 z1 z2 z3 z4 0 f) fun y26 =>
    pn (z4 + 1) fun x28 =>
    lp_X9_quarrelOf_87 n z1 y26 z3 x28 f
    else
    some (z2)
def lp_X9_quarrelOf_72 : Nat → Int32 → Int32 → Int32 → pd_M → Option (Int32)
  | 0, _, _, _, _ => none
  | n + 1, z1, z2, z3, f =>
    if (f 110 12) ≤ z3 then
    some (z2)
    else
    if z2 = 0 then
    ob1 (lp_X9_quarrelOf_87 5000 z1 z2 z3 0 f) fun y29 =>
    pn (z3 + 1) fun x31 =>
    lp_X9_quarrelOf_72 n z1 y29 x31 f
    else
    some (z2)
def fn_X9_quarrelOf (p1 : Int32) (f : pd_M) : Option (Int32) :=
  ob1 (lp_X9_quarrelOf_4 5000 p1 0 0 f) fun y13 =>
  ob1 (lp_X9_quarrelOf_72 5000 p1 y13 0 f) fun y32 =>
  some y32
set_option maxRecDepth 100000 in
set_option maxHeartbeats 4000000 in
theorem tl_X9_quarrelOf_19 (L : Nat) : ∀ (n : Nat) (z1 : Int32) (z2 : Int32) (z3 : Int32) (z4 : Int32) (f : pd_M) (w0 : Int32) (r : Option Value) (h2 : ph_T), lp_X9_quarrelOf_19 n z1 z2 z3 z4 f = some (w0) → pr_G L 1 mt_X9_quarrelOf (64, [(0, .ref 110), (1, .int z1), (2, .int w0), (3, .int z3)], [], hH f) r h2 → pr_G L 1 mt_X9_quarrelOf (19, [(0, .ref 110), (1, .int z1), (2, .int z2), (3, .int z3), (4, .int z4)], [], hH f) r h2 := by
  intro n
  induction n with
  | zero => intro z1 z2 z3 z4 f w0 r h2 e; cases e
  | succ n ih =>
    intro z1 z2 z3 z4 f w0 r h2 e K
    unfold lp_X9_quarrelOf_19 at e
    refine gs_iload rfl rfl ?_
    refine gs_iload_n rfl rfl ?_
    refine gs_ge2 rfl (fun c3 => ?_) (fun c3 => ?_)
    · rw [if_pos c3] at e
      obtain rfl := inj1 e
      refine gs_drop [0, 1, 2, 3] rfl ?_
      exact K
    · rw [if_neg c3] at e
      refine gs_iload_n rfl rfl ?_
      refine gs_ne0 rfl (fun c4 => ?_) (fun c4 => ?_)
      · rw [if_neg c4] at e
        obtain rfl := inj1 e
        refine gs_drop [0, 1, 2, 3] rfl ?_
        exact K
      · rw [if_pos c4] at e
        refine gs_aload_n rfl rfl ?_
        refine gs_iload_n rfl rfl ?_
        refine gs_iconst (x := 1) rfl (by decide) ?_
        refine gs_iload_n rfl rfl ?_
        refine gs_ishl rfl ?_
        refine gs_iconst (x := 1) rfl (by decide) ?_
        refine gs_iload rfl rfl ?_
        refine gs_ishl rfl ?_
        refine gs_ior rfl ?_
        obtain ⟨r5, ec6, e⟩ := ob1_some e
        refine gs_callvI (st := []) rfl (pr_C_le (by decide) (th_X9_doQuarrel L z1 (((1 : Int32) <<< (z3 &&& 31)) ||| ((1 : Int32) <<< (z4 &&& 31))) f r5 ec6)) rfl rfl rfl (by decide) rfl (Or.inr (by decide)) ?_
        obtain ⟨v8, ev57, e⟩ := ob1_some e
        have KJ57 : pr_G L 1 mt_X9_quarrelOf (57, [(0, .ref 110), (1, .int z1), (3, .int z3), (4, .int z4)], [.int v8], hH f) r h2 := by
          refine gs_istore_n (lv' := [(2, .int v8), (0, .ref 110), (1, .int z1), (3, .int z3), (4, .int z4)]) rfl rfl ?_
          obtain ⟨x9, hx9, e⟩ := pn_some e
          refine gs_iinc1 (x1 := x9) (c := 1) (lv' := [(4, .int x9), (2, .int v8), (0, .ref 110), (1, .int z1), (3, .int z3)]) rfl rfl (by decide) hx9 rfl ?_
          refine gs_goto rfl ?_
          refine gs_drop [2, 3, 1, 4, 0] rfl ?_
          exact ih z1 v8 z3 x9 f w0 _ _ e K
        have e := ev57
        clear ev57
        refine gs_eq0 rfl (fun c7 => ?_) (fun c7 => ?_)
        · rw [if_pos c7] at e
          refine gs_iconst (x := 0) rfl (by decide) ?_
          obtain rfl := inj1 e
          refine gs_drop [0, 1, 3, 4] rfl ?_
          exact KJ57
        · rw [if_neg c7] at e
          refine gs_iconst (x := 1) rfl (by decide) ?_
          refine gs_iload_n rfl rfl ?_
          refine gs_ishl rfl ?_
          refine gs_iconst (x := 1) rfl (by decide) ?_
          refine gs_iload rfl rfl ?_
          refine gs_ishl rfl ?_
          refine gs_ior rfl ?_
          refine gs_goto rfl ?_
          obtain rfl := inj1 e
          refine gs_drop [0, 1, 3, 4] rfl ?_
          exact KJ57
set_option maxRecDepth 100000 in
set_option maxHeartbeats 4000000 in
theorem tl_X9_quarrelOf_4 (L : Nat) : ∀ (n : Nat) (z1 : Int32) (z2 : Int32) (z3 : Int32) (f : pd_M) (w0 : Int32) (r : Option Value) (h2 : ph_T), lp_X9_quarrelOf_4 n z1 z2 z3 f = some (w0) → pr_G L 1 mt_X9_quarrelOf (70, [(0, .ref 110), (1, .int z1), (2, .int w0)], [], hH f) r h2 → pr_G L 1 mt_X9_quarrelOf (4, [(0, .ref 110), (1, .int z1), (2, .int z2), (3, .int z3)], [], hH f) r h2 := by
  intro n
  induction n with
  | zero => intro z1 z2 z3 f w0 r h2 e; cases e
  | succ n ih =>
    intro z1 z2 z3 f w0 r h2 e K
    unfold lp_X9_quarrelOf_4 at e
    refine gs_iload_n rfl rfl ?_
    refine gs_aload_n rfl rfl ?_
    refine gs_get rfl (gd_i rfl rfl) ?_
    refine gs_ge2 rfl (fun c1 => ?_) (fun c1 => ?_)
    · rw [if_pos c1] at e
      obtain rfl := inj1 e
      refine gs_drop [0, 1, 2] rfl ?_
      exact K
    · rw [if_neg c1] at e
      refine gs_iload_n rfl rfl ?_
      refine gs_ne0 rfl (fun c2 => ?_) (fun c2 => ?_)
      · rw [if_neg c2] at e
        obtain rfl := inj1 e
        refine gs_drop [0, 1, 2] rfl ?_
        exact K
      · rw [if_pos c2] at e
        refine gs_iconst (x := 0) rfl (by decide) ?_
        refine gs_istore (lv' := [(4, .int 0), (0, .ref 110), (1, .int z1), (2, .int z2), (3, .int z3)]) rfl rfl ?_
        refine gs_drop [1, 2, 3, 4, 0] rfl ?_
        obtain ⟨y10, el11, e⟩ := ob1_some e
        refine tl_X9_quarrelOf_19 L 5000 z1 z2 z3 0 f y10 _ _ el11 ?_
        obtain ⟨x12, hx12, e⟩ := pn_some e
        refine gs_iinc1 (x1 := x12) (c := 1) (lv' := [(3, .int x12), (0, .ref 110), (1, .int z1), (2, .int y10)]) rfl rfl (by decide) hx12 rfl ?_
        refine gs_goto rfl ?_
        refine gs_drop [1, 2, 3, 0] rfl ?_
        exact ih z1 y10 x12 f w0 _ _ e K
set_option maxRecDepth 100000 in
set_option maxHeartbeats 4000000 in
theorem tl_X9_quarrelOf_100 (L : Nat) : ∀ (n : Nat) (z1 : Int32) (z2 : Int32) (z3 : Int32) (z4 : Int32) (z5 : Int32) (f : pd_M) (w0 : Int32) (r : Option Value) (h2 : ph_T), lp_X9_quarrelOf_100 n z1 z2 z3 z4 z5 f = some (w0) → pr_G L 1 mt_X9_quarrelOf (156, [(0, .ref 110), (1, .int z1), (2, .int w0), (3, .int z3), (4, .int z4)], [], hH f) r h2 → pr_G L 1 mt_X9_quarrelOf (100, [(0, .ref 110), (1, .int z1), (2, .int z2), (3, .int z3), (4, .int z4), (5, .int z5)], [], hH f) r h2 := by
  intro n
  induction n with
  | zero => intro z1 z2 z3 z4 z5 f w0 r h2 e; cases e
  | succ n ih =>
    intro z1 z2 z3 z4 z5 f w0 r h2 e K
    unfold lp_X9_quarrelOf_100 at e
    refine gs_iload rfl rfl ?_
    refine gs_iload rfl rfl ?_
    refine gs_ge2 rfl (fun c19 => ?_) (fun c19 => ?_)
    · rw [if_pos c19] at e
      obtain rfl := inj1 e
      refine gs_drop [0, 1, 2, 3, 4] rfl ?_
      exact K
    · rw [if_neg c19] at e
      refine gs_iload_n rfl rfl ?_
      refine gs_ne0 rfl (fun c20 => ?_) (fun c20 => ?_)
      · rw [if_neg c20] at e
        obtain rfl := inj1 e
        refine gs_drop [0, 1, 2, 3, 4] rfl ?_
        exact K
      · rw [if_pos c20] at e
        refine gs_aload_n rfl rfl ?_
        refine gs_iload_n rfl rfl ?_
        refine gs_iconst (x := 1) rfl (by decide) ?_
        refine gs_iload_n rfl rfl ?_
        refine gs_ishl rfl ?_
        refine gs_iconst (x := 1) rfl (by decide) ?_
        refine gs_iload rfl rfl ?_
        refine gs_ishl rfl ?_
        refine gs_ior rfl ?_
        refine gs_iconst (x := 1) rfl (by decide) ?_
        refine gs_iload rfl rfl ?_
        refine gs_ishl rfl ?_
        refine gs_ior rfl ?_
        obtain ⟨r21, ec22, e⟩ := ob1_some e
        refine gs_callvI (st := []) rfl (pr_C_le (by decide) (th_X9_doQuarrel L z1 ((((1 : Int32) <<< (z3 &&& 31)) ||| ((1 : Int32) <<< (z4 &&& 31))) ||| ((1 : Int32) <<< (z5 &&& 31))) f r21 ec22)) rfl rfl rfl (by decide) rfl (Or.inr (by decide)) ?_
        obtain ⟨v24, ev149, e⟩ := ob1_some e
        have KJ149 : pr_G L 1 mt_X9_quarrelOf (149, [(0, .ref 110), (1, .int z1), (3, .int z3), (4, .int z4), (5, .int z5)], [.int v24], hH f) r h2 := by
          refine gs_istore_n (lv' := [(2, .int v24), (0, .ref 110), (1, .int z1), (3, .int z3), (4, .int z4), (5, .int z5)]) rfl rfl ?_
          obtain ⟨x25, hx25, e⟩ := pn_some e
          refine gs_iinc1 (x1 := x25) (c := 1) (lv' := [(5, .int x25), (2, .int v24), (0, .ref 110), (1, .int z1), (3, .int z3), (4, .int z4)]) rfl rfl (by decide) hx25 rfl ?_
          refine gs_goto rfl ?_
          refine gs_drop [2, 3, 1, 4, 5, 0] rfl ?_
          exact ih z1 v24 z3 z4 x25 f w0 _ _ e K
        have e := ev149
        clear ev149
        refine gs_eq0 rfl (fun c23 => ?_) (fun c23 => ?_)
        · rw [if_pos c23] at e
          refine gs_iconst (x := 0) rfl (by decide) ?_
          obtain rfl := inj1 e
          refine gs_drop [0, 1, 3, 4, 5] rfl ?_
          exact KJ149
        · rw [if_neg c23] at e
          refine gs_iconst (x := 1) rfl (by decide) ?_
          refine gs_iload_n rfl rfl ?_
          refine gs_ishl rfl ?_
          refine gs_iconst (x := 1) rfl (by decide) ?_
          refine gs_iload rfl rfl ?_
          refine gs_ishl rfl ?_
          refine gs_ior rfl ?_
          refine gs_iconst (x := 1) rfl (by decide) ?_
          refine gs_iload rfl rfl ?_
          refine gs_ishl rfl ?_
          refine gs_ior rfl ?_
          refine gs_goto rfl ?_
          obtain rfl := inj1 e
          refine gs_drop [0, 1, 3, 4, 5] rfl ?_
          exact KJ149
set_option maxRecDepth 100000 in
set_option maxHeartbeats 4000000 in
theorem tl_X9_quarrelOf_87 (L : Nat) : ∀ (n : Nat) (z1 : Int32) (z2 : Int32) (z3 : Int32) (z4 : Int32) (f : pd_M) (w0 : Int32) (r : Option Value) (h2 : ph_T), lp_X9_quarrelOf_87 n z1 z2 z3 z4 f = some (w0) → pr_G L 1 mt_X9_quarrelOf (162, [(0, .ref 110), (1, .int z1), (2, .int w0), (3, .int z3)], [], hH f) r h2 → pr_G L 1 mt_X9_quarrelOf (87, [(0, .ref 110), (1, .int z1), (2, .int z2), (3, .int z3), (4, .int z4)], [], hH f) r h2 := by
  intro n
  induction n with
  | zero => intro z1 z2 z3 z4 f w0 r h2 e; cases e
  | succ n ih =>
    intro z1 z2 z3 z4 f w0 r h2 e K
    unfold lp_X9_quarrelOf_87 at e
    refine gs_iload rfl rfl ?_
    refine gs_iload_n rfl rfl ?_
    refine gs_ge2 rfl (fun c17 => ?_) (fun c17 => ?_)
    · rw [if_pos c17] at e
      obtain rfl := inj1 e
      refine gs_drop [0, 1, 2, 3] rfl ?_
      exact K
    · rw [if_neg c17] at e
      refine gs_iload_n rfl rfl ?_
      refine gs_ne0 rfl (fun c18 => ?_) (fun c18 => ?_)
      · rw [if_neg c18] at e
        obtain rfl := inj1 e
        refine gs_drop [0, 1, 2, 3] rfl ?_
        exact K
      · rw [if_pos c18] at e
        refine gs_iconst (x := 0) rfl (by decide) ?_
        refine gs_istore (lv' := [(5, .int 0), (0, .ref 110), (1, .int z1), (2, .int z2), (3, .int z3), (4, .int z4)]) rfl rfl ?_
        refine gs_drop [1, 2, 3, 4, 5, 0] rfl ?_
        obtain ⟨y26, el27, e⟩ := ob1_some e
        refine tl_X9_quarrelOf_100 L 5000 z1 z2 z3 z4 0 f y26 _ _ el27 ?_
        obtain ⟨x28, hx28, e⟩ := pn_some e
        refine gs_iinc1 (x1 := x28) (c := 1) (lv' := [(4, .int x28), (0, .ref 110), (1, .int z1), (2, .int y26), (3, .int z3)]) rfl rfl (by decide) hx28 rfl ?_
        refine gs_goto rfl ?_
        refine gs_drop [1, 2, 3, 4, 0] rfl ?_
        exact ih z1 y26 z3 x28 f w0 _ _ e K
set_option maxRecDepth 100000 in
set_option maxHeartbeats 4000000 in
theorem tl_X9_quarrelOf_72 (L : Nat) : ∀ (n : Nat) (z1 : Int32) (z2 : Int32) (z3 : Int32) (f : pd_M) (w0 : Int32) (r : Option Value) (h2 : ph_T), lp_X9_quarrelOf_72 n z1 z2 z3 f = some (w0) → pr_G L 1 mt_X9_quarrelOf (168, [(2, .int w0)], [], hH f) r h2 → pr_G L 1 mt_X9_quarrelOf (72, [(0, .ref 110), (1, .int z1), (2, .int z2), (3, .int z3)], [], hH f) r h2 := by
  intro n
  induction n with
  | zero => intro z1 z2 z3 f w0 r h2 e; cases e
  | succ n ih =>
    intro z1 z2 z3 f w0 r h2 e K
    unfold lp_X9_quarrelOf_72 at e
    refine gs_iload_n rfl rfl ?_
    refine gs_aload_n rfl rfl ?_
    refine gs_get rfl (gd_i rfl rfl) ?_
    refine gs_ge2 rfl (fun c15 => ?_) (fun c15 => ?_)
    · rw [if_pos c15] at e
      obtain rfl := inj1 e
      refine gs_drop [2] rfl ?_
      exact K
    · rw [if_neg c15] at e
      refine gs_iload_n rfl rfl ?_
      refine gs_ne0 rfl (fun c16 => ?_) (fun c16 => ?_)
      · rw [if_neg c16] at e
        obtain rfl := inj1 e
        refine gs_drop [2] rfl ?_
        exact K
      · rw [if_pos c16] at e
        refine gs_iconst (x := 0) rfl (by decide) ?_
        refine gs_istore (lv' := [(4, .int 0), (0, .ref 110), (1, .int z1), (2, .int z2), (3, .int z3)]) rfl rfl ?_
        refine gs_drop [1, 2, 3, 4, 0] rfl ?_
        obtain ⟨y29, el30, e⟩ := ob1_some e
        refine tl_X9_quarrelOf_87 L 5000 z1 z2 z3 0 f y29 _ _ el30 ?_
        obtain ⟨x31, hx31, e⟩ := pn_some e
        refine gs_iinc1 (x1 := x31) (c := 1) (lv' := [(3, .int x31), (0, .ref 110), (1, .int z1), (2, .int y29)]) rfl rfl (by decide) hx31 rfl ?_
        refine gs_goto rfl ?_
        refine gs_drop [1, 2, 3, 0] rfl ?_
        exact ih z1 y29 x31 f w0 _ _ e K
set_option maxRecDepth 100000 in
set_option maxHeartbeats 4000000 in
theorem th_X9_quarrelOf (L : Nat) (p1 : Int32) (f : pd_M) (q : Int32) (e : fn_X9_quarrelOf p1 f = some q) : pr_C L 2 159 [.ref 110, .int p1] (hH f) (some (.int q)) (hH f) := by
  refine pr_C.of (G := mt_X9_quarrelOf) rfl rfl ?_
  show pr_G L 1 mt_X9_quarrelOf (0, [(0, .ref 110), (1, .int p1)], [], hH f) _ _
  unfold fn_X9_quarrelOf at e
  refine gs_iconst (x := 0) rfl (by decide) ?_
  refine gs_istore_n (lv' := [(2, .int 0), (0, .ref 110), (1, .int p1)]) rfl rfl ?_
  refine gs_iconst (x := 0) rfl (by decide) ?_
  refine gs_istore_n (lv' := [(3, .int 0), (2, .int 0), (0, .ref 110), (1, .int p1)]) rfl rfl ?_
  refine gs_drop [2, 3, 1, 0] rfl ?_
  obtain ⟨y13, el14, e⟩ := ob1_some e
  refine tl_X9_quarrelOf_4 L 5000 p1 0 0 f y13 _ _ el14 ?_
  refine gs_iconst (x := 0) rfl (by decide) ?_
  refine gs_istore_n (lv' := [(3, .int 0), (0, .ref 110), (1, .int p1), (2, .int y13)]) rfl rfl ?_
  refine gs_drop [1, 2, 3, 0] rfl ?_
  obtain ⟨y32, el33, e⟩ := ob1_some e
  refine tl_X9_quarrelOf_72 L 5000 p1 y13 0 f y32 _ _ el33 ?_
  refine gs_iload_n rfl rfl ?_
  obtain rfl := inj1 e
  exact gs_iret rfl rfl rfl rfl rfl
def fn_X9_quarrel (p1 : Int32) (f : pd_M) : Option (Int32 × pd_M) :=
  pn ((pi_up f 110 0 0)) fun f1 =>
  ob1 (fn_X9_isService p1) fun r2 =>
  if r2 = 0 then
  some ((-1000001), f1)
  else
  ob1 (fn_X9_quarrelOf p1 f1) fun r5 =>
  some (r5, f1)
set_option maxRecDepth 100000 in
set_option maxHeartbeats 4000000 in
theorem th_X9_quarrel (L : Nat) (p1 : Int32) (f : pd_M) (q : Int32) (g : pd_M) (e : fn_X9_quarrel p1 f = some (q, g)) : pr_C L 3 160 [.ref 110, .int p1] (hH f) (some (.int q)) (hH g) := by
  refine pr_C.of (G := mt_X9_quarrel) rfl rfl ?_
  show pr_G L 2 mt_X9_quarrel (0, [(0, .ref 110), (1, .int p1)], [], hH f) _ _
  unfold fn_X9_quarrel at e
  refine gs_aload_n rfl rfl ?_
  refine gs_iconst (x := 0) rfl (by decide) ?_
  refine gs_put rfl (gd_pi rfl rfl) ?_
  obtain ⟨f1, hf1, e⟩ := pn_some e
  refine gs_heap hf1 ?_
  refine gs_iload_n rfl rfl ?_
  obtain ⟨r2, ec3, e⟩ := ob1_some e
  refine gs_callsI (st := []) rfl (pr_C_le (by decide) (th_X9_isService L p1 f1 r2 ec3)) rfl rfl rfl (by decide) ?_
  refine gs_eq0 rfl (fun c4 => ?_) (fun c4 => ?_)
  · rw [if_pos c4] at e
    refine gs_ldc (x := (-1000001)) rfl (by decide) ?_
    obtain ⟨rfl, rfl⟩ := inj2 e
    exact gs_iret rfl rfl rfl rfl rfl
  · rw [if_neg c4] at e
    refine gs_aload_n rfl rfl ?_
    refine gs_iload_n rfl rfl ?_
    obtain ⟨r5, ec6, e⟩ := ob1_some e
    refine gs_callvI (st := []) rfl (pr_C_le (by decide) (th_X9_quarrelOf L p1 f1 r5 ec6)) rfl rfl rfl (by decide) rfl (Or.inr (by decide)) ?_
    refine gs_goto rfl ?_
    obtain ⟨rfl, rfl⟩ := inj2 e
    exact gs_iret rfl rfl rfl rfl rfl
def lp_X9_change_32 : Nat → Int32 → Int32 → Int32 → Int32 → Int32 → pd_M → Option (Int32)
  | 0, _, _, _, _, _, _ => none
  | n + 1, z1, z2, z3, z4, z5, f =>
    if (f 110 12) ≤ z5 then
    some (z4)
    else
    if pa_in z5 20 = true then
    ob1 (if (f 123 z5.toNatClampNeg) = z1 then
    ob1 (fn_X9_isKept z5 z2 f) fun r12 =>
    if r12 = 0 then
    some (0)
    else
    ob1 (fn_X9_isKept z5 z3 f) fun r15 =>
    if r15 = 0 then
    some (((1 : Int32) <<< (z5 &&& 31)))
    else
    some (0)
    else
    some (0)) fun (v11 : Int32) =>
    pn ((z4 ||| v11)) fun x18 =>
    pn (z5 + 1) fun x19 =>
    lp_X9_change_32 n z1 z2 z3 x18 x19 f
    else none
def fn_X9_change (p1 : Int32) (p2 : Int32) (p3 : Int32) (f : pd_M) : Option (Int32 × pd_M) :=
  pn ((pi_up f 110 0 0)) fun f1 =>
  ob1 (fn_X9_isEdition p1 p2 f1) fun r2 =>
  if r2 = 0 then
  some ((-1000001), f1)
  else
  ob1 (fn_X9_isEdition p1 p3 f1) fun r5 =>
  if r5 = 0 then
  some ((-1000001), f1)
  else
  ob1 (lp_X9_change_32 5000 p1 p2 p3 0 0 f1) fun y20 =>
  some (y20, f1)
set_option maxRecDepth 100000 in
set_option maxHeartbeats 4000000 in
theorem tl_X9_change_32 (L : Nat) : ∀ (n : Nat) (z1 : Int32) (z2 : Int32) (z3 : Int32) (z4 : Int32) (z5 : Int32) (f : pd_M) (w0 : Int32) (r : Option Value) (h2 : ph_T), lp_X9_change_32 n z1 z2 z3 z4 z5 f = some (w0) → pr_G L 4 mt_X9_change (91, [(4, .int w0)], [], hH f) r h2 → pr_G L 4 mt_X9_change (32, [(0, .ref 110), (1, .int z1), (2, .int z2), (3, .int z3), (4, .int z4), (5, .int z5)], [], hH f) r h2 := by
  intro n
  induction n with
  | zero => intro z1 z2 z3 z4 z5 f w0 r h2 e; cases e
  | succ n ih =>
    intro z1 z2 z3 z4 z5 f w0 r h2 e K
    unfold lp_X9_change_32 at e
    refine gs_iload rfl rfl ?_
    refine gs_aload_n rfl rfl ?_
    refine gs_get rfl (gd_i rfl rfl) ?_
    refine gs_ge2 rfl (fun c8 => ?_) (fun c8 => ?_)
    · rw [if_pos c8] at e
      obtain rfl := inj1 e
      refine gs_drop [4] rfl ?_
      exact K
    · rw [if_neg c8] at e
      refine gs_iload rfl rfl ?_
      refine gs_aload_n rfl rfl ?_
      refine gs_get rfl (gd_r (b := 123) rfl rfl rfl) ?_
      refine gs_iload rfl rfl ?_
      by_cases hb9 : pa_in z5 20 = true
      case neg => rw [if_neg hb9] at e; cases e
      rw [if_pos hb9] at e
      refine gs_iald rfl (gd_ia (j := z5.toNatClampNeg) rfl hb9 rfl) ?_
      refine gs_iload_n rfl rfl ?_
      obtain ⟨v11, ev82, e⟩ := ob1_some e
      have KJ82 : pr_G L 4 mt_X9_change (82, [(0, .ref 110), (1, .int z1), (2, .int z2), (3, .int z3), (5, .int z5)], [.int v11, .int z4], hH f) r h2 := by
        refine gs_ior rfl ?_
        obtain ⟨x18, hx18, e⟩ := pn_some e
        refine gs_topi hx18 ?_
        refine gs_istore (lv' := [(4, .int x18), (0, .ref 110), (1, .int z1), (2, .int z2), (3, .int z3), (5, .int z5)]) rfl rfl ?_
        obtain ⟨x19, hx19, e⟩ := pn_some e
        refine gs_iinc1 (x1 := x19) (c := 1) (lv' := [(5, .int x19), (4, .int x18), (0, .ref 110), (1, .int z1), (2, .int z2), (3, .int z3)]) rfl rfl (by decide) hx19 rfl ?_
        refine gs_goto rfl ?_
        refine gs_drop [2, 3, 4, 5, 1, 0] rfl ?_
        exact ih z1 z2 z3 x18 x19 f w0 _ _ e K
      have e := ev82
      clear ev82
      refine gs_ne2 rfl (fun c10 => ?_) (fun c10 => ?_)
      · rw [if_neg c10] at e
        refine gs_iconst (x := 0) rfl (by decide) ?_
        obtain rfl := inj1 e
        refine gs_drop [0, 1, 2, 3, 5] rfl ?_
        exact KJ82
      · rw [if_pos c10] at e
        refine gs_aload_n rfl rfl ?_
        refine gs_iload rfl rfl ?_
        refine gs_iload_n rfl rfl ?_
        obtain ⟨r12, ec13, e⟩ := ob1_some e
        refine gs_callvI (st := [.int z4]) rfl (pr_C_le (by decide) (th_X9_isKept L z5 z2 f r12 ec13)) rfl rfl rfl (by decide) rfl (Or.inr (by decide)) ?_
        refine gs_eq0 rfl (fun c14 => ?_) (fun c14 => ?_)
        · rw [if_pos c14] at e
          refine gs_iconst (x := 0) rfl (by decide) ?_
          obtain rfl := inj1 e
          refine gs_drop [0, 1, 2, 3, 5] rfl ?_
          exact KJ82
        · rw [if_neg c14] at e
          refine gs_aload_n rfl rfl ?_
          refine gs_iload rfl rfl ?_
          refine gs_iload_n rfl rfl ?_
          obtain ⟨r15, ec16, e⟩ := ob1_some e
          refine gs_callvI (st := [.int z4]) rfl (pr_C_le (by decide) (th_X9_isKept L z5 z3 f r15 ec16)) rfl rfl rfl (by decide) rfl (Or.inr (by decide)) ?_
          refine gs_ne0 rfl (fun c17 => ?_) (fun c17 => ?_)
          · rw [if_neg c17] at e
            refine gs_iconst (x := 0) rfl (by decide) ?_
            obtain rfl := inj1 e
            refine gs_drop [0, 1, 2, 3, 5] rfl ?_
            exact KJ82
          · rw [if_pos c17] at e
            refine gs_iconst (x := 1) rfl (by decide) ?_
            refine gs_iload rfl rfl ?_
            refine gs_ishl rfl ?_
            refine gs_goto rfl ?_
            obtain rfl := inj1 e
            refine gs_drop [0, 1, 2, 3, 5] rfl ?_
            exact KJ82
set_option maxRecDepth 100000 in
set_option maxHeartbeats 4000000 in
theorem th_X9_change (L : Nat) (p1 : Int32) (p2 : Int32) (p3 : Int32) (f : pd_M) (q : Int32) (g : pd_M) (e : fn_X9_change p1 p2 p3 f = some (q, g)) : pr_C L 5 161 [.ref 110, .int p1, .int p2, .int p3] (hH f) (some (.int q)) (hH g) := by
  refine pr_C.of (G := mt_X9_change) rfl rfl ?_
  show pr_G L 4 mt_X9_change (0, [(0, .ref 110), (1, .int p1), (2, .int p2), (3, .int p3)], [], hH f) _ _
  unfold fn_X9_change at e
  refine gs_aload_n rfl rfl ?_
  refine gs_iconst (x := 0) rfl (by decide) ?_
  refine gs_put rfl (gd_pi rfl rfl) ?_
  obtain ⟨f1, hf1, e⟩ := pn_some e
  refine gs_heap hf1 ?_
  refine gs_aload_n rfl rfl ?_
  refine gs_iload_n rfl rfl ?_
  refine gs_iload_n rfl rfl ?_
  obtain ⟨r2, ec3, e⟩ := ob1_some e
  refine gs_callvI (st := []) rfl (pr_C_le (by decide) (th_X9_isEdition L p1 p2 f1 r2 ec3)) rfl rfl rfl (by decide) rfl (Or.inr (by decide)) ?_
  refine gs_eq0 rfl (fun c4 => ?_) (fun c4 => ?_)
  · rw [if_pos c4] at e
    refine gs_ldc (x := (-1000001)) rfl (by decide) ?_
    obtain ⟨rfl, rfl⟩ := inj2 e
    exact gs_iret rfl rfl rfl rfl rfl
  · rw [if_neg c4] at e
    refine gs_aload_n rfl rfl ?_
    refine gs_iload_n rfl rfl ?_
    refine gs_iload_n rfl rfl ?_
    obtain ⟨r5, ec6, e⟩ := ob1_some e
    refine gs_callvI (st := []) rfl (pr_C_le (by decide) (th_X9_isEdition L p1 p3 f1 r5 ec6)) rfl rfl rfl (by decide) rfl (Or.inr (by decide)) ?_
    refine gs_ne0 rfl (fun c7 => ?_) (fun c7 => ?_)
    · rw [if_neg c7] at e
      refine gs_iconst (x := 0) rfl (by decide) ?_
      refine gs_istore (lv' := [(4, .int 0), (0, .ref 110), (1, .int p1), (2, .int p2), (3, .int p3)]) rfl rfl ?_
      refine gs_iconst (x := 0) rfl (by decide) ?_
      refine gs_istore (lv' := [(5, .int 0), (4, .int 0), (0, .ref 110), (1, .int p1), (2, .int p2), (3, .int p3)]) rfl rfl ?_
      refine gs_drop [2, 3, 4, 5, 1, 0] rfl ?_
      obtain ⟨y20, el21, e⟩ := ob1_some e
      refine tl_X9_change_32 L 5000 p1 p2 p3 0 0 f1 y20 _ _ el21 ?_
      refine gs_iload rfl rfl ?_
      obtain ⟨rfl, rfl⟩ := inj2 e
      exact gs_iret rfl rfl rfl rfl rfl
    · rw [if_pos c7] at e
      refine gs_ldc (x := (-1000001)) rfl (by decide) ?_
      obtain ⟨rfl, rfl⟩ := inj2 e
      exact gs_iret rfl rfl rfl rfl rfl
def fn_X9_right (p1 : Int32) (f : pd_M) : Option (Int32 × pd_M) :=
  pn ((pi_up f 110 0 0)) fun f1 =>
  ob1 (fn_X9_isSaying p1 f1) fun r2 =>
  if r2 = 0 then
  some ((-1000001), f1)
  else
  if pa_in p1 20 = true then
  if pa_in p1 20 = true then
  if pa_in p1 20 = true then
  if pa_in ((4 * (f1 121 p1.toNatClampNeg)) + (f1 122 p1.toNatClampNeg)) 16 = true then
  some (((f1 128 p1.toNatClampNeg) &&& ((f1 130 ((4 * (f1 121 p1.toNatClampNeg)) + (f1 122 p1.toNatClampNeg)).toNatClampNeg) ^^^ (-1))), f1)
  else none
  else none
  else none
  else none
set_option maxRecDepth 100000 in
set_option maxHeartbeats 4000000 in
theorem th_X9_right (L : Nat) (p1 : Int32) (f : pd_M) (q : Int32) (g : pd_M) (e : fn_X9_right p1 f = some (q, g)) : pr_C L 3 162 [.ref 110, .int p1] (hH f) (some (.int q)) (hH g) := by
  refine pr_C.of (G := mt_X9_right) rfl rfl ?_
  show pr_G L 2 mt_X9_right (0, [(0, .ref 110), (1, .int p1)], [], hH f) _ _
  unfold fn_X9_right at e
  refine gs_aload_n rfl rfl ?_
  refine gs_iconst (x := 0) rfl (by decide) ?_
  refine gs_put rfl (gd_pi rfl rfl) ?_
  obtain ⟨f1, hf1, e⟩ := pn_some e
  refine gs_heap hf1 ?_
  refine gs_aload_n rfl rfl ?_
  refine gs_iload_n rfl rfl ?_
  obtain ⟨r2, ec3, e⟩ := ob1_some e
  refine gs_callvI (st := []) rfl (pr_C_le (by decide) (th_X9_isSaying L p1 f1 r2 ec3)) rfl rfl rfl (by decide) rfl (Or.inr (by decide)) ?_
  refine gs_eq0 rfl (fun c4 => ?_) (fun c4 => ?_)
  · rw [if_pos c4] at e
    refine gs_ldc (x := (-1000001)) rfl (by decide) ?_
    obtain ⟨rfl, rfl⟩ := inj2 e
    exact gs_iret rfl rfl rfl rfl rfl
  · rw [if_neg c4] at e
    refine gs_aload_n rfl rfl ?_
    refine gs_get rfl (gd_r (b := 128) rfl rfl rfl) ?_
    refine gs_iload_n rfl rfl ?_
    by_cases hb5 : pa_in p1 20 = true
    case neg => rw [if_neg hb5] at e; cases e
    rw [if_pos hb5] at e
    refine gs_iald rfl (gd_ia (j := p1.toNatClampNeg) rfl hb5 rfl) ?_
    refine gs_aload_n rfl rfl ?_
    refine gs_get rfl (gd_r (b := 130) rfl rfl rfl) ?_
    refine gs_iconst (x := 4) rfl (by decide) ?_
    refine gs_aload_n rfl rfl ?_
    refine gs_get rfl (gd_r (b := 121) rfl rfl rfl) ?_
    refine gs_iload_n rfl rfl ?_
    by_cases hb6 : pa_in p1 20 = true
    case neg => rw [if_neg hb6] at e; cases e
    rw [if_pos hb6] at e
    refine gs_iald rfl (gd_ia (j := p1.toNatClampNeg) rfl hb6 rfl) ?_
    refine gs_imul rfl ?_
    refine gs_aload_n rfl rfl ?_
    refine gs_get rfl (gd_r (b := 122) rfl rfl rfl) ?_
    refine gs_iload_n rfl rfl ?_
    by_cases hb7 : pa_in p1 20 = true
    case neg => rw [if_neg hb7] at e; cases e
    rw [if_pos hb7] at e
    refine gs_iald rfl (gd_ia (j := p1.toNatClampNeg) rfl hb7 rfl) ?_
    refine gs_iadd rfl ?_
    by_cases hb8 : pa_in ((4 * (f1 121 p1.toNatClampNeg)) + (f1 122 p1.toNatClampNeg)) 16 = true
    case neg => rw [if_neg hb8] at e; cases e
    rw [if_pos hb8] at e
    refine gs_iald rfl (gd_ia (j := ((4 * (f1 121 p1.toNatClampNeg)) + (f1 122 p1.toNatClampNeg)).toNatClampNeg) rfl hb8 rfl) ?_
    refine gs_iconst (x := (-1)) rfl (by decide) ?_
    refine gs_ixor rfl ?_
    refine gs_iand rfl ?_
    refine gs_goto rfl ?_
    obtain ⟨rfl, rfl⟩ := inj2 e
    exact gs_iret rfl rfl rfl rfl rfl
def fn_X9_figure (p1 : Int32) (p2 : Int32) : Int32 :=
  if p2 = 0 then
  (p1 - p1 / 5 * 5)
  else
  if p2 = 1 then
  ((p1 / 5) - (p1 / 5) / 5 * 5)
  else
  if p2 = 2 then
  ((p1 / 25) - (p1 / 25) / 5 * 5)
  else
  (p1 / 125)
set_option maxRecDepth 100000 in
set_option maxHeartbeats 4000000 in
theorem th_X9_figure (L : Nat) (p1 : Int32) (p2 : Int32) (f : pd_M) (q : Int32) (e : fn_X9_figure p1 p2 = q) : pr_C L 1 163 [.int p1, .int p2] (hH f) (some (.int q)) (hH f) := by
  refine pr_C.of (G := mt_X9_figure) rfl rfl ?_
  show pr_G L 0 mt_X9_figure (0, [(0, .int p1), (1, .int p2)], [], hH f) _ _
  unfold fn_X9_figure at e
  refine gs_iload_n rfl rfl ?_
  refine gs_ne0 rfl (fun c1 => ?_) (fun c1 => ?_)
  · rw [if_neg c1] at e
    refine gs_iload_n rfl rfl ?_
    refine gs_iconst (x := 1) rfl (by decide) ?_
    refine gs_ne2 rfl (fun c2 => ?_) (fun c2 => ?_)
    · rw [if_neg c2] at e
      refine gs_iload_n rfl rfl ?_
      refine gs_iconst (x := 2) rfl (by decide) ?_
      refine gs_ne2 rfl (fun c3 => ?_) (fun c3 => ?_)
      · rw [if_neg c3] at e
        refine gs_iload_n rfl rfl ?_
        refine gs_bipush (x := 125) rfl (by decide) ?_
        refine gs_idiv rfl (by decide) ?_
        subst e
        exact gs_iret rfl rfl rfl rfl rfl
      · rw [if_pos c3] at e
        refine gs_iload_n rfl rfl ?_
        refine gs_bipush (x := 25) rfl (by decide) ?_
        refine gs_idiv rfl (by decide) ?_
        refine gs_iconst (x := 5) rfl (by decide) ?_
        refine gs_irem rfl (by decide) ?_
        refine gs_goto rfl ?_
        subst e
        exact gs_iret rfl rfl rfl rfl rfl
    · rw [if_pos c2] at e
      refine gs_iload_n rfl rfl ?_
      refine gs_iconst (x := 5) rfl (by decide) ?_
      refine gs_idiv rfl (by decide) ?_
      refine gs_iconst (x := 5) rfl (by decide) ?_
      refine gs_irem rfl (by decide) ?_
      refine gs_goto rfl ?_
      subst e
      exact gs_iret rfl rfl rfl rfl rfl
  · rw [if_pos c1] at e
    refine gs_iload_n rfl rfl ?_
    refine gs_iconst (x := 5) rfl (by decide) ?_
    refine gs_irem rfl (by decide) ?_
    refine gs_goto rfl ?_
    subst e
    exact gs_iret rfl rfl rfl rfl rfl
def fn_X9_worth (p1 : Int32) : Int32 :=
  if p1 = 0 then
  1
  else
  if p1 = 1 then
  5
  else
  if p1 = 2 then
  25
  else
  125
set_option maxRecDepth 100000 in
set_option maxHeartbeats 4000000 in
theorem th_X9_worth (L : Nat) (p1 : Int32) (f : pd_M) (q : Int32) (e : fn_X9_worth p1 = q) : pr_C L 1 164 [.int p1] (hH f) (some (.int q)) (hH f) := by
  refine pr_C.of (G := mt_X9_worth) rfl rfl ?_
  show pr_G L 0 mt_X9_worth (0, [(0, .int p1)], [], hH f) _ _
  unfold fn_X9_worth at e
  refine gs_iload_n rfl rfl ?_
  refine gs_ne0 rfl (fun c1 => ?_) (fun c1 => ?_)
  · rw [if_neg c1] at e
    refine gs_iload_n rfl rfl ?_
    refine gs_iconst (x := 1) rfl (by decide) ?_
    refine gs_ne2 rfl (fun c2 => ?_) (fun c2 => ?_)
    · rw [if_neg c2] at e
      refine gs_iload_n rfl rfl ?_
      refine gs_iconst (x := 2) rfl (by decide) ?_
      refine gs_ne2 rfl (fun c3 => ?_) (fun c3 => ?_)
      · rw [if_neg c3] at e
        refine gs_bipush (x := 125) rfl (by decide) ?_
        subst e
        exact gs_iret rfl rfl rfl rfl rfl
      · rw [if_pos c3] at e
        refine gs_bipush (x := 25) rfl (by decide) ?_
        refine gs_goto rfl ?_
        subst e
        exact gs_iret rfl rfl rfl rfl rfl
    · rw [if_pos c2] at e
      refine gs_iconst (x := 5) rfl (by decide) ?_
      refine gs_goto rfl ?_
      subst e
      exact gs_iret rfl rfl rfl rfl rfl
  · rw [if_pos c1] at e
    refine gs_iconst (x := 1) rfl (by decide) ?_
    refine gs_goto rfl ?_
    subst e
    exact gs_iret rfl rfl rfl rfl rfl
def lp_X9_isHouse_12 : Nat → Int32 → Int32 → Int32 → pd_M → Option (Int32)
  | 0, _, _, _, _ => none
  | n + 1, z1, z2, z3, f =>
    if 4 ≤ z3 then
    some (z2)
    else
    if z2 = 0 then
    some (z2)
    else
    if pa_in z3 4 = true then
    ob1 (if (f 114 z3.toNatClampNeg) < (fn_X9_figure z1 z3) then
    some (0)
    else
    some (1)) fun (v6 : Int32) =>
    pn (z3 + 1) fun x7 =>
    lp_X9_isHouse_12 n z1 v6 x7 f
    else none
def fn_X9_isHouse (p1 : Int32) (f : pd_M) : Option (Int32) :=
  pn ((fn_X9_in (p1.toInt64) 0 624)) fun x1 =>
  ob1 (lp_X9_isHouse_12 5000 p1 x1 0 f) fun y8 =>
  if y8 = 0 ∨ y8 = 1 then some y8 else none
set_option maxRecDepth 100000 in
set_option maxHeartbeats 4000000 in
theorem tl_X9_isHouse_12 (L : Nat) : ∀ (n : Nat) (z1 : Int32) (z2 : Int32) (z3 : Int32) (f : pd_M) (w0 : Int32) (r : Option Value) (h2 : ph_T), lp_X9_isHouse_12 n z1 z2 z3 f = some (w0) → pr_G L 1 mt_X9_isHouse (47, [(2, .int w0)], [], hH f) r h2 → pr_G L 1 mt_X9_isHouse (12, [(0, .ref 110), (1, .int z1), (2, .int z2), (3, .int z3)], [], hH f) r h2 := by
  intro n
  induction n with
  | zero => intro z1 z2 z3 f w0 r h2 e; cases e
  | succ n ih =>
    intro z1 z2 z3 f w0 r h2 e K
    unfold lp_X9_isHouse_12 at e
    refine gs_iload_n rfl rfl ?_
    refine gs_iconst (x := 4) rfl (by decide) ?_
    refine gs_ge2 rfl (fun c2 => ?_) (fun c2 => ?_)
    · rw [if_pos c2] at e
      obtain rfl := inj1 e
      refine gs_drop [2] rfl ?_
      exact K
    · rw [if_neg c2] at e
      refine gs_iload_n rfl rfl ?_
      refine gs_eq0 rfl (fun c3 => ?_) (fun c3 => ?_)
      · rw [if_pos c3] at e
        obtain rfl := inj1 e
        refine gs_drop [2] rfl ?_
        exact K
      · rw [if_neg c3] at e
        refine gs_iload_n rfl rfl ?_
        refine gs_iload_n rfl rfl ?_
        refine gs_callsI (st := []) rfl (pr_C_le (by decide) (th_X9_figure L z1 z3 f _ rfl)) rfl rfl rfl (by decide) ?_
        refine gs_aload_n rfl rfl ?_
        refine gs_get rfl (gd_r (b := 114) rfl rfl rfl) ?_
        refine gs_iload_n rfl rfl ?_
        by_cases hb4 : pa_in z3 4 = true
        case neg => rw [if_neg hb4] at e; cases e
        rw [if_pos hb4] at e
        refine gs_iald rfl (gd_ia (j := z3.toNatClampNeg) rfl hb4 rfl) ?_
        obtain ⟨v6, ev40, e⟩ := ob1_some e
        have KJ40 : pr_G L 1 mt_X9_isHouse (40, [(0, .ref 110), (1, .int z1), (3, .int z3)], [.int v6], hH f) r h2 := by
          refine gs_istore_n (lv' := [(2, .int v6), (0, .ref 110), (1, .int z1), (3, .int z3)]) rfl rfl ?_
          obtain ⟨x7, hx7, e⟩ := pn_some e
          refine gs_iinc1 (x1 := x7) (c := 1) (lv' := [(3, .int x7), (2, .int v6), (0, .ref 110), (1, .int z1)]) rfl rfl (by decide) hx7 rfl ?_
          refine gs_goto rfl ?_
          refine gs_drop [2, 3, 1, 0] rfl ?_
          exact ih z1 v6 x7 f w0 _ _ e K
        have e := ev40
        clear ev40
        refine gs_gt2 rfl (fun c5 => ?_) (fun c5 => ?_)
        · rw [if_pos c5] at e
          refine gs_iconst (x := 0) rfl (by decide) ?_
          obtain rfl := inj1 e
          refine gs_drop [0, 1, 3] rfl ?_
          exact KJ40
        · rw [if_neg c5] at e
          refine gs_iconst (x := 1) rfl (by decide) ?_
          refine gs_goto rfl ?_
          obtain rfl := inj1 e
          refine gs_drop [0, 1, 3] rfl ?_
          exact KJ40
set_option maxRecDepth 100000 in
set_option maxHeartbeats 4000000 in
theorem th_X9_isHouse (L : Nat) (p1 : Int32) (f : pd_M) (q : Int32) (e : fn_X9_isHouse p1 f = some q) : pr_C L 2 165 [.ref 110, .int p1] (hH f) (some (.int q)) (hH f) := by
  refine pr_C.of (G := mt_X9_isHouse) rfl rfl ?_
  show pr_G L 1 mt_X9_isHouse (0, [(0, .ref 110), (1, .int p1)], [], hH f) _ _
  unfold fn_X9_isHouse at e
  refine gs_iload_n rfl rfl ?_
  refine gs_i2l rfl ?_
  refine gs_lconst (w := 0) rfl (by decide) ?_
  refine gs_ldc2 (w := 624) rfl (by decide) ?_
  refine gs_callsI (st := []) rfl (pr_C_le (by decide) (th_X9_in L (p1.toInt64) 0 624 f _ rfl)) rfl rfl rfl (by decide) ?_
  obtain ⟨x1, hx1, e⟩ := pn_some e
  refine gs_topi hx1 ?_
  refine gs_istore_n (lv' := [(2, .int x1), (0, .ref 110), (1, .int p1)]) rfl rfl ?_
  refine gs_iconst (x := 0) rfl (by decide) ?_
  refine gs_istore_n (lv' := [(3, .int 0), (2, .int x1), (0, .ref 110), (1, .int p1)]) rfl rfl ?_
  refine gs_drop [2, 3, 1, 0] rfl ?_
  obtain ⟨y8, el9, e⟩ := ob1_some e
  refine tl_X9_isHouse_12 L 5000 p1 x1 0 f y8 _ _ el9 ?_
  refine gs_iload_n rfl rfl ?_
  by_cases hz : y8 = 0 ∨ y8 = 1
  · rw [if_pos hz] at e
    obtain rfl := inj1 e
    exact gs_iret rfl rfl (nar_z hz) rfl rfl
  · rw [if_neg hz] at e
    cases e
def lp_X9_redOf_2 : Nat → Int32 → Int32 → pd_M → Option ((Int32) ⊕ (Unit))
  | 0, _, _, _ => none
  | n + 1, z1, z2, f =>
    if (f 110 12) ≤ z2 then
    some (.inr ())
    else
    if pa_in z2 20 = true then
    if pa_in z2 20 = true then
    ob1 (if (fn_X9_figure z1 (f 121 z2.toNatClampNeg)) = ((f 122 z2.toNatClampNeg) + 1) then
    if pa_in z2 20 = true then
    if (fn_X9_figure z1 (f 123 z2.toNatClampNeg)) ≤ 0 then
    some (0)
    else
    some (1)
    else none
    else
    some (0)) fun (v5 : Int32) =>
    if v5 = 0 then
    pn (z2 + 1) fun x9 =>
    lp_X9_redOf_2 n z1 x9 f
    else
    if pa_in z2 20 = true then
    ob1 (fn_X9_isKept z2 ((fn_X9_figure z1 (f 123 z2.toNatClampNeg)) - 1) f) fun r11 =>
    if r11 = 0 then
    some (.inl z2)
    else
    pn (z2 + 1) fun x14 =>
    lp_X9_redOf_2 n z1 x14 f
    else none
    else none
    else none
def fn_X9_redOf (p1 : Int32) (f : pd_M) : Option (Int32) :=
  os0 (lp_X9_redOf_2 5000 p1 0 f) (fun q => some q) (
  some (-1000000))
set_option maxRecDepth 100000 in
set_option maxHeartbeats 4000000 in
theorem tl_X9_redOf_2 (L : Nat) : ∀ (n : Nat) (z1 : Int32) (z2 : Int32) (f : pd_M) (o : (Int32) ⊕ (Unit)), lp_X9_redOf_2 n z1 z2 f = some o → (∀ q, o = .inl q → pr_G L 4 mt_X9_redOf (2, [(0, .ref 110), (1, .int z1), (2, .int z2)], [], hH f) (some (.int q)) (hH f)) ∧ (∀ (_ : Unit), o = .inr () → ∀ (r : Option Value) (h2 : ph_T), pr_G L 4 mt_X9_redOf (82, [], [], hH f) r h2 → pr_G L 4 mt_X9_redOf (2, [(0, .ref 110), (1, .int z1), (2, .int z2)], [], hH f) r h2) := by
  intro n
  induction n with
  | zero => intro z1 z2 f o e; cases e
  | succ n ih =>
    intro z1 z2 f o e
    refine ⟨fun q hq => ?_, fun _ hq r h2 K => ?_⟩
    · subst hq
      unfold lp_X9_redOf_2 at e
      refine gs_iload_n rfl rfl ?_
      refine gs_aload_n rfl rfl ?_
      refine gs_get rfl (gd_i rfl rfl) ?_
      refine gs_ge2 rfl (fun c1 => ?_) (fun c1 => ?_)
      · rw [if_pos c1] at e
        cases e
      · rw [if_neg c1] at e
        refine gs_iload_n rfl rfl ?_
        refine gs_aload_n rfl rfl ?_
        refine gs_get rfl (gd_r (b := 121) rfl rfl rfl) ?_
        refine gs_iload_n rfl rfl ?_
        by_cases hb2 : pa_in z2 20 = true
        case neg => rw [if_neg hb2] at e; cases e
        rw [if_pos hb2] at e
        refine gs_iald rfl (gd_ia (j := z2.toNatClampNeg) rfl hb2 rfl) ?_
        refine gs_callsI (st := []) rfl (pr_C_le (by decide) (th_X9_figure L z1 (f 121 z2.toNatClampNeg) f _ rfl)) rfl rfl rfl (by decide) ?_
        refine gs_aload_n rfl rfl ?_
        refine gs_get rfl (gd_r (b := 122) rfl rfl rfl) ?_
        refine gs_iload_n rfl rfl ?_
        by_cases hb3 : pa_in z2 20 = true
        case neg => rw [if_neg hb3] at e; cases e
        rw [if_pos hb3] at e
        refine gs_iald rfl (gd_ia (j := z2.toNatClampNeg) rfl hb3 rfl) ?_
        refine gs_iconst (x := 1) rfl (by decide) ?_
        refine gs_iadd rfl ?_
        obtain ⟨v5, ev49, e⟩ := ob1_some e
        have KJ49 : pr_G L 4 mt_X9_redOf (49, [(0, .ref 110), (1, .int z1), (2, .int z2)], [.int v5], hH f) (some (.int q)) (hH f) := by
          refine gs_istore_n (lv' := [(3, .int v5), (0, .ref 110), (1, .int z1), (2, .int z2)]) rfl rfl ?_
          refine gs_iload_n rfl rfl ?_
          refine gs_eq0 rfl (fun c8 => ?_) (fun c8 => ?_)
          · rw [if_pos c8] at e
            obtain ⟨x9, hx9, e⟩ := pn_some e
            refine gs_iinc1 (x1 := x9) (c := 1) (lv' := [(2, .int x9), (3, .int v5), (0, .ref 110), (1, .int z1)]) rfl rfl (by decide) hx9 rfl ?_
            refine gs_goto rfl ?_
            refine gs_drop [2, 3, 0] rfl ?_
            exact (ih z1 x9 f _ e).1 _ rfl
          · rw [if_neg c8] at e
            refine gs_aload_n rfl rfl ?_
            refine gs_iload_n rfl rfl ?_
            refine gs_iload_n rfl rfl ?_
            refine gs_aload_n rfl rfl ?_
            refine gs_get rfl (gd_r (b := 123) rfl rfl rfl) ?_
            refine gs_iload_n rfl rfl ?_
            by_cases hb10 : pa_in z2 20 = true
            case neg => rw [if_neg hb10] at e; cases e
            rw [if_pos hb10] at e
            refine gs_iald rfl (gd_ia (j := z2.toNatClampNeg) rfl hb10 rfl) ?_
            refine gs_callsI (st := [.int z2, .ref 110]) rfl (pr_C_le (by decide) (th_X9_figure L z1 (f 123 z2.toNatClampNeg) f _ rfl)) rfl rfl rfl (by decide) ?_
            refine gs_iconst (x := 1) rfl (by decide) ?_
            refine gs_isub rfl ?_
            obtain ⟨r11, ec12, e⟩ := ob1_some e
            refine gs_callvI (st := []) rfl (pr_C_le (by decide) (th_X9_isKept L z2 ((fn_X9_figure z1 (f 123 z2.toNatClampNeg)) - 1) f r11 ec12)) rfl rfl rfl (by decide) rfl (Or.inr (by decide)) ?_
            refine gs_ne0 rfl (fun c13 => ?_) (fun c13 => ?_)
            · rw [if_neg c13] at e
              obtain ⟨x14, hx14, e⟩ := pn_some e
              refine gs_iinc1 (x1 := x14) (c := 1) (lv' := [(2, .int x14), (3, .int v5), (0, .ref 110), (1, .int z1)]) rfl rfl (by decide) hx14 rfl ?_
              refine gs_goto rfl ?_
              refine gs_drop [2, 3, 0] rfl ?_
              exact (ih z1 x14 f _ e).1 _ rfl
            · rw [if_pos c13] at e
              refine gs_iload_n rfl rfl ?_
              obtain rfl := injl e
              exact gs_iret rfl rfl rfl rfl rfl
        have e := ev49
        clear ev49
        refine gs_ne2 rfl (fun c4 => ?_) (fun c4 => ?_)
        · rw [if_neg c4] at e
          refine gs_iconst (x := 0) rfl (by decide) ?_
          obtain rfl := inj1 e
          refine gs_drop [0, 1, 2] rfl ?_
          exact KJ49
        · rw [if_pos c4] at e
          refine gs_iload_n rfl rfl ?_
          refine gs_aload_n rfl rfl ?_
          refine gs_get rfl (gd_r (b := 123) rfl rfl rfl) ?_
          refine gs_iload_n rfl rfl ?_
          by_cases hb6 : pa_in z2 20 = true
          case neg => rw [if_neg hb6] at e; cases e
          rw [if_pos hb6] at e
          refine gs_iald rfl (gd_ia (j := z2.toNatClampNeg) rfl hb6 rfl) ?_
          refine gs_callsI (st := []) rfl (pr_C_le (by decide) (th_X9_figure L z1 (f 123 z2.toNatClampNeg) f _ rfl)) rfl rfl rfl (by decide) ?_
          refine gs_le0 rfl (fun c7 => ?_) (fun c7 => ?_)
          · rw [if_pos c7] at e
            refine gs_iconst (x := 0) rfl (by decide) ?_
            obtain rfl := inj1 e
            refine gs_drop [0, 1, 2] rfl ?_
            exact KJ49
          · rw [if_neg c7] at e
            refine gs_iconst (x := 1) rfl (by decide) ?_
            refine gs_goto rfl ?_
            obtain rfl := inj1 e
            refine gs_drop [0, 1, 2] rfl ?_
            exact KJ49
    · subst hq
      unfold lp_X9_redOf_2 at e
      refine gs_iload_n rfl rfl ?_
      refine gs_aload_n rfl rfl ?_
      refine gs_get rfl (gd_i rfl rfl) ?_
      refine gs_ge2 rfl (fun c1 => ?_) (fun c1 => ?_)
      · rw [if_pos c1] at e
        refine gs_drop [] rfl ?_
        exact K
      · rw [if_neg c1] at e
        refine gs_iload_n rfl rfl ?_
        refine gs_aload_n rfl rfl ?_
        refine gs_get rfl (gd_r (b := 121) rfl rfl rfl) ?_
        refine gs_iload_n rfl rfl ?_
        by_cases hb2 : pa_in z2 20 = true
        case neg => rw [if_neg hb2] at e; cases e
        rw [if_pos hb2] at e
        refine gs_iald rfl (gd_ia (j := z2.toNatClampNeg) rfl hb2 rfl) ?_
        refine gs_callsI (st := []) rfl (pr_C_le (by decide) (th_X9_figure L z1 (f 121 z2.toNatClampNeg) f _ rfl)) rfl rfl rfl (by decide) ?_
        refine gs_aload_n rfl rfl ?_
        refine gs_get rfl (gd_r (b := 122) rfl rfl rfl) ?_
        refine gs_iload_n rfl rfl ?_
        by_cases hb3 : pa_in z2 20 = true
        case neg => rw [if_neg hb3] at e; cases e
        rw [if_pos hb3] at e
        refine gs_iald rfl (gd_ia (j := z2.toNatClampNeg) rfl hb3 rfl) ?_
        refine gs_iconst (x := 1) rfl (by decide) ?_
        refine gs_iadd rfl ?_
        obtain ⟨v5, ev49, e⟩ := ob1_some e
        have KJ49 : pr_G L 4 mt_X9_redOf (49, [(0, .ref 110), (1, .int z1), (2, .int z2)], [.int v5], hH f) r h2 := by
          refine gs_istore_n (lv' := [(3, .int v5), (0, .ref 110), (1, .int z1), (2, .int z2)]) rfl rfl ?_
          refine gs_iload_n rfl rfl ?_
          refine gs_eq0 rfl (fun c8 => ?_) (fun c8 => ?_)
          · rw [if_pos c8] at e
            obtain ⟨x9, hx9, e⟩ := pn_some e
            refine gs_iinc1 (x1 := x9) (c := 1) (lv' := [(2, .int x9), (3, .int v5), (0, .ref 110), (1, .int z1)]) rfl rfl (by decide) hx9 rfl ?_
            refine gs_goto rfl ?_
            refine gs_drop [2, 3, 0] rfl ?_
            exact (ih z1 x9 f _ e).2 () rfl _ _ K
          · rw [if_neg c8] at e
            refine gs_aload_n rfl rfl ?_
            refine gs_iload_n rfl rfl ?_
            refine gs_iload_n rfl rfl ?_
            refine gs_aload_n rfl rfl ?_
            refine gs_get rfl (gd_r (b := 123) rfl rfl rfl) ?_
            refine gs_iload_n rfl rfl ?_
            by_cases hb10 : pa_in z2 20 = true
            case neg => rw [if_neg hb10] at e; cases e
            rw [if_pos hb10] at e
            refine gs_iald rfl (gd_ia (j := z2.toNatClampNeg) rfl hb10 rfl) ?_
            refine gs_callsI (st := [.int z2, .ref 110]) rfl (pr_C_le (by decide) (th_X9_figure L z1 (f 123 z2.toNatClampNeg) f _ rfl)) rfl rfl rfl (by decide) ?_
            refine gs_iconst (x := 1) rfl (by decide) ?_
            refine gs_isub rfl ?_
            obtain ⟨r11, ec12, e⟩ := ob1_some e
            refine gs_callvI (st := []) rfl (pr_C_le (by decide) (th_X9_isKept L z2 ((fn_X9_figure z1 (f 123 z2.toNatClampNeg)) - 1) f r11 ec12)) rfl rfl rfl (by decide) rfl (Or.inr (by decide)) ?_
            refine gs_ne0 rfl (fun c13 => ?_) (fun c13 => ?_)
            · rw [if_neg c13] at e
              obtain ⟨x14, hx14, e⟩ := pn_some e
              refine gs_iinc1 (x1 := x14) (c := 1) (lv' := [(2, .int x14), (3, .int v5), (0, .ref 110), (1, .int z1)]) rfl rfl (by decide) hx14 rfl ?_
              refine gs_goto rfl ?_
              refine gs_drop [2, 3, 0] rfl ?_
              exact (ih z1 x14 f _ e).2 () rfl _ _ K
            · rw [if_pos c13] at e
              refine gs_iload_n rfl rfl ?_
              cases e
        have e := ev49
        clear ev49
        refine gs_ne2 rfl (fun c4 => ?_) (fun c4 => ?_)
        · rw [if_neg c4] at e
          refine gs_iconst (x := 0) rfl (by decide) ?_
          obtain rfl := inj1 e
          refine gs_drop [0, 1, 2] rfl ?_
          exact KJ49
        · rw [if_pos c4] at e
          refine gs_iload_n rfl rfl ?_
          refine gs_aload_n rfl rfl ?_
          refine gs_get rfl (gd_r (b := 123) rfl rfl rfl) ?_
          refine gs_iload_n rfl rfl ?_
          by_cases hb6 : pa_in z2 20 = true
          case neg => rw [if_neg hb6] at e; cases e
          rw [if_pos hb6] at e
          refine gs_iald rfl (gd_ia (j := z2.toNatClampNeg) rfl hb6 rfl) ?_
          refine gs_callsI (st := []) rfl (pr_C_le (by decide) (th_X9_figure L z1 (f 123 z2.toNatClampNeg) f _ rfl)) rfl rfl rfl (by decide) ?_
          refine gs_le0 rfl (fun c7 => ?_) (fun c7 => ?_)
          · rw [if_pos c7] at e
            refine gs_iconst (x := 0) rfl (by decide) ?_
            obtain rfl := inj1 e
            refine gs_drop [0, 1, 2] rfl ?_
            exact KJ49
          · rw [if_neg c7] at e
            refine gs_iconst (x := 1) rfl (by decide) ?_
            refine gs_goto rfl ?_
            obtain rfl := inj1 e
            refine gs_drop [0, 1, 2] rfl ?_
            exact KJ49
set_option maxRecDepth 100000 in
set_option maxHeartbeats 4000000 in
theorem th_X9_redOf (L : Nat) (p1 : Int32) (f : pd_M) (q : Int32) (e : fn_X9_redOf p1 f = some q) : pr_C L 5 166 [.ref 110, .int p1] (hH f) (some (.int q)) (hH f) := by
  refine pr_C.of (G := mt_X9_redOf) rfl rfl ?_
  show pr_G L 4 mt_X9_redOf (0, [(0, .ref 110), (1, .int p1)], [], hH f) _ _
  unfold fn_X9_redOf at e
  refine gs_iconst (x := 0) rfl (by decide) ?_
  refine gs_istore_n (lv' := [(2, .int 0), (0, .ref 110), (1, .int p1)]) rfl rfl ?_
  refine gs_drop [1, 2, 0] rfl ?_
  rcases os0_some e with ⟨q, el15, e⟩ | ⟨el15, e⟩
  · skip
    obtain rfl := inj1 e
    exact (tl_X9_redOf_2 L 5000 p1 0 f _ el15).1 _ rfl
  · refine (tl_X9_redOf_2 L 5000 p1 0 f _ el15).2 () rfl _ _ ?_
    refine gs_ldc (x := (-1000000)) rfl (by decide) ?_
    obtain rfl := inj1 e
    exact gs_iret rfl rfl rfl rfl rfl
