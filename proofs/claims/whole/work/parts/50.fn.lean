def fn_X8_sizeOfRefuses_1 (p1 : Int32) (p2 : Int32) (p3 : Int32) (f : pd_M) : Option (Int32 × pd_M) :=
  ob1 (fn_X8_leave 13 f) fun f1 =>
  ob2 (fn_X8_sizeLent p1 f1) fun r3 f4 =>
  ob2 (fn_X8_askMark_0 p1 p2 (p3 + 1) f4) fun r6 f7 =>
  some ((r3 - r6), f7)
set_option maxRecDepth 100000 in
set_option maxHeartbeats 4000000 in
theorem th_X8_sizeOfRefuses_1 (L : Nat) (p1 : Int32) (p2 : Int32) (p3 : Int32) (f : pd_M) (q : Int32) (g : pd_M) (e : fn_X8_sizeOfRefuses_1 p1 p2 p3 f = some (q, g)) : pr_C L 6 109 [.ref 17, .int p1, .int p2, .int p3] (hH f) (some (.int q)) (hH g) := by
  refine pr_C.of (G := mt_X8_sizeOfRefuses) rfl rfl ?_
  show pr_G L 5 mt_X8_sizeOfRefuses (0, [(0, .ref 17), (1, .int p1), (2, .int p2), (3, .int p3)], [], hH f) _ _
  unfold fn_X8_sizeOfRefuses_1 at e
  refine gs_aload_n rfl rfl ?_
  refine gs_bipush (x := 13) rfl (by decide) ?_
  obtain ⟨f1, ec2, e⟩ := ob1_some e
  refine gs_callvV (st := []) rfl (pr_C_le (by decide) (th_X8_leave L 13 f f1 ec2)) rfl rfl rfl (by decide) rfl (Or.inr (by decide)) ?_
  refine gs_aload_n rfl rfl ?_
  refine gs_iload_n rfl rfl ?_
  obtain ⟨r3, f4, ec5, e⟩ := ob2_some e
  refine gs_callvI (st := []) rfl (pr_C_le (by decide) (th_X8_sizeLent L p1 f1 r3 f4 ec5)) rfl rfl rfl (by decide) rfl (Or.inr (by decide)) ?_
  refine gs_istore (lv' := [(4, .int r3), (0, .ref 17), (1, .int p1), (2, .int p2), (3, .int p3)]) rfl rfl ?_
  refine gs_iload rfl rfl ?_
  refine gs_aload_n rfl rfl ?_
  refine gs_iload_n rfl rfl ?_
  refine gs_iload_n rfl rfl ?_
  refine gs_iload_n rfl rfl ?_
  refine gs_iconst (x := 1) rfl (by decide) ?_
  refine gs_iadd rfl ?_
  obtain ⟨r6, f7, ec8, e⟩ := ob2_some e
  refine gs_callvI (st := [.int r3]) rfl (pr_C_le (by decide) (th_X8_askMark_0 L p1 p2 (p3 + 1) f4 r6 f7 ec8)) rfl rfl rfl (by decide) rfl (Or.inr (by decide)) ?_
  refine gs_isub rfl ?_
  obtain ⟨rfl, rfl⟩ := inj2 e
  exact gs_iret rfl rfl rfl rfl rfl
def fn_X8_sizeOfBefore (p1 : Int32) (f : pd_M) : Option (Int32 × pd_M) :=
  ob1 (fn_X8_leave 12 f) fun f1 =>
  ob2 (fn_X8_sizeOfGiven p1 f1) fun r3 f4 =>
  some ((2 * r3), f4)
set_option maxRecDepth 100000 in
set_option maxHeartbeats 4000000 in
theorem th_X8_sizeOfBefore (L : Nat) (p1 : Int32) (f : pd_M) (q : Int32) (g : pd_M) (e : fn_X8_sizeOfBefore p1 f = some (q, g)) : pr_C L 4 108 [.ref 17, .int p1] (hH f) (some (.int q)) (hH g) := by
  refine pr_C.of (G := mt_X8_sizeOfBefore) rfl rfl ?_
  show pr_G L 3 mt_X8_sizeOfBefore (0, [(0, .ref 17), (1, .int p1)], [], hH f) _ _
  unfold fn_X8_sizeOfBefore at e
  refine gs_aload_n rfl rfl ?_
  refine gs_bipush (x := 12) rfl (by decide) ?_
  obtain ⟨f1, ec2, e⟩ := ob1_some e
  refine gs_callvV (st := []) rfl (pr_C_le (by decide) (th_X8_leave L 12 f f1 ec2)) rfl rfl rfl (by decide) rfl (Or.inr (by decide)) ?_
  refine gs_iconst (x := 2) rfl (by decide) ?_
  refine gs_aload_n rfl rfl ?_
  refine gs_iload_n rfl rfl ?_
  obtain ⟨r3, f4, ec5, e⟩ := ob2_some e
  refine gs_callvI (st := [.int 2]) rfl (pr_C_le (by decide) (th_X8_sizeOfGiven L p1 f1 r3 f4 ec5)) rfl rfl rfl (by decide) rfl (Or.inr (by decide)) ?_
  refine gs_imul rfl ?_
  obtain ⟨rfl, rfl⟩ := inj2 e
  exact gs_iret rfl rfl rfl rfl rfl
def fn_X8_sizeOfQuarrel (p1 : Int32) (f : pd_M) : Option (Int32 × pd_M) :=
  ob1 (fn_X8_leave 14 f) fun f1 =>
  ob2 (fn_X8_sizeLent p1 f1) fun r3 f4 =>
  some ((-r3), f4)
set_option maxRecDepth 100000 in
set_option maxHeartbeats 4000000 in
theorem th_X8_sizeOfQuarrel (L : Nat) (p1 : Int32) (f : pd_M) (q : Int32) (g : pd_M) (e : fn_X8_sizeOfQuarrel p1 f = some (q, g)) : pr_C L 3 110 [.ref 17, .int p1] (hH f) (some (.int q)) (hH g) := by
  refine pr_C.of (G := mt_X8_sizeOfQuarrel) rfl rfl ?_
  show pr_G L 2 mt_X8_sizeOfQuarrel (0, [(0, .ref 17), (1, .int p1)], [], hH f) _ _
  unfold fn_X8_sizeOfQuarrel at e
  refine gs_aload_n rfl rfl ?_
  refine gs_bipush (x := 14) rfl (by decide) ?_
  obtain ⟨f1, ec2, e⟩ := ob1_some e
  refine gs_callvV (st := []) rfl (pr_C_le (by decide) (th_X8_leave L 14 f f1 ec2)) rfl rfl rfl (by decide) rfl (Or.inr (by decide)) ?_
  refine gs_aload_n rfl rfl ?_
  refine gs_iload_n rfl rfl ?_
  obtain ⟨r3, f4, ec5, e⟩ := ob2_some e
  refine gs_callvI (st := []) rfl (pr_C_le (by decide) (th_X8_sizeLent L p1 f1 r3 f4 ec5)) rfl rfl rfl (by decide) rfl (Or.inr (by decide)) ?_
  refine gs_ineg rfl ?_
  obtain ⟨rfl, rfl⟩ := inj2 e
  exact gs_iret rfl rfl rfl rfl rfl
def fn_X8_askSize_1 (p1 : Int32) (p2 : Int32) (p3 : Int32) (f : pd_M) : Option (Int32 × pd_M) :=
  if p3 ≤ 4 then
  if p2 = 1 then
  ob2 (fn_X8_sizeOfGiven p1 f) fun r3 f4 =>
  some (r3, f4)
  else
  if p2 = 2 then
  ob2 (fn_X8_sizeOfRefuses_1 p1 p2 p3 f) fun r7 f8 =>
  some (r7, f8)
  else
  if p2 = 3 then
  ob2 (fn_X8_sizeOfBefore p1 f) fun r11 f12 =>
  some (r11, f12)
  else
  if p2 = 4 then
  ob2 (fn_X8_sizeOfGiven p1 f) fun r15 f16 =>
  some (r15, f16)
  else
  if p2 = 5 then
  ob2 (fn_X8_sizeOfQuarrel p1 f) fun r19 f20 =>
  some (r19, f20)
  else
  ob2 (fn_X8_sizeLent p1 f) fun r22 f23 =>
  some (r22, f23)
  else
  some (0, f)
set_option maxRecDepth 100000 in
set_option maxHeartbeats 4000000 in
theorem th_X8_askSize_1 (L : Nat) (p1 : Int32) (p2 : Int32) (p3 : Int32) (f : pd_M) (q : Int32) (g : pd_M) (e : fn_X8_askSize_1 p1 p2 p3 f = some (q, g)) : pr_C L 7 104 [.ref 17, .int p1, .int p2, .int p3] (hH f) (some (.int q)) (hH g) := by
  refine pr_C.of (G := mt_X8_askSize) rfl rfl ?_
  show pr_G L 6 mt_X8_askSize (0, [(0, .ref 17), (1, .int p1), (2, .int p2), (3, .int p3)], [], hH f) _ _
  unfold fn_X8_askSize_1 at e
  refine gs_iload_n rfl rfl ?_
  refine gs_iconst (x := 4) rfl (by decide) ?_
  refine gs_le2 rfl (fun c1 => ?_) (fun c1 => ?_)
  · rw [if_pos c1] at e
    refine gs_iload_n rfl rfl ?_
    by_cases c2 : p2 = 1
    · rw [if_pos c2] at e
      refine gs_switch (t := 44) rfl (by rw [c2]; decide) ?_
      refine gs_aload_n rfl rfl ?_
      refine gs_iload_n rfl rfl ?_
      obtain ⟨r3, f4, ec5, e⟩ := ob2_some e
      refine gs_callvI (st := []) rfl (pr_C_le (by decide) (th_X8_sizeOfGiven L p1 f r3 f4 ec5)) rfl rfl rfl (by decide) rfl (Or.inr (by decide)) ?_
      obtain ⟨rfl, rfl⟩ := inj2 e
      exact gs_iret rfl rfl rfl rfl rfl
    · rw [if_neg c2] at e
      by_cases c6 : p2 = 2
      · rw [if_pos c6] at e
        refine gs_switch (t := 56) rfl (by rw [c6]; decide) ?_
        refine gs_aload_n rfl rfl ?_
        refine gs_iload_n rfl rfl ?_
        refine gs_iload_n rfl rfl ?_
        refine gs_iload_n rfl rfl ?_
        obtain ⟨r7, f8, ec9, e⟩ := ob2_some e
        refine gs_callvI (st := []) rfl (pr_C_le (by decide) (th_X8_sizeOfRefuses_1 L p1 p2 p3 f r7 f8 ec9)) rfl rfl rfl (by decide) rfl (Or.inr (by decide)) ?_
        obtain ⟨rfl, rfl⟩ := inj2 e
        exact gs_iret rfl rfl rfl rfl rfl
      · rw [if_neg c6] at e
        by_cases c10 : p2 = 3
        · rw [if_pos c10] at e
          refine gs_switch (t := 50) rfl (by rw [c10]; decide) ?_
          refine gs_aload_n rfl rfl ?_
          refine gs_iload_n rfl rfl ?_
          obtain ⟨r11, f12, ec13, e⟩ := ob2_some e
          refine gs_callvI (st := []) rfl (pr_C_le (by decide) (th_X8_sizeOfBefore L p1 f r11 f12 ec13)) rfl rfl rfl (by decide) rfl (Or.inr (by decide)) ?_
          obtain ⟨rfl, rfl⟩ := inj2 e
          exact gs_iret rfl rfl rfl rfl rfl
        · rw [if_neg c10] at e
          by_cases c14 : p2 = 4
          · rw [if_pos c14] at e
            refine gs_switch (t := 44) rfl (by rw [c14]; decide) ?_
            refine gs_aload_n rfl rfl ?_
            refine gs_iload_n rfl rfl ?_
            obtain ⟨r15, f16, ec17, e⟩ := ob2_some e
            refine gs_callvI (st := []) rfl (pr_C_le (by decide) (th_X8_sizeOfGiven L p1 f r15 f16 ec17)) rfl rfl rfl (by decide) rfl (Or.inr (by decide)) ?_
            obtain ⟨rfl, rfl⟩ := inj2 e
            exact gs_iret rfl rfl rfl rfl rfl
          · rw [if_neg c14] at e
            by_cases c18 : p2 = 5
            · rw [if_pos c18] at e
              refine gs_switch (t := 64) rfl (by rw [c18]; decide) ?_
              refine gs_aload_n rfl rfl ?_
              refine gs_iload_n rfl rfl ?_
              obtain ⟨r19, f20, ec21, e⟩ := ob2_some e
              refine gs_callvI (st := []) rfl (pr_C_le (by decide) (th_X8_sizeOfQuarrel L p1 f r19 f20 ec21)) rfl rfl rfl (by decide) rfl (Or.inr (by decide)) ?_
              obtain ⟨rfl, rfl⟩ := inj2 e
              exact gs_iret rfl rfl rfl rfl rfl
            · rw [if_neg c18] at e
              refine gs_switch (t := 70) rfl (sw_out (lo := 1) (hi := 5) (by decide) (fun k hk => by
                rcases (by omega : k = 1 ∨ k = 2 ∨ k = 3 ∨ k = 4 ∨ k = 5) with rfl | rfl | rfl | rfl | rfl
                · exact fun z => c2 (z.trans (by decide))
                · exact fun z => c6 (z.trans (by decide))
                · exact fun z => c10 (z.trans (by decide))
                · exact fun z => c14 (z.trans (by decide))
                · exact fun z => c18 (z.trans (by decide))) (by decide)) ?_
              refine gs_aload_n rfl rfl ?_
              refine gs_iload_n rfl rfl ?_
              obtain ⟨r22, f23, ec24, e⟩ := ob2_some e
              refine gs_callvI (st := []) rfl (pr_C_le (by decide) (th_X8_sizeLent L p1 f r22 f23 ec24)) rfl rfl rfl (by decide) rfl (Or.inr (by decide)) ?_
              obtain ⟨rfl, rfl⟩ := inj2 e
              exact gs_iret rfl rfl rfl rfl rfl
  · rw [if_neg c1] at e
    refine gs_iconst (x := 0) rfl (by decide) ?_
    obtain ⟨rfl, rfl⟩ := inj2 e
    exact gs_iret rfl rfl rfl rfl rfl
def fn_X8_markOfLoose_2 (p1 : Int32) (p2 : Int32) (p3 : Int32) (f : pd_M) : Option (Int32 × pd_M) :=
  ob1 (fn_X8_leave 22 f) fun f1 =>
  ob2 (fn_X8_markOfGiven p1 f1) fun r3 f4 =>
  ob2 (fn_X8_askSize_1 p1 p2 (p3 + 1) f4) fun r6 f7 =>
  some ((r3 + r6), f7)
set_option maxRecDepth 100000 in
set_option maxHeartbeats 4000000 in
theorem th_X8_markOfLoose_2 (L : Nat) (p1 : Int32) (p2 : Int32) (p3 : Int32) (f : pd_M) (q : Int32) (g : pd_M) (e : fn_X8_markOfLoose_2 p1 p2 p3 f = some (q, g)) : pr_C L 8 113 [.ref 17, .int p1, .int p2, .int p3] (hH f) (some (.int q)) (hH g) := by
  refine pr_C.of (G := mt_X8_markOfLoose) rfl rfl ?_
  show pr_G L 7 mt_X8_markOfLoose (0, [(0, .ref 17), (1, .int p1), (2, .int p2), (3, .int p3)], [], hH f) _ _
  unfold fn_X8_markOfLoose_2 at e
  refine gs_aload_n rfl rfl ?_
  refine gs_bipush (x := 22) rfl (by decide) ?_
  obtain ⟨f1, ec2, e⟩ := ob1_some e
  refine gs_callvV (st := []) rfl (pr_C_le (by decide) (th_X8_leave L 22 f f1 ec2)) rfl rfl rfl (by decide) rfl (Or.inr (by decide)) ?_
  refine gs_aload_n rfl rfl ?_
  refine gs_iload_n rfl rfl ?_
  obtain ⟨r3, f4, ec5, e⟩ := ob2_some e
  refine gs_callvI (st := []) rfl (pr_C_le (by decide) (th_X8_markOfGiven L p1 f1 r3 f4 ec5)) rfl rfl rfl (by decide) rfl (Or.inr (by decide)) ?_
  refine gs_istore (lv' := [(4, .int r3), (0, .ref 17), (1, .int p1), (2, .int p2), (3, .int p3)]) rfl rfl ?_
  refine gs_iload rfl rfl ?_
  refine gs_aload_n rfl rfl ?_
  refine gs_iload_n rfl rfl ?_
  refine gs_iload_n rfl rfl ?_
  refine gs_iload_n rfl rfl ?_
  refine gs_iconst (x := 1) rfl (by decide) ?_
  refine gs_iadd rfl ?_
  obtain ⟨r6, f7, ec8, e⟩ := ob2_some e
  refine gs_callvI (st := [.int r3]) rfl (pr_C_le (by decide) (th_X8_askSize_1 L p1 p2 (p3 + 1) f4 r6 f7 ec8)) rfl rfl rfl (by decide) rfl (Or.inr (by decide)) ?_
  refine gs_iadd rfl ?_
  obtain ⟨rfl, rfl⟩ := inj2 e
  exact gs_iret rfl rfl rfl rfl rfl
def fn_X8_askMark_2 (p1 : Int32) (p2 : Int32) (p3 : Int32) (f : pd_M) : Option (Int32 × pd_M) :=
  if p3 ≤ 4 then
  if p2 = 1 then
  ob2 (fn_X8_markOfGiven p1 f) fun r3 f4 =>
  some (r3, f4)
  else
  if p2 = 2 then
  ob2 (fn_X8_markLent p1 f) fun r7 f8 =>
  some (r7, f8)
  else
  if p2 = 3 then
  ob2 (fn_X8_markOfGiven p1 f) fun r11 f12 =>
  some (r11, f12)
  else
  if p2 = 4 then
  ob2 (fn_X8_markOfLoose_2 p1 p2 p3 f) fun r15 f16 =>
  some (r15, f16)
  else
  if p2 = 5 then
  ob2 (fn_X8_markOfQuarrel p1 f) fun r19 f20 =>
  some (r19, f20)
  else
  ob2 (fn_X8_markLent p1 f) fun r22 f23 =>
  some (r22, f23)
  else
  some (0, f)
set_option maxRecDepth 100000 in
set_option maxHeartbeats 4000000 in
theorem th_X8_askMark_2 (L : Nat) (p1 : Int32) (p2 : Int32) (p3 : Int32) (f : pd_M) (q : Int32) (g : pd_M) (e : fn_X8_askMark_2 p1 p2 p3 f = some (q, g)) : pr_C L 9 105 [.ref 17, .int p1, .int p2, .int p3] (hH f) (some (.int q)) (hH g) := by
  refine pr_C.of (G := mt_X8_askMark) rfl rfl ?_
  show pr_G L 8 mt_X8_askMark (0, [(0, .ref 17), (1, .int p1), (2, .int p2), (3, .int p3)], [], hH f) _ _
  unfold fn_X8_askMark_2 at e
  refine gs_iload_n rfl rfl ?_
  refine gs_iconst (x := 4) rfl (by decide) ?_
  refine gs_le2 rfl (fun c1 => ?_) (fun c1 => ?_)
  · rw [if_pos c1] at e
    refine gs_iload_n rfl rfl ?_
    by_cases c2 : p2 = 1
    · rw [if_pos c2] at e
      refine gs_switch (t := 44) rfl (by rw [c2]; decide) ?_
      refine gs_aload_n rfl rfl ?_
      refine gs_iload_n rfl rfl ?_
      obtain ⟨r3, f4, ec5, e⟩ := ob2_some e
      refine gs_callvI (st := []) rfl (pr_C_le (by decide) (th_X8_markOfGiven L p1 f r3 f4 ec5)) rfl rfl rfl (by decide) rfl (Or.inr (by decide)) ?_
      obtain ⟨rfl, rfl⟩ := inj2 e
      exact gs_iret rfl rfl rfl rfl rfl
    · rw [if_neg c2] at e
      by_cases c6 : p2 = 2
      · rw [if_pos c6] at e
        refine gs_switch (t := 64) rfl (by rw [c6]; decide) ?_
        refine gs_aload_n rfl rfl ?_
        refine gs_iload_n rfl rfl ?_
        obtain ⟨r7, f8, ec9, e⟩ := ob2_some e
        refine gs_callvI (st := []) rfl (pr_C_le (by decide) (th_X8_markLent L p1 f r7 f8 ec9)) rfl rfl rfl (by decide) rfl (Or.inr (by decide)) ?_
        obtain ⟨rfl, rfl⟩ := inj2 e
        exact gs_iret rfl rfl rfl rfl rfl
      · rw [if_neg c6] at e
        by_cases c10 : p2 = 3
        · rw [if_pos c10] at e
          refine gs_switch (t := 44) rfl (by rw [c10]; decide) ?_
          refine gs_aload_n rfl rfl ?_
          refine gs_iload_n rfl rfl ?_
          obtain ⟨r11, f12, ec13, e⟩ := ob2_some e
          refine gs_callvI (st := []) rfl (pr_C_le (by decide) (th_X8_markOfGiven L p1 f r11 f12 ec13)) rfl rfl rfl (by decide) rfl (Or.inr (by decide)) ?_
          obtain ⟨rfl, rfl⟩ := inj2 e
          exact gs_iret rfl rfl rfl rfl rfl
        · rw [if_neg c10] at e
          by_cases c14 : p2 = 4
          · rw [if_pos c14] at e
            refine gs_switch (t := 50) rfl (by rw [c14]; decide) ?_
            refine gs_aload_n rfl rfl ?_
            refine gs_iload_n rfl rfl ?_
            refine gs_iload_n rfl rfl ?_
            refine gs_iload_n rfl rfl ?_
            obtain ⟨r15, f16, ec17, e⟩ := ob2_some e
            refine gs_callvI (st := []) rfl (pr_C_le (by decide) (th_X8_markOfLoose_2 L p1 p2 p3 f r15 f16 ec17)) rfl rfl rfl (by decide) rfl (Or.inr (by decide)) ?_
            obtain ⟨rfl, rfl⟩ := inj2 e
            exact gs_iret rfl rfl rfl rfl rfl
          · rw [if_neg c14] at e
            by_cases c18 : p2 = 5
            · rw [if_pos c18] at e
              refine gs_switch (t := 58) rfl (by rw [c18]; decide) ?_
              refine gs_aload_n rfl rfl ?_
              refine gs_iload_n rfl rfl ?_
              obtain ⟨r19, f20, ec21, e⟩ := ob2_some e
              refine gs_callvI (st := []) rfl (pr_C_le (by decide) (th_X8_markOfQuarrel L p1 f r19 f20 ec21)) rfl rfl rfl (by decide) rfl (Or.inr (by decide)) ?_
              obtain ⟨rfl, rfl⟩ := inj2 e
              exact gs_iret rfl rfl rfl rfl rfl
            · rw [if_neg c18] at e
              refine gs_switch (t := 64) rfl (sw_out (lo := 1) (hi := 5) (by decide) (fun k hk => by
                rcases (by omega : k = 1 ∨ k = 2 ∨ k = 3 ∨ k = 4 ∨ k = 5) with rfl | rfl | rfl | rfl | rfl
                · exact fun z => c2 (z.trans (by decide))
                · exact fun z => c6 (z.trans (by decide))
                · exact fun z => c10 (z.trans (by decide))
                · exact fun z => c14 (z.trans (by decide))
                · exact fun z => c18 (z.trans (by decide))) (by decide)) ?_
              refine gs_aload_n rfl rfl ?_
              refine gs_iload_n rfl rfl ?_
              obtain ⟨r22, f23, ec24, e⟩ := ob2_some e
              refine gs_callvI (st := []) rfl (pr_C_le (by decide) (th_X8_markLent L p1 f r22 f23 ec24)) rfl rfl rfl (by decide) rfl (Or.inr (by decide)) ?_
              obtain ⟨rfl, rfl⟩ := inj2 e
              exact gs_iret rfl rfl rfl rfl rfl
  · rw [if_neg c1] at e
    refine gs_iconst (x := 0) rfl (by decide) ?_
    obtain ⟨rfl, rfl⟩ := inj2 e
    exact gs_iret rfl rfl rfl rfl rfl
def fn_X8_sizeOfRefuses_0 (p1 : Int32) (p2 : Int32) (p3 : Int32) (f : pd_M) : Option (Int32 × pd_M) :=
  ob1 (fn_X8_leave 13 f) fun f1 =>
  ob2 (fn_X8_sizeLent p1 f1) fun r3 f4 =>
  none
set_option maxRecDepth 100000 in
set_option maxHeartbeats 4000000 in
theorem th_X8_sizeOfRefuses_0 (L : Nat) (p1 : Int32) (p2 : Int32) (p3 : Int32) (f : pd_M) (q : Int32) (g : pd_M) (e : fn_X8_sizeOfRefuses_0 p1 p2 p3 f = some (q, g)) : pr_C L 3 109 [.ref 17, .int p1, .int p2, .int p3] (hH f) (some (.int q)) (hH g) := by
  refine pr_C.of (G := mt_X8_sizeOfRefuses) rfl rfl ?_
  show pr_G L 2 mt_X8_sizeOfRefuses (0, [(0, .ref 17), (1, .int p1), (2, .int p2), (3, .int p3)], [], hH f) _ _
  unfold fn_X8_sizeOfRefuses_0 at e
  refine gs_aload_n rfl rfl ?_
  refine gs_bipush (x := 13) rfl (by decide) ?_
  obtain ⟨f1, ec2, e⟩ := ob1_some e
  refine gs_callvV (st := []) rfl (pr_C_le (by decide) (th_X8_leave L 13 f f1 ec2)) rfl rfl rfl (by decide) rfl (Or.inr (by decide)) ?_
  refine gs_aload_n rfl rfl ?_
  refine gs_iload_n rfl rfl ?_
  obtain ⟨r3, f4, ec5, e⟩ := ob2_some e
  refine gs_callvI (st := []) rfl (pr_C_le (by decide) (th_X8_sizeLent L p1 f1 r3 f4 ec5)) rfl rfl rfl (by decide) rfl (Or.inr (by decide)) ?_
  refine gs_istore (lv' := [(4, .int r3), (0, .ref 17), (1, .int p1), (2, .int p2), (3, .int p3)]) rfl rfl ?_
  refine gs_iload rfl rfl ?_
  refine gs_aload_n rfl rfl ?_
  refine gs_iload_n rfl rfl ?_
  refine gs_iload_n rfl rfl ?_
  refine gs_iload_n rfl rfl ?_
  refine gs_iconst (x := 1) rfl (by decide) ?_
  refine gs_iadd rfl ?_
  cases e
def fn_X8_askSize_0 (p1 : Int32) (p2 : Int32) (p3 : Int32) (f : pd_M) : Option (Int32 × pd_M) :=
  if p3 ≤ 4 then
  if p2 = 1 then
  ob2 (fn_X8_sizeOfGiven p1 f) fun r3 f4 =>
  some (r3, f4)
  else
  if p2 = 2 then
  ob2 (fn_X8_sizeOfRefuses_0 p1 p2 p3 f) fun r7 f8 =>
  some (r7, f8)
  else
  if p2 = 3 then
  ob2 (fn_X8_sizeOfBefore p1 f) fun r11 f12 =>
  some (r11, f12)
  else
  if p2 = 4 then
  ob2 (fn_X8_sizeOfGiven p1 f) fun r15 f16 =>
  some (r15, f16)
  else
  if p2 = 5 then
  ob2 (fn_X8_sizeOfQuarrel p1 f) fun r19 f20 =>
  some (r19, f20)
  else
  ob2 (fn_X8_sizeLent p1 f) fun r22 f23 =>
  some (r22, f23)
  else
  some (0, f)
set_option maxRecDepth 100000 in
set_option maxHeartbeats 4000000 in
theorem th_X8_askSize_0 (L : Nat) (p1 : Int32) (p2 : Int32) (p3 : Int32) (f : pd_M) (q : Int32) (g : pd_M) (e : fn_X8_askSize_0 p1 p2 p3 f = some (q, g)) : pr_C L 5 104 [.ref 17, .int p1, .int p2, .int p3] (hH f) (some (.int q)) (hH g) := by
  refine pr_C.of (G := mt_X8_askSize) rfl rfl ?_
  show pr_G L 4 mt_X8_askSize (0, [(0, .ref 17), (1, .int p1), (2, .int p2), (3, .int p3)], [], hH f) _ _
  unfold fn_X8_askSize_0 at e
  refine gs_iload_n rfl rfl ?_
  refine gs_iconst (x := 4) rfl (by decide) ?_
  refine gs_le2 rfl (fun c1 => ?_) (fun c1 => ?_)
  · rw [if_pos c1] at e
    refine gs_iload_n rfl rfl ?_
    by_cases c2 : p2 = 1
    · rw [if_pos c2] at e
      refine gs_switch (t := 44) rfl (by rw [c2]; decide) ?_
      refine gs_aload_n rfl rfl ?_
      refine gs_iload_n rfl rfl ?_
      obtain ⟨r3, f4, ec5, e⟩ := ob2_some e
      refine gs_callvI (st := []) rfl (pr_C_le (by decide) (th_X8_sizeOfGiven L p1 f r3 f4 ec5)) rfl rfl rfl (by decide) rfl (Or.inr (by decide)) ?_
      obtain ⟨rfl, rfl⟩ := inj2 e
      exact gs_iret rfl rfl rfl rfl rfl
    · rw [if_neg c2] at e
      by_cases c6 : p2 = 2
      · rw [if_pos c6] at e
        refine gs_switch (t := 56) rfl (by rw [c6]; decide) ?_
        refine gs_aload_n rfl rfl ?_
        refine gs_iload_n rfl rfl ?_
        refine gs_iload_n rfl rfl ?_
        refine gs_iload_n rfl rfl ?_
        obtain ⟨r7, f8, ec9, e⟩ := ob2_some e
        refine gs_callvI (st := []) rfl (pr_C_le (by decide) (th_X8_sizeOfRefuses_0 L p1 p2 p3 f r7 f8 ec9)) rfl rfl rfl (by decide) rfl (Or.inr (by decide)) ?_
        obtain ⟨rfl, rfl⟩ := inj2 e
        exact gs_iret rfl rfl rfl rfl rfl
      · rw [if_neg c6] at e
        by_cases c10 : p2 = 3
        · rw [if_pos c10] at e
          refine gs_switch (t := 50) rfl (by rw [c10]; decide) ?_
          refine gs_aload_n rfl rfl ?_
          refine gs_iload_n rfl rfl ?_
          obtain ⟨r11, f12, ec13, e⟩ := ob2_some e
          refine gs_callvI (st := []) rfl (pr_C_le (by decide) (th_X8_sizeOfBefore L p1 f r11 f12 ec13)) rfl rfl rfl (by decide) rfl (Or.inr (by decide)) ?_
          obtain ⟨rfl, rfl⟩ := inj2 e
          exact gs_iret rfl rfl rfl rfl rfl
        · rw [if_neg c10] at e
          by_cases c14 : p2 = 4
          · rw [if_pos c14] at e
            refine gs_switch (t := 44) rfl (by rw [c14]; decide) ?_
            refine gs_aload_n rfl rfl ?_
            refine gs_iload_n rfl rfl ?_
            obtain ⟨r15, f16, ec17, e⟩ := ob2_some e
            refine gs_callvI (st := []) rfl (pr_C_le (by decide) (th_X8_sizeOfGiven L p1 f r15 f16 ec17)) rfl rfl rfl (by decide) rfl (Or.inr (by decide)) ?_
            obtain ⟨rfl, rfl⟩ := inj2 e
            exact gs_iret rfl rfl rfl rfl rfl
          · rw [if_neg c14] at e
            by_cases c18 : p2 = 5
            · rw [if_pos c18] at e
              refine gs_switch (t := 64) rfl (by rw [c18]; decide) ?_
              refine gs_aload_n rfl rfl ?_
              refine gs_iload_n rfl rfl ?_
              obtain ⟨r19, f20, ec21, e⟩ := ob2_some e
              refine gs_callvI (st := []) rfl (pr_C_le (by decide) (th_X8_sizeOfQuarrel L p1 f r19 f20 ec21)) rfl rfl rfl (by decide) rfl (Or.inr (by decide)) ?_
              obtain ⟨rfl, rfl⟩ := inj2 e
              exact gs_iret rfl rfl rfl rfl rfl
            · rw [if_neg c18] at e
              refine gs_switch (t := 70) rfl (sw_out (lo := 1) (hi := 5) (by decide) (fun k hk => by
                rcases (by omega : k = 1 ∨ k = 2 ∨ k = 3 ∨ k = 4 ∨ k = 5) with rfl | rfl | rfl | rfl | rfl
                · exact fun z => c2 (z.trans (by decide))
                · exact fun z => c6 (z.trans (by decide))
                · exact fun z => c10 (z.trans (by decide))
                · exact fun z => c14 (z.trans (by decide))
                · exact fun z => c18 (z.trans (by decide))) (by decide)) ?_
              refine gs_aload_n rfl rfl ?_
              refine gs_iload_n rfl rfl ?_
              obtain ⟨r22, f23, ec24, e⟩ := ob2_some e
              refine gs_callvI (st := []) rfl (pr_C_le (by decide) (th_X8_sizeLent L p1 f r22 f23 ec24)) rfl rfl rfl (by decide) rfl (Or.inr (by decide)) ?_
              obtain ⟨rfl, rfl⟩ := inj2 e
              exact gs_iret rfl rfl rfl rfl rfl
  · rw [if_neg c1] at e
    refine gs_iconst (x := 0) rfl (by decide) ?_
    obtain ⟨rfl, rfl⟩ := inj2 e
    exact gs_iret rfl rfl rfl rfl rfl
def fn_X8_markOfLoose_1 (p1 : Int32) (p2 : Int32) (p3 : Int32) (f : pd_M) : Option (Int32 × pd_M) :=
  ob1 (fn_X8_leave 22 f) fun f1 =>
  ob2 (fn_X8_markOfGiven p1 f1) fun r3 f4 =>
  ob2 (fn_X8_askSize_0 p1 p2 (p3 + 1) f4) fun r6 f7 =>
  some ((r3 + r6), f7)
set_option maxRecDepth 100000 in
set_option maxHeartbeats 4000000 in
theorem th_X8_markOfLoose_1 (L : Nat) (p1 : Int32) (p2 : Int32) (p3 : Int32) (f : pd_M) (q : Int32) (g : pd_M) (e : fn_X8_markOfLoose_1 p1 p2 p3 f = some (q, g)) : pr_C L 6 113 [.ref 17, .int p1, .int p2, .int p3] (hH f) (some (.int q)) (hH g) := by
  refine pr_C.of (G := mt_X8_markOfLoose) rfl rfl ?_
  show pr_G L 5 mt_X8_markOfLoose (0, [(0, .ref 17), (1, .int p1), (2, .int p2), (3, .int p3)], [], hH f) _ _
  unfold fn_X8_markOfLoose_1 at e
  refine gs_aload_n rfl rfl ?_
  refine gs_bipush (x := 22) rfl (by decide) ?_
  obtain ⟨f1, ec2, e⟩ := ob1_some e
  refine gs_callvV (st := []) rfl (pr_C_le (by decide) (th_X8_leave L 22 f f1 ec2)) rfl rfl rfl (by decide) rfl (Or.inr (by decide)) ?_
  refine gs_aload_n rfl rfl ?_
  refine gs_iload_n rfl rfl ?_
  obtain ⟨r3, f4, ec5, e⟩ := ob2_some e
  refine gs_callvI (st := []) rfl (pr_C_le (by decide) (th_X8_markOfGiven L p1 f1 r3 f4 ec5)) rfl rfl rfl (by decide) rfl (Or.inr (by decide)) ?_
  refine gs_istore (lv' := [(4, .int r3), (0, .ref 17), (1, .int p1), (2, .int p2), (3, .int p3)]) rfl rfl ?_
  refine gs_iload rfl rfl ?_
  refine gs_aload_n rfl rfl ?_
  refine gs_iload_n rfl rfl ?_
  refine gs_iload_n rfl rfl ?_
  refine gs_iload_n rfl rfl ?_
  refine gs_iconst (x := 1) rfl (by decide) ?_
  refine gs_iadd rfl ?_
  obtain ⟨r6, f7, ec8, e⟩ := ob2_some e
  refine gs_callvI (st := [.int r3]) rfl (pr_C_le (by decide) (th_X8_askSize_0 L p1 p2 (p3 + 1) f4 r6 f7 ec8)) rfl rfl rfl (by decide) rfl (Or.inr (by decide)) ?_
  refine gs_iadd rfl ?_
  obtain ⟨rfl, rfl⟩ := inj2 e
  exact gs_iret rfl rfl rfl rfl rfl
def fn_X8_askMark_1 (p1 : Int32) (p2 : Int32) (p3 : Int32) (f : pd_M) : Option (Int32 × pd_M) :=
  if p3 ≤ 4 then
  if p2 = 1 then
  ob2 (fn_X8_markOfGiven p1 f) fun r3 f4 =>
  some (r3, f4)
  else
  if p2 = 2 then
  ob2 (fn_X8_markLent p1 f) fun r7 f8 =>
  some (r7, f8)
  else
  if p2 = 3 then
  ob2 (fn_X8_markOfGiven p1 f) fun r11 f12 =>
  some (r11, f12)
  else
  if p2 = 4 then
  ob2 (fn_X8_markOfLoose_1 p1 p2 p3 f) fun r15 f16 =>
  some (r15, f16)
  else
  if p2 = 5 then
  ob2 (fn_X8_markOfQuarrel p1 f) fun r19 f20 =>
  some (r19, f20)
  else
  ob2 (fn_X8_markLent p1 f) fun r22 f23 =>
  some (r22, f23)
  else
  some (0, f)
set_option maxRecDepth 100000 in
set_option maxHeartbeats 4000000 in
theorem th_X8_askMark_1 (L : Nat) (p1 : Int32) (p2 : Int32) (p3 : Int32) (f : pd_M) (q : Int32) (g : pd_M) (e : fn_X8_askMark_1 p1 p2 p3 f = some (q, g)) : pr_C L 7 105 [.ref 17, .int p1, .int p2, .int p3] (hH f) (some (.int q)) (hH g) := by
  refine pr_C.of (G := mt_X8_askMark) rfl rfl ?_
  show pr_G L 6 mt_X8_askMark (0, [(0, .ref 17), (1, .int p1), (2, .int p2), (3, .int p3)], [], hH f) _ _
  unfold fn_X8_askMark_1 at e
  refine gs_iload_n rfl rfl ?_
  refine gs_iconst (x := 4) rfl (by decide) ?_
  refine gs_le2 rfl (fun c1 => ?_) (fun c1 => ?_)
  · rw [if_pos c1] at e
    refine gs_iload_n rfl rfl ?_
    by_cases c2 : p2 = 1
    · rw [if_pos c2] at e
      refine gs_switch (t := 44) rfl (by rw [c2]; decide) ?_
      refine gs_aload_n rfl rfl ?_
      refine gs_iload_n rfl rfl ?_
      obtain ⟨r3, f4, ec5, e⟩ := ob2_some e
      refine gs_callvI (st := []) rfl (pr_C_le (by decide) (th_X8_markOfGiven L p1 f r3 f4 ec5)) rfl rfl rfl (by decide) rfl (Or.inr (by decide)) ?_
      obtain ⟨rfl, rfl⟩ := inj2 e
      exact gs_iret rfl rfl rfl rfl rfl
    · rw [if_neg c2] at e
      by_cases c6 : p2 = 2
      · rw [if_pos c6] at e
        refine gs_switch (t := 64) rfl (by rw [c6]; decide) ?_
        refine gs_aload_n rfl rfl ?_
        refine gs_iload_n rfl rfl ?_
        obtain ⟨r7, f8, ec9, e⟩ := ob2_some e
        refine gs_callvI (st := []) rfl (pr_C_le (by decide) (th_X8_markLent L p1 f r7 f8 ec9)) rfl rfl rfl (by decide) rfl (Or.inr (by decide)) ?_
        obtain ⟨rfl, rfl⟩ := inj2 e
        exact gs_iret rfl rfl rfl rfl rfl
      · rw [if_neg c6] at e
        by_cases c10 : p2 = 3
        · rw [if_pos c10] at e
          refine gs_switch (t := 44) rfl (by rw [c10]; decide) ?_
          refine gs_aload_n rfl rfl ?_
          refine gs_iload_n rfl rfl ?_
          obtain ⟨r11, f12, ec13, e⟩ := ob2_some e
          refine gs_callvI (st := []) rfl (pr_C_le (by decide) (th_X8_markOfGiven L p1 f r11 f12 ec13)) rfl rfl rfl (by decide) rfl (Or.inr (by decide)) ?_
          obtain ⟨rfl, rfl⟩ := inj2 e
          exact gs_iret rfl rfl rfl rfl rfl
        · rw [if_neg c10] at e
          by_cases c14 : p2 = 4
          · rw [if_pos c14] at e
            refine gs_switch (t := 50) rfl (by rw [c14]; decide) ?_
            refine gs_aload_n rfl rfl ?_
            refine gs_iload_n rfl rfl ?_
            refine gs_iload_n rfl rfl ?_
            refine gs_iload_n rfl rfl ?_
            obtain ⟨r15, f16, ec17, e⟩ := ob2_some e
            refine gs_callvI (st := []) rfl (pr_C_le (by decide) (th_X8_markOfLoose_1 L p1 p2 p3 f r15 f16 ec17)) rfl rfl rfl (by decide) rfl (Or.inr (by decide)) ?_
            obtain ⟨rfl, rfl⟩ := inj2 e
            exact gs_iret rfl rfl rfl rfl rfl
          · rw [if_neg c14] at e
            by_cases c18 : p2 = 5
            · rw [if_pos c18] at e
              refine gs_switch (t := 58) rfl (by rw [c18]; decide) ?_
              refine gs_aload_n rfl rfl ?_
              refine gs_iload_n rfl rfl ?_
              obtain ⟨r19, f20, ec21, e⟩ := ob2_some e
              refine gs_callvI (st := []) rfl (pr_C_le (by decide) (th_X8_markOfQuarrel L p1 f r19 f20 ec21)) rfl rfl rfl (by decide) rfl (Or.inr (by decide)) ?_
              obtain ⟨rfl, rfl⟩ := inj2 e
              exact gs_iret rfl rfl rfl rfl rfl
            · rw [if_neg c18] at e
              refine gs_switch (t := 64) rfl (sw_out (lo := 1) (hi := 5) (by decide) (fun k hk => by
                rcases (by omega : k = 1 ∨ k = 2 ∨ k = 3 ∨ k = 4 ∨ k = 5) with rfl | rfl | rfl | rfl | rfl
                · exact fun z => c2 (z.trans (by decide))
                · exact fun z => c6 (z.trans (by decide))
                · exact fun z => c10 (z.trans (by decide))
                · exact fun z => c14 (z.trans (by decide))
                · exact fun z => c18 (z.trans (by decide))) (by decide)) ?_
              refine gs_aload_n rfl rfl ?_
              refine gs_iload_n rfl rfl ?_
              obtain ⟨r22, f23, ec24, e⟩ := ob2_some e
              refine gs_callvI (st := []) rfl (pr_C_le (by decide) (th_X8_markLent L p1 f r22 f23 ec24)) rfl rfl rfl (by decide) rfl (Or.inr (by decide)) ?_
              obtain ⟨rfl, rfl⟩ := inj2 e
              exact gs_iret rfl rfl rfl rfl rfl
  · rw [if_neg c1] at e
    refine gs_iconst (x := 0) rfl (by decide) ?_
    obtain ⟨rfl, rfl⟩ := inj2 e
    exact gs_iret rfl rfl rfl rfl rfl
def fn_X8_sizeOfRefuses_2 (p1 : Int32) (p2 : Int32) (p3 : Int32) (f : pd_M) : Option (Int32 × pd_M) :=
  ob1 (fn_X8_leave 13 f) fun f1 =>
  ob2 (fn_X8_sizeLent p1 f1) fun r3 f4 =>
  ob2 (fn_X8_askMark_1 p1 p2 (p3 + 1) f4) fun r6 f7 =>
  some ((r3 - r6), f7)
set_option maxRecDepth 100000 in
set_option maxHeartbeats 4000000 in
theorem th_X8_sizeOfRefuses_2 (L : Nat) (p1 : Int32) (p2 : Int32) (p3 : Int32) (f : pd_M) (q : Int32) (g : pd_M) (e : fn_X8_sizeOfRefuses_2 p1 p2 p3 f = some (q, g)) : pr_C L 8 109 [.ref 17, .int p1, .int p2, .int p3] (hH f) (some (.int q)) (hH g) := by
  refine pr_C.of (G := mt_X8_sizeOfRefuses) rfl rfl ?_
  show pr_G L 7 mt_X8_sizeOfRefuses (0, [(0, .ref 17), (1, .int p1), (2, .int p2), (3, .int p3)], [], hH f) _ _
  unfold fn_X8_sizeOfRefuses_2 at e
  refine gs_aload_n rfl rfl ?_
  refine gs_bipush (x := 13) rfl (by decide) ?_
  obtain ⟨f1, ec2, e⟩ := ob1_some e
  refine gs_callvV (st := []) rfl (pr_C_le (by decide) (th_X8_leave L 13 f f1 ec2)) rfl rfl rfl (by decide) rfl (Or.inr (by decide)) ?_
  refine gs_aload_n rfl rfl ?_
  refine gs_iload_n rfl rfl ?_
  obtain ⟨r3, f4, ec5, e⟩ := ob2_some e
  refine gs_callvI (st := []) rfl (pr_C_le (by decide) (th_X8_sizeLent L p1 f1 r3 f4 ec5)) rfl rfl rfl (by decide) rfl (Or.inr (by decide)) ?_
  refine gs_istore (lv' := [(4, .int r3), (0, .ref 17), (1, .int p1), (2, .int p2), (3, .int p3)]) rfl rfl ?_
  refine gs_iload rfl rfl ?_
  refine gs_aload_n rfl rfl ?_
  refine gs_iload_n rfl rfl ?_
  refine gs_iload_n rfl rfl ?_
  refine gs_iload_n rfl rfl ?_
  refine gs_iconst (x := 1) rfl (by decide) ?_
  refine gs_iadd rfl ?_
  obtain ⟨r6, f7, ec8, e⟩ := ob2_some e
  refine gs_callvI (st := [.int r3]) rfl (pr_C_le (by decide) (th_X8_askMark_1 L p1 p2 (p3 + 1) f4 r6 f7 ec8)) rfl rfl rfl (by decide) rfl (Or.inr (by decide)) ?_
  refine gs_isub rfl ?_
  obtain ⟨rfl, rfl⟩ := inj2 e
  exact gs_iret rfl rfl rfl rfl rfl
def fn_X8_askSize_2 (p1 : Int32) (p2 : Int32) (p3 : Int32) (f : pd_M) : Option (Int32 × pd_M) :=
  if p3 ≤ 4 then
  if p2 = 1 then
  ob2 (fn_X8_sizeOfGiven p1 f) fun r3 f4 =>
  some (r3, f4)
  else
  if p2 = 2 then
  ob2 (fn_X8_sizeOfRefuses_2 p1 p2 p3 f) fun r7 f8 =>
  some (r7, f8)
  else
  if p2 = 3 then
  ob2 (fn_X8_sizeOfBefore p1 f) fun r11 f12 =>
  some (r11, f12)
  else
  if p2 = 4 then
  ob2 (fn_X8_sizeOfGiven p1 f) fun r15 f16 =>
  some (r15, f16)
  else
  if p2 = 5 then
  ob2 (fn_X8_sizeOfQuarrel p1 f) fun r19 f20 =>
  some (r19, f20)
  else
  ob2 (fn_X8_sizeLent p1 f) fun r22 f23 =>
  some (r22, f23)
  else
  some (0, f)
set_option maxRecDepth 100000 in
set_option maxHeartbeats 4000000 in
theorem th_X8_askSize_2 (L : Nat) (p1 : Int32) (p2 : Int32) (p3 : Int32) (f : pd_M) (q : Int32) (g : pd_M) (e : fn_X8_askSize_2 p1 p2 p3 f = some (q, g)) : pr_C L 9 104 [.ref 17, .int p1, .int p2, .int p3] (hH f) (some (.int q)) (hH g) := by
  refine pr_C.of (G := mt_X8_askSize) rfl rfl ?_
  show pr_G L 8 mt_X8_askSize (0, [(0, .ref 17), (1, .int p1), (2, .int p2), (3, .int p3)], [], hH f) _ _
  unfold fn_X8_askSize_2 at e
  refine gs_iload_n rfl rfl ?_
  refine gs_iconst (x := 4) rfl (by decide) ?_
  refine gs_le2 rfl (fun c1 => ?_) (fun c1 => ?_)
  · rw [if_pos c1] at e
    refine gs_iload_n rfl rfl ?_
    by_cases c2 : p2 = 1
    · rw [if_pos c2] at e
      refine gs_switch (t := 44) rfl (by rw [c2]; decide) ?_
      refine gs_aload_n rfl rfl ?_
      refine gs_iload_n rfl rfl ?_
      obtain ⟨r3, f4, ec5, e⟩ := ob2_some e
      refine gs_callvI (st := []) rfl (pr_C_le (by decide) (th_X8_sizeOfGiven L p1 f r3 f4 ec5)) rfl rfl rfl (by decide) rfl (Or.inr (by decide)) ?_
      obtain ⟨rfl, rfl⟩ := inj2 e
      exact gs_iret rfl rfl rfl rfl rfl
    · rw [if_neg c2] at e
      by_cases c6 : p2 = 2
      · rw [if_pos c6] at e
        refine gs_switch (t := 56) rfl (by rw [c6]; decide) ?_
        refine gs_aload_n rfl rfl ?_
        refine gs_iload_n rfl rfl ?_
        refine gs_iload_n rfl rfl ?_
        refine gs_iload_n rfl rfl ?_
        obtain ⟨r7, f8, ec9, e⟩ := ob2_some e
        refine gs_callvI (st := []) rfl (pr_C_le (by decide) (th_X8_sizeOfRefuses_2 L p1 p2 p3 f r7 f8 ec9)) rfl rfl rfl (by decide) rfl (Or.inr (by decide)) ?_
        obtain ⟨rfl, rfl⟩ := inj2 e
        exact gs_iret rfl rfl rfl rfl rfl
      · rw [if_neg c6] at e
        by_cases c10 : p2 = 3
        · rw [if_pos c10] at e
          refine gs_switch (t := 50) rfl (by rw [c10]; decide) ?_
          refine gs_aload_n rfl rfl ?_
          refine gs_iload_n rfl rfl ?_
          obtain ⟨r11, f12, ec13, e⟩ := ob2_some e
          refine gs_callvI (st := []) rfl (pr_C_le (by decide) (th_X8_sizeOfBefore L p1 f r11 f12 ec13)) rfl rfl rfl (by decide) rfl (Or.inr (by decide)) ?_
          obtain ⟨rfl, rfl⟩ := inj2 e
          exact gs_iret rfl rfl rfl rfl rfl
        · rw [if_neg c10] at e
          by_cases c14 : p2 = 4
          · rw [if_pos c14] at e
            refine gs_switch (t := 44) rfl (by rw [c14]; decide) ?_
            refine gs_aload_n rfl rfl ?_
            refine gs_iload_n rfl rfl ?_
            obtain ⟨r15, f16, ec17, e⟩ := ob2_some e
            refine gs_callvI (st := []) rfl (pr_C_le (by decide) (th_X8_sizeOfGiven L p1 f r15 f16 ec17)) rfl rfl rfl (by decide) rfl (Or.inr (by decide)) ?_
            obtain ⟨rfl, rfl⟩ := inj2 e
            exact gs_iret rfl rfl rfl rfl rfl
          · rw [if_neg c14] at e
            by_cases c18 : p2 = 5
            · rw [if_pos c18] at e
              refine gs_switch (t := 64) rfl (by rw [c18]; decide) ?_
              refine gs_aload_n rfl rfl ?_
              refine gs_iload_n rfl rfl ?_
              obtain ⟨r19, f20, ec21, e⟩ := ob2_some e
              refine gs_callvI (st := []) rfl (pr_C_le (by decide) (th_X8_sizeOfQuarrel L p1 f r19 f20 ec21)) rfl rfl rfl (by decide) rfl (Or.inr (by decide)) ?_
              obtain ⟨rfl, rfl⟩ := inj2 e
              exact gs_iret rfl rfl rfl rfl rfl
            · rw [if_neg c18] at e
              refine gs_switch (t := 70) rfl (sw_out (lo := 1) (hi := 5) (by decide) (fun k hk => by
                rcases (by omega : k = 1 ∨ k = 2 ∨ k = 3 ∨ k = 4 ∨ k = 5) with rfl | rfl | rfl | rfl | rfl
                · exact fun z => c2 (z.trans (by decide))
                · exact fun z => c6 (z.trans (by decide))
                · exact fun z => c10 (z.trans (by decide))
                · exact fun z => c14 (z.trans (by decide))
                · exact fun z => c18 (z.trans (by decide))) (by decide)) ?_
              refine gs_aload_n rfl rfl ?_
              refine gs_iload_n rfl rfl ?_
              obtain ⟨r22, f23, ec24, e⟩ := ob2_some e
              refine gs_callvI (st := []) rfl (pr_C_le (by decide) (th_X8_sizeLent L p1 f r22 f23 ec24)) rfl rfl rfl (by decide) rfl (Or.inr (by decide)) ?_
              obtain ⟨rfl, rfl⟩ := inj2 e
              exact gs_iret rfl rfl rfl rfl rfl
  · rw [if_neg c1] at e
    refine gs_iconst (x := 0) rfl (by decide) ?_
    obtain ⟨rfl, rfl⟩ := inj2 e
    exact gs_iret rfl rfl rfl rfl rfl
def fn_X8_ask (p1 : Int32) (p2 : Int32) (f : pd_M) : Option (Int32 × pd_M) :=
  ob1 (fn_X7_hasSaying p1 f) fun r1 =>
  if r1 = 0 then
  some ((-1000001), f)
  else
  if (fn_X8_isBelow p2 2) = 0 then
  some ((-1000001), f)
  else
  pn ((pi_up f 17 6 0)) fun f5 =>
  ob1 (fn_X7_kindOf p1 f5) fun r6 =>
  if p2 = 0 then
  ob2 (fn_X8_askSize_2 p1 r6 0 f5) fun r12 f13 =>
  some (r12, f13)
  else
  ob2 (fn_X8_askMark_2 p1 r6 0 f5) fun r9 f10 =>
  some (r9, f10)
set_option maxRecDepth 100000 in
set_option maxHeartbeats 4000000 in
theorem th_X8_ask (L : Nat) (p1 : Int32) (p2 : Int32) (f : pd_M) (q : Int32) (g : pd_M) (e : fn_X8_ask p1 p2 f = some (q, g)) : pr_C L 10 82 [.ref 17, .int p1, .int p2] (hH f) (some (.int q)) (hH g) := by
  refine pr_C.of (G := mt_X8_ask) rfl rfl ?_
  show pr_G L 9 mt_X8_ask (0, [(0, .ref 17), (1, .int p1), (2, .int p2)], [], hH f) _ _
  unfold fn_X8_ask at e
  refine gs_aload_n rfl rfl ?_
  refine gs_get rfl (gd_r (b := 39) rfl rfl rfl) ?_
  refine gs_iload_n rfl rfl ?_
  obtain ⟨r1, ec2, e⟩ := ob1_some e
  refine gs_callvI (st := []) rfl (pr_C_le (by decide) (th_X7_hasSaying L p1 f r1 ec2)) rfl rfl rfl (by decide) rfl (Or.inr (by decide)) ?_
  refine gs_eq0 rfl (fun c3 => ?_) (fun c3 => ?_)
  · rw [if_pos c3] at e
    refine gs_ldc (x := (-1000001)) rfl (by decide) ?_
    obtain ⟨rfl, rfl⟩ := inj2 e
    exact gs_iret rfl rfl rfl rfl rfl
  · rw [if_neg c3] at e
    refine gs_iload_n rfl rfl ?_
    refine gs_iconst (x := 2) rfl (by decide) ?_
    refine gs_callsI (st := []) rfl (pr_C_le (by decide) (th_X8_isBelow L p2 2 f _ rfl)) rfl rfl rfl (by decide) ?_
    refine gs_ne0 rfl (fun c4 => ?_) (fun c4 => ?_)
    · rw [if_neg c4] at e
      refine gs_aload_n rfl rfl ?_
      refine gs_iconst (x := 0) rfl (by decide) ?_
      refine gs_put rfl (gd_pi rfl rfl) ?_
      obtain ⟨f5, hf5, e⟩ := pn_some e
      refine gs_heap hf5 ?_
      refine gs_aload_n rfl rfl ?_
      refine gs_get rfl (gd_r (b := 39) rfl rfl rfl) ?_
      refine gs_iload_n rfl rfl ?_
      obtain ⟨r6, ec7, e⟩ := ob1_some e
      refine gs_callvI (st := []) rfl (pr_C_le (by decide) (th_X7_kindOf L p1 f5 r6 ec7)) rfl rfl rfl (by decide) rfl (Or.inr (by decide)) ?_
      refine gs_istore_n (lv' := [(3, .int r6), (0, .ref 17), (1, .int p1), (2, .int p2)]) rfl rfl ?_
      refine gs_iload_n rfl rfl ?_
      refine gs_ne0 rfl (fun c8 => ?_) (fun c8 => ?_)
      · rw [if_neg c8] at e
        refine gs_aload_n rfl rfl ?_
        refine gs_iload_n rfl rfl ?_
        refine gs_iload_n rfl rfl ?_
        refine gs_iconst (x := 0) rfl (by decide) ?_
        obtain ⟨r9, f10, ec11, e⟩ := ob2_some e
        refine gs_callvI (st := []) rfl (pr_C_le (by decide) (th_X8_askMark_2 L p1 r6 0 f5 r9 f10 ec11)) rfl rfl rfl (by decide) rfl (Or.inr (by decide)) ?_
        obtain ⟨rfl, rfl⟩ := inj2 e
        exact gs_iret rfl rfl rfl rfl rfl
      · rw [if_pos c8] at e
        refine gs_aload_n rfl rfl ?_
        refine gs_iload_n rfl rfl ?_
        refine gs_iload_n rfl rfl ?_
        refine gs_iconst (x := 0) rfl (by decide) ?_
        obtain ⟨r12, f13, ec14, e⟩ := ob2_some e
        refine gs_callvI (st := []) rfl (pr_C_le (by decide) (th_X8_askSize_2 L p1 r6 0 f5 r12 f13 ec14)) rfl rfl rfl (by decide) rfl (Or.inr (by decide)) ?_
        refine gs_goto rfl ?_
        obtain ⟨rfl, rfl⟩ := inj2 e
        exact gs_iret rfl rfl rfl rfl rfl
    · rw [if_pos c4] at e
      refine gs_ldc (x := (-1000001)) rfl (by decide) ?_
      obtain ⟨rfl, rfl⟩ := inj2 e
      exact gs_iret rfl rfl rfl rfl rfl
def fn_X8_trace (p1 : Int32) (f : pd_M) : Option (Int32) :=
  if (fn_X8_isBelow p1 (f 17 6)) = 0 then
  some (-1000000)
  else
  if pa_in p1 16 = true then
  some (f 109 p1.toNatClampNeg)
  else none
set_option maxRecDepth 100000 in
set_option maxHeartbeats 4000000 in
theorem th_X8_trace (L : Nat) (p1 : Int32) (f : pd_M) (q : Int32) (e : fn_X8_trace p1 f = some q) : pr_C L 2 83 [.ref 17, .int p1] (hH f) (some (.int q)) (hH f) := by
  refine pr_C.of (G := mt_X8_trace) rfl rfl ?_
  show pr_G L 1 mt_X8_trace (0, [(0, .ref 17), (1, .int p1)], [], hH f) _ _
  unfold fn_X8_trace at e
  refine gs_iload_n rfl rfl ?_
  refine gs_aload_n rfl rfl ?_
  refine gs_get rfl (gd_i rfl rfl) ?_
  refine gs_callsI (st := []) rfl (pr_C_le (by decide) (th_X8_isBelow L p1 (f 17 6) f _ rfl)) rfl rfl rfl (by decide) ?_
  refine gs_eq0 rfl (fun c1 => ?_) (fun c1 => ?_)
  · rw [if_pos c1] at e
    refine gs_ldc (x := (-1000000)) rfl (by decide) ?_
    obtain rfl := inj1 e
    exact gs_iret rfl rfl rfl rfl rfl
  · rw [if_neg c1] at e
    refine gs_aload_n rfl rfl ?_
    refine gs_get rfl (gd_r (b := 109) rfl rfl rfl) ?_
    refine gs_iload_n rfl rfl ?_
    by_cases hb2 : pa_in p1 16 = true
    case neg => rw [if_neg hb2] at e; cases e
    rw [if_pos hb2] at e
    refine gs_iald rfl (gd_ia (j := p1.toNatClampNeg) rfl hb2 rfl) ?_
    refine gs_goto rfl ?_
    obtain rfl := inj1 e
    exact gs_iret rfl rfl rfl rfl rfl
def lp_X8_countSheets_4 : Nat → Int32 → Int32 → pd_M → Option (Int32)
  | 0, _, _, _ => none
  | n + 1, z1, z2, f =>
    if 8 ≤ z2 then
    some (z1)
    else
    if pa_in z2 8 = true then
    ob1 (if (f (19 + 2 * z2.toNatClampNeg) 1) = 0 then
    some (z1)
    else
    pn (z1 + 1) fun x5 =>
    some (x5)) fun (y4 : Int32) =>
    pn (z2 + 1) fun x6 =>
    lp_X8_countSheets_4 n y4 x6 f
    else none
def fn_X8_countSheets (f : pd_M) : Option (Int32) :=
  ob1 (lp_X8_countSheets_4 5000 0 0 f) fun y7 =>
  some y7
set_option maxRecDepth 100000 in
set_option maxHeartbeats 4000000 in
theorem tl_X8_countSheets_4 (L : Nat) : ∀ (n : Nat) (z1 : Int32) (z2 : Int32) (f : pd_M) (w0 : Int32) (r : Option Value) (h2 : ph_T), lp_X8_countSheets_4 n z1 z2 f = some (w0) → pr_G L 0 mt_X8_countSheets (31, [(1, .int w0)], [], hH f) r h2 → pr_G L 0 mt_X8_countSheets (4, [(0, .ref 17), (1, .int z1), (2, .int z2)], [], hH f) r h2 := by
  intro n
  induction n with
  | zero => intro z1 z2 f w0 r h2 e; cases e
  | succ n ih =>
    intro z1 z2 f w0 r h2 e K
    unfold lp_X8_countSheets_4 at e
    refine gs_iload_n rfl rfl ?_
    refine gs_bipush (x := 8) rfl (by decide) ?_
    refine gs_ge2 rfl (fun c1 => ?_) (fun c1 => ?_)
    · rw [if_pos c1] at e
      obtain rfl := inj1 e
      refine gs_drop [1] rfl ?_
      exact K
    · rw [if_neg c1] at e
      refine gs_aload_n rfl rfl ?_
      refine gs_get rfl (gd_r (b := 18) rfl rfl rfl) ?_
      refine gs_iload_n rfl rfl ?_
      by_cases hb2 : pa_in z2 8 = true
      case neg => rw [if_neg hb2] at e; cases e
      rw [if_pos hb2] at e
      refine gs_aald rfl (gd_aa (b := (19 + 2 * z2.toNatClampNeg)) rfl (by decide) rfl hb2 rfl (arr_rf_18 (lt_of_in hb2))) ?_
      refine gs_get rfl (gd_i (sh_of (arr_sh_18 (lt_of_in hb2)) (by decide)) rfl) ?_
      obtain ⟨y4, ev25, e⟩ := ob1_some e
      have KJ25 : pr_G L 0 mt_X8_countSheets (25, [(0, .ref 17), (1, .int y4), (2, .int z2)], [], hH f) r h2 := by
        obtain ⟨x6, hx6, e⟩ := pn_some e
        refine gs_iinc1 (x1 := x6) (c := 1) (lv' := [(2, .int x6), (0, .ref 17), (1, .int y4)]) rfl rfl (by decide) hx6 rfl ?_
        refine gs_goto rfl ?_
        refine gs_drop [1, 2, 0] rfl ?_
        exact ih y4 x6 f w0 _ _ e K
      have e := ev25
      clear ev25
      refine gs_eq0 rfl (fun c3 => ?_) (fun c3 => ?_)
      · rw [if_pos c3] at e
        obtain rfl := inj1 e
        refine gs_drop [0, 1, 2] rfl ?_
        exact KJ25
      · rw [if_neg c3] at e
        obtain ⟨x5, hx5, e⟩ := pn_some e
        refine gs_iinc1 (x1 := x5) (c := 1) (lv' := [(1, .int x5), (0, .ref 17), (2, .int z2)]) rfl rfl (by decide) hx5 rfl ?_
        obtain rfl := inj1 e
        refine gs_drop [1, 0, 2] rfl ?_
        exact KJ25
set_option maxRecDepth 100000 in
set_option maxHeartbeats 4000000 in
theorem th_X8_countSheets (L : Nat)  (f : pd_M) (q : Int32) (e : fn_X8_countSheets f = some q) : pr_C L 1 88 [.ref 17] (hH f) (some (.int q)) (hH f) := by
  refine pr_C.of (G := mt_X8_countSheets) rfl rfl ?_
  show pr_G L 0 mt_X8_countSheets (0, [(0, .ref 17)], [], hH f) _ _
  unfold fn_X8_countSheets at e
  refine gs_iconst (x := 0) rfl (by decide) ?_
  refine gs_istore_n (lv' := [(1, .int 0), (0, .ref 17)]) rfl rfl ?_
  refine gs_iconst (x := 0) rfl (by decide) ?_
  refine gs_istore_n (lv' := [(2, .int 0), (1, .int 0), (0, .ref 17)]) rfl rfl ?_
  refine gs_drop [2, 1, 0] rfl ?_
  obtain ⟨y7, el8, e⟩ := ob1_some e
  refine tl_X8_countSheets_4 L 5000 0 0 f y7 _ _ el8 ?_
  refine gs_iload_n rfl rfl ?_
  obtain rfl := inj1 e
  exact gs_iret rfl rfl rfl rfl rfl
def fn_X8_count (p1 : Int32) (f : pd_M) : Option (Int32) :=
  if p1 = 0 then
  ob1 (fn_X8_countSheets f) fun r2 =>
  some r2
  else
  if p1 = 1 then
  ob1 (fn_X7_countEditions f) fun r5 =>
  some r5
  else
  if p1 = 2 then
  some (f 40 4)
  else
  if p1 = 3 then
  ob1 (fn_X7_countKept f) fun r9 =>
  some r9
  else
  if p1 = 4 then
  ob1 (fn_X7_countWithin f) fun r12 =>
  some r12
  else
  if p1 = 5 then
  some (f 35 3)
  else
  some (-1000001)
set_option maxRecDepth 100000 in
set_option maxHeartbeats 4000000 in
theorem th_X8_count (L : Nat) (p1 : Int32) (f : pd_M) (q : Int32) (e : fn_X8_count p1 f = some q) : pr_C L 3 84 [.ref 17, .int p1] (hH f) (some (.int q)) (hH f) := by
  refine pr_C.of (G := mt_X8_count) rfl rfl ?_
  show pr_G L 2 mt_X8_count (0, [(0, .ref 17), (1, .int p1)], [], hH f) _ _
  unfold fn_X8_count at e
  refine gs_iload_n rfl rfl ?_
  by_cases c1 : p1 = 0
  · rw [if_pos c1] at e
    refine gs_switch (t := 40) rfl (by rw [c1]; decide) ?_
    refine gs_aload_n rfl rfl ?_
    obtain ⟨r2, ec3, e⟩ := ob1_some e
    refine gs_callvI (st := []) rfl (pr_C_le (by decide) (th_X8_countSheets L f r2 ec3)) rfl rfl rfl (by decide) rfl (Or.inr (by decide)) ?_
    obtain rfl := inj1 e
    exact gs_iret rfl rfl rfl rfl rfl
  · rw [if_neg c1] at e
    by_cases c4 : p1 = 1
    · rw [if_pos c4] at e
      refine gs_switch (t := 45) rfl (by rw [c4]; decide) ?_
      refine gs_aload_n rfl rfl ?_
      refine gs_get rfl (gd_r (b := 39) rfl rfl rfl) ?_
      obtain ⟨r5, ec6, e⟩ := ob1_some e
      refine gs_callvI (st := []) rfl (pr_C_le (by decide) (th_X7_countEditions L f r5 ec6)) rfl rfl rfl (by decide) rfl (Or.inr (by decide)) ?_
      obtain rfl := inj1 e
      exact gs_iret rfl rfl rfl rfl rfl
    · rw [if_neg c4] at e
      by_cases c7 : p1 = 2
      · rw [if_pos c7] at e
        refine gs_switch (t := 53) rfl (by rw [c7]; decide) ?_
        refine gs_aload_n rfl rfl ?_
        refine gs_get rfl (gd_r (b := 39) rfl rfl rfl) ?_
        refine gs_get rfl (gd_r (b := 40) rfl rfl rfl) ?_
        refine gs_get rfl (gd_i rfl rfl) ?_
        obtain rfl := inj1 e
        exact gs_iret rfl rfl rfl rfl rfl
      · rw [if_neg c7] at e
        by_cases c8 : p1 = 3
        · rw [if_pos c8] at e
          refine gs_switch (t := 64) rfl (by rw [c8]; decide) ?_
          refine gs_aload_n rfl rfl ?_
          refine gs_get rfl (gd_r (b := 39) rfl rfl rfl) ?_
          obtain ⟨r9, ec10, e⟩ := ob1_some e
          refine gs_callvI (st := []) rfl (pr_C_le (by decide) (th_X7_countKept L f r9 ec10)) rfl rfl rfl (by decide) rfl (Or.inr (by decide)) ?_
          obtain rfl := inj1 e
          exact gs_iret rfl rfl rfl rfl rfl
        · rw [if_neg c8] at e
          by_cases c11 : p1 = 4
          · rw [if_pos c11] at e
            refine gs_switch (t := 72) rfl (by rw [c11]; decide) ?_
            refine gs_aload_n rfl rfl ?_
            refine gs_get rfl (gd_r (b := 39) rfl rfl rfl) ?_
            obtain ⟨r12, ec13, e⟩ := ob1_some e
            refine gs_callvI (st := []) rfl (pr_C_le (by decide) (th_X7_countWithin L f r12 ec13)) rfl rfl rfl (by decide) rfl (Or.inr (by decide)) ?_
            obtain rfl := inj1 e
            exact gs_iret rfl rfl rfl rfl rfl
          · rw [if_neg c11] at e
            by_cases c14 : p1 = 5
            · rw [if_pos c14] at e
              refine gs_switch (t := 80) rfl (by rw [c14]; decide) ?_
              refine gs_aload_n rfl rfl ?_
              refine gs_get rfl (gd_r (b := 35) rfl rfl rfl) ?_
              refine gs_get rfl (gd_i rfl rfl) ?_
              obtain rfl := inj1 e
              exact gs_iret rfl rfl rfl rfl rfl
            · rw [if_neg c14] at e
              refine gs_switch (t := 88) rfl (sw_out (lo := 0) (hi := 5) (by decide) (fun k hk => by
                rcases (by omega : k = 0 ∨ k = 1 ∨ k = 2 ∨ k = 3 ∨ k = 4 ∨ k = 5) with rfl | rfl | rfl | rfl | rfl | rfl
                · exact fun z => c1 (z.trans (by decide))
                · exact fun z => c4 (z.trans (by decide))
                · exact fun z => c7 (z.trans (by decide))
                · exact fun z => c8 (z.trans (by decide))
                · exact fun z => c11 (z.trans (by decide))
                · exact fun z => c14 (z.trans (by decide))) (by decide)) ?_
              refine gs_ldc (x := (-1000001)) rfl (by decide) ?_
              obtain rfl := inj1 e
              exact gs_iret rfl rfl rfl rfl rfl
