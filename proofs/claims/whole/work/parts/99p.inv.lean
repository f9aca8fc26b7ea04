/-! PURE: what holds between calls -/
def Inv (f : pd_M) : Prop := SSh f ∧ SFi f ∧ Td f ∧ Tr f ∧ (Ab f ∧ We f ∧ Wd f) ∧ f 17 7 = f 110 31 ∧ Ta f
theorem kp {L d m : Nat} {As : List Value} {r : Option Value} {f g : pd_M} (h : pr_C L d m As (hH f) r (hH g)) (k : Nat) : g 0 k = f 0 k := congrFun ((pr_mono L d m As (hH f) r (hH g) h).2.2 0 (by omega)) k
theorem Ext_fr {f g : pd_M} (h : Ab f ∧ We f ∧ Wd f) (hf : ∀ a k, a < 17 → g a k = f a k) : Ab g ∧ We g ∧ Wd g := by
  obtain ⟨h1, h2, h3⟩ := h
  refine ⟨?_, fun s hs => ?_, fun q hq j hj => ?_⟩
  · unfold Ab at h1 ⊢
    simp (disch := omega) only [hf 1]
    exact h1
  · rw [hf 2 s (by omega)]; exact h2 s hs
  · rw [hf (10 + q) j (by omega)]; exact h3 q hq j hj
theorem SSh_f2 {f g : pd_M} (hS : SSh f) (h : ∀ a k, (19 ≤ a ∧ a ≤ 34 ∨ 111 ≤ a ∧ a ≤ 113) → g a k = f a k) : SSh g := fun i hi => Sh1_congr (fun k => h _ k (by omega)) (fun k _ => h _ k (by omega)) (h _ _ (by omega)) (h _ _ (by omega)) (fun k _ => h _ _ (by omega)) (hS i hi)
theorem Tr_f2 {f g : pd_M} (h : Tr f) (h1 : g 17 6 = f 17 6) (h2 : g 110 43 = f 110 43) (h3 : ∀ a k, (a = 109 ∨ a = 140) → g a k = f a k) : Tr g := by
  obtain ⟨n, a1, a2, a3, a4⟩ := h
  refine ⟨n, a1, by rw [h1]; exact a2, by rw [h2]; exact a3, fun k hk => ?_⟩
  rw [h3 109 k (by omega), h3 140 k (by omega)]
  exact a4 k hk
theorem Ta_f2 {f g : pd_M} (h : Ta f) (h1 : g 35 3 = f 35 3) (h2 : g 110 30 = f 110 30) (h3 : ∀ a k, (a = 36 ∨ a = 136) → g a k = f a k) : Ta g := by
  obtain ⟨n, a1, a2, a3, a4⟩ := h
  refine ⟨n, a1, by rw [h1]; exact a2, by rw [h2]; exact a3, fun k hk => ?_⟩
  rw [h3 36 k (by omega), h3 136 k (by omega)]
  exact a4 k hk
/-- nothing but these cells changes: no invariant sees them -/
theorem Inv_q {f g : pd_M} (h : Inv f) (hf : ∀ a k, a ≠ 106 → a ≠ 107 → a ≠ 108 → a ≠ 137 → a ≠ 138 → a ≠ 139 → ¬ (a = 110 ∧ k = 0) → g a k = f a k) : Inv g := by
  obtain ⟨h1, h2, h3, h4, h5, h6, h7⟩ := h
  have q : ∀ a k, (a < 106 ∨ a = 109 ∨ (a = 110 ∧ k ≠ 0) ∨ (111 ≤ a ∧ a ≤ 136) ∨ 140 ≤ a) → g a k = f a k := fun a k z => hf a k (by omega) (by omega) (by omega) (by omega) (by omega) (by omega) (by omega)
  refine ⟨SSh_f2 h1 (fun a k z => q a k (by omega)), ?_, Td_fr ⟨q 110 12 (by omega), fun a k z => q a k (by omega)⟩ h3, Tr_f2 h4 (q _ _ (by omega)) (q _ _ (by omega)) (fun a k z => q a k (by omega)), Ext_fr h5 (fun a k z => q a k (by omega)), ?_, Ta_f2 h7 (q _ _ (by omega)) (q _ _ (by omega)) (fun a k z => q a k (by omega))⟩
  · unfold SFi
    rw [q 17 8 (by omega), q 110 1 (by omega)]
    exact h2
  · rw [q 17 7 (by omega), q 110 31 (by omega)]
    exact h6
theorem Inv_z {f : pd_M} (h : Inv f) : Inv (pi_up f 110 0 0) := Inv_q h (fun a k _ _ _ _ _ _ q => pu_n (by omega))
theorem Inv_S {f g : pd_M} (h : Inv f) (h1 : SSh g) (h2 : SFi g) (hf : FrS f g) : Inv g := by
  obtain ⟨-, -, h3, h4, h5, h6, h7⟩ := h
  obtain ⟨q1, q2, q3⟩ := hf
  refine ⟨h1, h2, Td_fr ⟨q2 12 (by omega) (by omega), fun a k z => q1 a k (by omega) (by omega)⟩ h3, Tr_f2 h4 (q3 6 (by omega)) (q2 43 (by omega) (by omega)) (fun a k z => q1 a k (by omega) (by omega)), Ext_fr h5 (fun a k z => q1 a k (by omega) (by omega)), ?_, Ta_f2 h7 (q1 _ _ (by omega) (by omega)) (q2 30 (by omega) (by omega)) (fun a k z => q1 a k (by omega) (by omega))⟩
  rw [q3 7 (by omega), q2 31 (by omega) (by omega)]
  exact h6
theorem Inv_X {f g : pd_M} (h : Inv f) (hf : FrX f g) : Inv g := by
  obtain ⟨h1, -, h3, h4, h5, h6, h7⟩ := h
  obtain ⟨q0, q1⟩ := hf
  refine ⟨SSh_f2 h1 (fun a k z => q1 a k (by omega) (by omega)), q0, Td_fr ⟨q1 110 12 (by omega) (by omega), fun a k z => q1 a k (by omega) (by omega)⟩ h3, Tr_f2 h4 (q1 _ _ (by omega) (by omega)) (q1 _ _ (by omega) (by omega)) (fun a k z => q1 a k (by omega) (by omega)), Ext_fr h5 (fun a k z => q1 a k (by omega) (by omega)), ?_, Ta_f2 h7 (q1 _ _ (by omega) (by omega)) (q1 _ _ (by omega) (by omega)) (fun a k z => q1 a k (by omega) (by omega))⟩
  rw [q1 17 7 (by omega) (by omega), q1 110 31 (by omega) (by omega)]
  exact h6
/-- a call that changes memory on both sides, and one that does not -/
def G2 (x y : pd_M → Option (Int32 × pd_M)) (f : pd_M) : Prop := ∃ r f1 f2, x f = some (r, f1) ∧ (∀ k, f1 0 k = f 0 k) ∧ y f1 = some (r, f2) ∧ Inv f2
def G1 (x : Option Int32) (y : Option (Int32 × pd_M)) : Prop := ∃ r f2, x = some r ∧ y = some (r, f2) ∧ Inv f2
theorem G1_R {x : Option Int32} {y : Option (Int32 × pd_M)} {f : pd_M} (h : Inv f) (o : OpR x y f) : G1 x y := by
  obtain ⟨r, e1, e2⟩ := o
  exact ⟨r, _, e1, e2, Inv_z h⟩
theorem g_sheet {f : pd_M} (h : Inv f) (a b c : Int32) : G2 (fn_X8_sheet a b c) (fn_X9_sheet a b c) f := by
  obtain ⟨r, f1, f2, e1, e2, e3, e4, e5⟩ := op_sheet h.1 h.2.1 a b c
  exact ⟨r, f1, f2, e1, kp (th_X8_sheet 0 a b c f r f1 e1), e2, Inv_S h e3 e4 e5⟩
theorem g_set {f : pd_M} (h : Inv f) (a b c : Int32) : G2 (fn_X8_set a b c) (fn_X9_set a b c) f := by
  obtain ⟨r, f1, f2, e1, e2, e3, e4, e5⟩ := op_set h.1 h.2.1 a b c
  exact ⟨r, f1, f2, e1, kp (th_X8_set 0 a b c f r f1 e1), e2, Inv_S h e3 e4 e5⟩
theorem g_copy {f : pd_M} (h : Inv f) (a b c d e : Int32) : G2 (fn_X8_copy a b c d e) (fn_X9_copy a b c d e) f := by
  obtain ⟨r, f1, f2, e1, e2, e3, e4, e5⟩ := op_copy h.1 h.2.1 a b c d e
  exact ⟨r, f1, f2, e1, kp (th_X8_copy 0 a b c d e f r f1 e1), e2, Inv_S h e3 e4 e5⟩
theorem g_drop {f : pd_M} (h : Inv f) (a : Int32) : G2 (fn_X8_drop a) (fn_X9_drop a) f := by
  obtain ⟨r, f1, f2, e1, e2, e3, e4, e5⟩ := op_drop h.1 h.2.1 a
  exact ⟨r, f1, f2, e1, kp (th_X8_drop 0 a f r f1 e1), e2, Inv_S h e3 e4 e5⟩
theorem g_feed {f : pd_M} (h : Inv f) (w : Int64) (a : Int32) : G2 (fn_X8_feed w a) (fn_X9_feed w a) f := by
  obtain ⟨r, f1, f2, e1, e2, e3, e4⟩ := op_feed h.2.2.2.2.2.2 w a
  have q : ∀ a k, (a < 35 ∨ (37 ≤ a ∧ a < 110) ∨ (a = 110 ∧ k ≠ 0 ∧ k ≠ 30) ∨ (111 ≤ a ∧ a < 136) ∨ 137 ≤ a) → f2 a k = f a k := fun a k z => e4 a k (by omega) (by omega) (by omega) (by omega)
  obtain ⟨h1, h2, h3, h4, h5, h6, h7⟩ := h
  refine ⟨r, f1, f2, e1, kp (th_X8_feed 0 w a f r f1 e1), e2, SSh_f2 h1 (fun a k z => q a k (by omega)), ?_, Td_fr ⟨q 110 12 (by omega), fun a k z => q a k (by omega)⟩ h3, Tr_f2 h4 (q _ _ (by omega)) (q _ _ (by omega)) (fun a k z => q a k (by omega)), Ext_fr h5 (fun a k z => q a k (by omega)), ?_, e3⟩
  · unfold SFi
    rw [q 17 8 (by omega), q 110 1 (by omega)]
    exact h2
  · rw [q 17 7 (by omega), q 110 31 (by omega)]
    exact h6
theorem g_laws {f : pd_M} (h : Inv f) : G2 fn_X8_laws fn_X9_laws f := by
  obtain ⟨h1, h2, h3, h4, h5, h6, h7⟩ := h
  obtain ⟨r, f1, f2, e1, e2, e3, e4, e5, q⟩ := op_laws h3 h7 h5.2.2 h6
  refine ⟨r, f1, f2, e1, kp (th_X8_laws 0 f r f1 e1), e2, SSh_f2 h1 (fun a k z => q a k (by omega)), ?_, e3, Tr_f2 h4 (q _ _ (by omega)) (q _ _ (by omega)) (fun a k z => q a k (by omega)), Ext_fr h5 (fun a k z => q a k (by omega)), e5, e4⟩
  unfold SFi
  rw [q 17 8 (by omega), q 110 1 (by omega)]
  exact h2
theorem g_allows {f : pd_M} (h : Inv f) (a b c d : Int32) : G2 (fn_X8_allows a b c d) (fn_X9_allows a b c d) f := by
  obtain ⟨r, f1, f2, e1, e2, e3⟩ := op_allows h.2.2.1 h.1 h.2.1 a b c d
  exact ⟨r, f1, f2, e1, kp (th_X8_allows 0 a b c d f r f1 e1), e2, Inv_X h e3⟩
theorem g_as {f : pd_M} (h : Inv f) (a b : Int32) : G2 (fn_X8_as a b) (fn_X9_as a b) f := by
  obtain ⟨r, f1, f2, e1, e2, e3⟩ := op_as h.2.2.1 h.2.2.2.2.1.1 h.2.1 a b
  exact ⟨r, f1, f2, e1, kp (th_X8_as 0 a b f r f1 e1), e2, Inv_X h e3⟩
theorem g_letOut {f : pd_M} (h : Inv f) (a b c : Int32) : G2 (fn_X8_letOut a b c) (fn_X9_letOut a b c) f := by
  obtain ⟨r, f1, f2, e1, e2, e3⟩ := op_letOut h.2.2.1 h.2.2.2.2.1.2.1 a b c
  exact ⟨r, f1, f2, e1, kp (th_X8_letOut 0 a b c f r f1 e1), e2, Inv_q h (fun a k q1 q2 q3 q4 q5 _ q7 => e3 a k q1 q2 q3 q4 q5 q7)⟩
theorem g_ask {f : pd_M} (h : Inv f) (a b : Int32) : G2 (fn_X8_ask a b) (fn_X9_ask a b) f := by
  obtain ⟨r, f1, f2, e1, e2, e3, e4⟩ := op_ask h.2.2.1 a b h.2.2.2.1
  have q : ∀ a k, (a < 17 ∨ (a = 17 ∧ k ≠ 6) ∨ (18 ≤ a ∧ a < 109) ∨ (a = 110 ∧ k ≠ 0 ∧ k ≠ 43) ∨ (111 ≤ a ∧ a < 140) ∨ 141 ≤ a) → f2 a k = f a k := fun a k z => e4 a k (by omega) (by omega) (by omega) (by omega)
  obtain ⟨h1, h2, h3, h4, h5, h6, h7⟩ := h
  refine ⟨r, f1, f2, e1, kp (th_X8_ask 0 a b f r f1 e1), e2, SSh_f2 h1 (fun a k z => q a k (by omega)), ?_, Td_fr ⟨q 110 12 (by omega), fun a k z => q a k (by omega)⟩ h3, e3, Ext_fr h5 (fun a k z => q a k (by omega)), ?_, Ta_f2 h7 (q _ _ (by omega)) (q _ _ (by omega)) (fun a k z => q a k (by omega))⟩
  · unfold SFi
    rw [q 17 8 (by omega), q 110 1 (by omega)]
    exact h2
  · rw [q 17 7 (by omega), q 110 31 (by omega)]
    exact h6
theorem g_hours {f : pd_M} (h : Inv f) (a : Int32) : G1 (fn_X8_hours a f) (fn_X9_hours a f) := by
  obtain ⟨r, f2, e1, e2, e3⟩ := op_hours h.2.2.1 a
  exact ⟨r, f2, e1, e2, Inv_q h (fun a k _ _ _ _ _ q6 q7 => e3 a k q6 q7)⟩
theorem g_count {f : pd_M} (h : Inv f) (a : Int32) : G1 (fn_X8_count a f) (fn_X9_count a f) := G1_R h (op_count h.2.2.1 h.1 h.2.2.2.2.2.2 a)
/-- at the start -/
theorem Inv_0 (xs : Nat → Int32) : Inv (f_init xs) := by
  have e : ∀ a j, 17 ≤ a → f_init xs a j = INI a j := fun a j ha => by unfold f_init; rw [if_neg (by omega)]
  have e0 : ∀ a j, 17 ≤ a → a ≠ 111 → a ≠ 43 → a ≠ 104 → a ≠ 132 → f_init xs a j = 0 := fun a j ha h1 h2 h3 h4 => by
    rw [e a j ha]
    unfold INI
    rw [if_neg h1, if_neg (by omega)]
  have e1 : ∀ j, f_init xs 111 j = -1 := fun j => by rw [e 111 j (by omega)]; rfl
  have e4 : ∀ a j, (a = 43 ∨ a = 132) → f_init xs a j = -1000000 := fun a j ha => by
    rw [e a j (by omega)]
    unfold INI
    rw [if_neg (by omega), if_pos (by omega)]
  have v0 : vw (f_init xs) 0 0 = 0 := by
    unfold vw
    rw [if_pos rfl, e0 110 12 (by omega) (by omega) (by omega) (by omega) (by omega)]
    rfl
  have v1 : ∀ a j, (a = 114 ∨ a = 133) → vw (f_init xs) a j = 0 := fun a j ha => by
    rw [vw_a (by omega), e0 a j (by omega) (by omega) (by omega) (by omega) (by omega)]
    rfl
  refine ⟨fun j hj => ⟨Or.inr ⟨?_, e1 j⟩, ⟨0, by omega, ?_, ?_⟩, fun k hk => ?_⟩, ?_, ⟨⟨?_, ?_, ?_⟩, fun s hs => ⟨?_, ?_, ?_⟩, fun i hi => ?_, fun s hs x hx => ?_, fun s hs x hx => ?_, fun g hg => ?_, fun k hk => ?_, fun s hs => ⟨?_, ?_, ?_, ?_, ?_⟩⟩, ⟨0, by omega, ?_, ?_, fun k hk => absurd hk (by omega)⟩, ⟨?_, fun s hs => ?_, fun q hq j hj => ?_⟩, ?_, ⟨0, by omega, ?_, ?_, fun k hk => absurd hk (by omega)⟩⟩
  · exact e0 _ _ (by omega) (by omega) (by omega) (by omega) (by omega)
  · exact e0 _ _ (by omega) (by omega) (by omega) (by omega) (by omega)
  · exact e0 _ _ (by omega) (by omega) (by omega) (by omega) (by omega)
  · rw [e0 _ _ (by omega) (by omega) (by omega) (by omega) (by omega), e0 _ _ (by omega) (by omega) (by omega) (by omega) (by omega)]
  · unfold SFi
    rw [e0 _ _ (by omega) (by omega) (by omega) (by omega) (by omega), e0 _ _ (by omega) (by omega) (by omega) (by omega) (by omega)]
  · rw [v0]; exact e0 _ _ (by omega) (by omega) (by omega) (by omega) (by omega)
  · rw [v0]; exact e0 _ _ (by omega) (by omega) (by omega) (by omega) (by omega)
  · omega
  · rw [v1 114 s (by omega)]; exact e0 _ _ (by omega) (by omega) (by omega) (by omega) (by omega)
  · rw [v1 114 s (by omega)]; exact e0 _ _ (by omega) (by omega) (by omega) (by omega) (by omega)
  · rw [v1 114 s (by omega)]; omega
  · omega
  · rw [v1 114 s (by omega)] at hx; omega
  · rw [v1 114 s (by omega)] at hx; omega
  · have : sQ (vw (f_init xs)) g = 0 := by
      unfold sQ
      rw [v0, if_neg (Nat.not_lt_zero _), if_neg (Nat.not_lt_zero _)]
    rw [this]
    exact e0 _ _ (by omega) (by omega) (by omega) (by omega) (by omega)
  · rw [e0 _ _ (by omega) (by omega) (by omega) (by omega) (by omega), e0 _ _ (by omega) (by omega) (by omega) (by omega) (by omega)]
  · rw [e4 43 s (by omega), e4 132 s (by omega)]
  · exact Or.inl (e4 132 s (by omega))
  · rw [e0 _ _ (by omega) (by omega) (by omega) (by omega) (by omega), e0 _ _ (by omega) (by omega) (by omega) (by omega) (by omega)]
  · rw [v1 133 s (by omega)]; exact e0 _ _ (by omega) (by omega) (by omega) (by omega) (by omega)
  · rw [v1 133 s (by omega)]; omega
  · exact e0 _ _ (by omega) (by omega) (by omega) (by omega) (by omega)
  · exact e0 _ _ (by omega) (by omega) (by omega) (by omega) (by omega)
  · exact ⟨rfl, rfl, rfl, rfl, rfl, rfl⟩
  · have w : ∀ s, s < 4 → wl_WE s = nI (5 ^ s) := by decide +kernel
    exact w s hs
  · have w : ∀ q, q < 7 → ∀ j, j < wQl q → (wl_BY.getD q []).getD j 0 = nI (wQb q j) := by decide +kernel
    have z : f_init xs (10 + q) j = (wl_BY.getD q []).getD j 0 := by
      unfold f_init X0
      rw [if_pos (by omega), if_neg (by omega), if_neg (by omega), if_neg (by omega), if_pos (by omega), Nat.add_sub_cancel_left]
    rw [z]
    exact w q hq j hj
  · rw [e0 _ _ (by omega) (by omega) (by omega) (by omega) (by omega), e0 _ _ (by omega) (by omega) (by omega) (by omega) (by omega)]
  · exact e0 _ _ (by omega) (by omega) (by omega) (by omega) (by omega)
  · exact e0 _ _ (by omega) (by omega) (by omega) (by omega) (by omega)
