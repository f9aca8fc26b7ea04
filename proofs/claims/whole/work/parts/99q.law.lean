/-! PURE: the law's loop -/
theorem lw_7 {L i : Nat} (hL : L ≤ 3584) (hi : i ≤ L) : (Int32.ofNat L - 7 < nI i) = (L < i + 7) := by
  rw [q_lt, show (Int32.ofNat L - 7).toInt = (L : Int) - 7 from pk_sub_toInt (a := L) (b := 7) (by omega) (by decide), nI_toInt (by omega)]
  exact propext ⟨fun h => by omega, fun h => by omega⟩
set_option maxRecDepth 100000 in
set_option maxHeartbeats 4000000 in
theorem lw_all {L : Nat} (hL : L ≤ 3584) : ∀ (n i : Nat) (f : pd_M), L < i + 7 * n → i ≤ L → Inv f → ∃ g, lp_law L n (nI i) f = some (.inr g) := by
  intro n
  induction n with
  | zero => intro i f h1 h2 _; omega
  | succ n ih =>
    intro i f h1 h2 h
    have w7 := lw_7 hL h2
    unfold lp_law
    by_cases hx : L < i + 7
    · have w8 : Int32.ofNat L - 7 < nI i := by rw [w7]; exact hx
      rw [if_pos w8]
      exact ⟨f, rfl⟩
    have w8 : ¬ Int32.ofNat L - 7 < nI i := by rw [w7]; exact hx
    rw [if_neg w8, if_pos (zp (show i < L by omega) (by omega)), nI_clamp (show i < 2 ^ 31 by omega)]
    have next : ∀ g, Inv g → ∃ q, lp_law L n (nI (i + 7)) g = some (.inr q) := fun g hg => ih (i + 7) g (by omega) (by omega) hg
    by_cases o0 : f 0 i &&& 31 = 0
    · rw [if_pos o0]
      obtain ⟨r, f1, f2, e1, e2, e3, e4⟩ := g_sheet h (f 0 (i + 1)) (f 0 (i + 2)) (f 0 (i + 3))
      simp (disch := omega) only [l2, l3, l4, l5, l6, l7, nI_1, nI_add, zp, nI_clamp, e1, o2s, e2, e3, pn, eq_self, if_true, ↓reduceIte]
      exact next f2 e4
    rw [if_neg o0]
    by_cases o1 : f 0 i &&& 31 = 1
    · rw [if_pos o1]
      obtain ⟨r, f1, f2, e1, e2, e3, e4⟩ := g_set h (f 0 (i + 1)) (f 0 (i + 2)) (f 0 (i + 3))
      simp (disch := omega) only [l2, l3, l4, l5, l6, l7, nI_1, nI_add, zp, nI_clamp, e1, o2s, e2, e3, pn, eq_self, if_true, ↓reduceIte]
      exact next f2 e4
    rw [if_neg o1]
    by_cases o2 : f 0 i &&& 31 = 2
    · rw [if_pos o2]
      obtain ⟨r, f1, f2, e1, e2, e3, e4⟩ := g_copy h (f 0 (i + 1)) (f 0 (i + 2)) (f 0 (i + 3)) (f 0 (i + 4)) (f 0 (i + 5))
      simp (disch := omega) only [l2, l3, l4, l5, l6, l7, nI_1, nI_add, zp, nI_clamp, e1, o2s, e2, e3, pn, eq_self, if_true, ↓reduceIte]
      exact next f2 e4
    rw [if_neg o2]
    by_cases o3 : f 0 i &&& 31 = 3
    · rw [if_pos o3]
      obtain ⟨r, f1, f2, e1, e2, e3, e4⟩ := g_drop h (f 0 (i + 1))
      simp (disch := omega) only [l2, l3, l4, l5, l6, l7, nI_1, nI_add, zp, nI_clamp, e1, o2s, e2, e3, pn, eq_self, if_true, ↓reduceIte]
      exact next f2 e4
    rw [if_neg o3]
    by_cases o4 : f 0 i &&& 31 = 4
    · rw [if_pos o4]
      obtain ⟨r, f1, f2, e1, e2, e3, e4⟩ := g_feed h (((f 0 (i + 1)).toInt64 <<< ((32 : Int32).toInt64 &&& 63)) ||| ((f 0 (i + 2)).toInt64 &&& 4294967295)) (f 0 (i + 3))
      simp (disch := omega) only [l2, l3, l4, l5, l6, l7, nI_1, nI_add, zp, nI_clamp, e1, o2s, e2, e3, pn, eq_self, if_true, ↓reduceIte]
      exact next f2 e4
    rw [if_neg o4]
    by_cases o5 : f 0 i &&& 31 = 5
    · rw [if_pos o5]
      obtain ⟨r, f1, f2, e1, e2, e3, e4⟩ := g_laws h 
      simp (disch := omega) only [l2, l3, l4, l5, l6, l7, nI_1, nI_add, zp, nI_clamp, e1, o2s, e2, e3, pn, eq_self, if_true, ↓reduceIte]
      exact next f2 e4
    rw [if_neg o5]
    by_cases o6 : f 0 i &&& 31 = 6
    · rw [if_pos o6]
      obtain ⟨r, f2, e1, e3, e4⟩ := G1_R h (op_fault h.2.2.2.2.2.1)
      have e1 : fn_X8_fault f = r := Option.some.inj e1
      simp (disch := omega) only [l2, l3, l4, l5, l6, l7, nI_1, nI_add, zp, nI_clamp, e1, o2s, e3, pn, eq_self, if_true, ↓reduceIte]
      exact next f2 e4
    rw [if_neg o6]
    by_cases o7 : f 0 i &&& 31 = 7
    · rw [if_pos o7]
      obtain ⟨r, f2, e1, e3, e4⟩ := G1_R h (op_editions h.2.2.1 (f 0 (i + 1)))
      simp (disch := omega) only [l2, l3, l4, l5, l6, l7, nI_1, nI_add, zp, nI_clamp, e1, o1s, e3, o2s, pn, eq_self, if_true, ↓reduceIte]
      exact next f2 e4
    rw [if_neg o7]
    by_cases o8 : f 0 i &&& 31 = 8
    · rw [if_pos o8]
      obtain ⟨r, f2, e1, e3, e4⟩ := G1_R h (op_answer h.2.2.1 (f 0 (i + 1)) (f 0 (i + 2)) (f 0 (i + 3)) (f 0 (i + 4)) (f 0 (i + 5)))
      simp (disch := omega) only [l2, l3, l4, l5, l6, l7, nI_1, nI_add, zp, nI_clamp, e1, o1s, e3, o2s, pn, eq_self, if_true, ↓reduceIte]
      exact next f2 e4
    rw [if_neg o8]
    by_cases o9 : f 0 i &&& 31 = 9
    · rw [if_pos o9]
      obtain ⟨r, f2, e1, e3, e4⟩ := G1_R h (op_saying h.2.2.1 (f 0 (i + 1)) (f 0 (i + 2)))
      simp (disch := omega) only [l2, l3, l4, l5, l6, l7, nI_1, nI_add, zp, nI_clamp, e1, o1s, e3, o2s, pn, eq_self, if_true, ↓reduceIte]
      exact next f2 e4
    rw [if_neg o9]
    by_cases o10 : f 0 i &&& 31 = 10
    · rw [if_pos o10]
      obtain ⟨r, f2, e1, e3, e4⟩ := G1_R h (op_play h.2.2.1 (f 0 (i + 1)) (f 0 (i + 2)) (f 0 (i + 3)))
      simp (disch := omega) only [l2, l3, l4, l5, l6, l7, nI_1, nI_add, zp, nI_clamp, e1, o1s, e3, o2s, pn, eq_self, if_true, ↓reduceIte]
      exact next f2 e4
    rw [if_neg o10]
    by_cases o11 : f 0 i &&& 31 = 11
    · rw [if_pos o11]
      obtain ⟨r, f2, e1, e3, e4⟩ := G1_R h (op_standIn h.2.2.1 (f 0 (i + 1)) (f 0 (i + 2)) (f 0 (i + 3)) (f 0 (i + 4)) (f 0 (i + 5)) (f 0 (i + 6)))
      simp (disch := omega) only [l2, l3, l4, l5, l6, l7, nI_1, nI_add, zp, nI_clamp, e1, o1s, e3, o2s, pn, eq_self, if_true, ↓reduceIte]
      exact next f2 e4
    rw [if_neg o11]
    by_cases o12 : f 0 i &&& 31 = 12
    · rw [if_pos o12]
      obtain ⟨r, f1, f2, e1, e2, e3, e4⟩ := g_allows h (f 0 (i + 1)) (f 0 (i + 2)) (f 0 (i + 3)) (f 0 (i + 4))
      simp (disch := omega) only [l2, l3, l4, l5, l6, l7, nI_1, nI_add, zp, nI_clamp, e1, o2s, e2, e3, pn, eq_self, if_true, ↓reduceIte]
      exact next f2 e4
    rw [if_neg o12]
    by_cases o13 : f 0 i &&& 31 = 13
    · rw [if_pos o13]
      obtain ⟨r, f2, e1, e3, e4⟩ := G1_R h (op_noMore h.2.2.1 (f 0 (i + 1)) (f 0 (i + 2)))
      simp (disch := omega) only [l2, l3, l4, l5, l6, l7, nI_1, nI_add, zp, nI_clamp, e1, o1s, e3, o2s, pn, eq_self, if_true, ↓reduceIte]
      exact next f2 e4
    rw [if_neg o13]
    by_cases o14 : f 0 i &&& 31 = 14
    · rw [if_pos o14]
      obtain ⟨r, f2, e1, e3, e4⟩ := G1_R h (op_quarrel h.2.2.1 (f 0 (i + 1)))
      simp (disch := omega) only [l2, l3, l4, l5, l6, l7, nI_1, nI_add, zp, nI_clamp, e1, o1s, e3, o2s, pn, eq_self, if_true, ↓reduceIte]
      exact next f2 e4
    rw [if_neg o14]
    by_cases o15 : f 0 i &&& 31 = 15
    · rw [if_pos o15]
      obtain ⟨r, f2, e1, e3, e4⟩ := G1_R h (op_change h.2.2.1 (f 0 (i + 1)) (f 0 (i + 2)) (f 0 (i + 3)))
      simp (disch := omega) only [l2, l3, l4, l5, l6, l7, nI_1, nI_add, zp, nI_clamp, e1, o1s, e3, o2s, pn, eq_self, if_true, ↓reduceIte]
      exact next f2 e4
    rw [if_neg o15]
    by_cases o16 : f 0 i &&& 31 = 16
    · rw [if_pos o16]
      obtain ⟨r, f2, e1, e3, e4⟩ := G1_R h (op_right h.2.2.1 (f 0 (i + 1)))
      simp (disch := omega) only [l2, l3, l4, l5, l6, l7, nI_1, nI_add, zp, nI_clamp, e1, o1s, e3, o2s, pn, eq_self, if_true, ↓reduceIte]
      exact next f2 e4
    rw [if_neg o16]
    by_cases o17 : f 0 i &&& 31 = 17
    · rw [if_pos o17]
      obtain ⟨r, f2, e1, e3, e4⟩ := G1_R h (op_house h.2.2.1 h.2.2.2.2.1.2.1 (f 0 (i + 1)) (f 0 (i + 2)))
      simp (disch := omega) only [l2, l3, l4, l5, l6, l7, nI_1, nI_add, zp, nI_clamp, e1, o1s, e3, o2s, pn, eq_self, if_true, ↓reduceIte]
      exact next f2 e4
    rw [if_neg o17]
    by_cases o18 : f 0 i &&& 31 = 18
    · rw [if_pos o18]
      obtain ⟨r, f1, f2, e1, e2, e3, e4⟩ := g_letOut h (f 0 (i + 1)) (f 0 (i + 2)) (f 0 (i + 3))
      simp (disch := omega) only [l2, l3, l4, l5, l6, l7, nI_1, nI_add, zp, nI_clamp, e1, o2s, e2, e3, pn, eq_self, if_true, ↓reduceIte]
      exact next f2 e4
    rw [if_neg o18]
    by_cases o19 : f 0 i &&& 31 = 19
    · rw [if_pos o19]
      obtain ⟨r, f2, e1, e3, e4⟩ := g_hours h (f 0 (i + 1))
      simp (disch := omega) only [l2, l3, l4, l5, l6, l7, nI_1, nI_add, zp, nI_clamp, e1, o1s, e3, o2s, pn, eq_self, if_true, ↓reduceIte]
      exact next f2 e4
    rw [if_neg o19]
    by_cases o20 : f 0 i &&& 31 = 20
    · rw [if_pos o20]
      obtain ⟨r, f2, e1, e3, e4⟩ := G1_R h (op_kind h.2.2.1 (f 0 (i + 1)))
      simp (disch := omega) only [l2, l3, l4, l5, l6, l7, nI_1, nI_add, zp, nI_clamp, e1, o1s, e3, o2s, pn, eq_self, if_true, ↓reduceIte]
      exact next f2 e4
    rw [if_neg o20]
    by_cases o21 : f 0 i &&& 31 = 21
    · rw [if_pos o21]
      obtain ⟨r, f1, f2, e1, e2, e3, e4⟩ := g_as h (f 0 (i + 1)) (f 0 (i + 2))
      simp (disch := omega) only [l2, l3, l4, l5, l6, l7, nI_1, nI_add, zp, nI_clamp, e1, o2s, e2, e3, pn, eq_self, if_true, ↓reduceIte]
      exact next f2 e4
    rw [if_neg o21]
    by_cases o22 : f 0 i &&& 31 = 22
    · rw [if_pos o22]
      obtain ⟨r, f1, f2, e1, e2, e3, e4⟩ := g_ask h (f 0 (i + 1)) (f 0 (i + 2))
      simp (disch := omega) only [l2, l3, l4, l5, l6, l7, nI_1, nI_add, zp, nI_clamp, e1, o2s, e2, e3, pn, eq_self, if_true, ↓reduceIte]
      exact next f2 e4
    rw [if_neg o22]
    by_cases o23 : f 0 i &&& 31 = 23
    · rw [if_pos o23]
      obtain ⟨r, f2, e1, e3, e4⟩ := G1_R h (op_trace h.2.2.2.1 (f 0 (i + 1)))
      simp (disch := omega) only [l2, l3, l4, l5, l6, l7, nI_1, nI_add, zp, nI_clamp, e1, o1s, e3, o2s, pn, eq_self, if_true, ↓reduceIte]
      exact next f2 e4
    rw [if_neg o23]
    by_cases o24 : f 0 i &&& 31 = 24
    · rw [if_pos o24]
      obtain ⟨r, f2, e1, e3, e4⟩ := g_count h (f 0 (i + 1))
      simp (disch := omega) only [l2, l3, l4, l5, l6, l7, nI_1, nI_add, zp, nI_clamp, e1, o1s, e3, o2s, pn, eq_self, if_true, ↓reduceIte]
      exact next f2 e4
    rw [if_neg o24]
    by_cases o25 : f 0 i &&& 31 = 25
    · rw [if_pos o25]
      obtain ⟨r, f2, e1, e3, e4⟩ := G1_R h (op_status h.2.1)
      have e1 : fn_X8_status f = r := Option.some.inj e1
      simp (disch := omega) only [l2, l3, l4, l5, l6, l7, nI_1, nI_add, zp, nI_clamp, e1, o2s, e3, pn, eq_self, if_true, ↓reduceIte]
      exact next f2 e4
    rw [if_neg o25]
    simp (disch := omega) only [l7, nI_add, pn]
    exact next f h
theorem law_pure {L : Nat} (hL : L ≤ 3584) (xs : Nat → Int32) : ∃ g, lp_law L 5000 0 (f_init xs) = some (.inr g) := lw_all hL 5000 0 (f_init xs) (by omega) (by omega) (Inv_0 xs)
theorem whole_start {p : Program} {e : Env} {s : State} {m : MethodId} {below : List Frame} {meth : Method} {c : Code} (l : Launch) {b L : Nat} {xs : Nat → Int32} (hL : L ≤ 3584) (C0 : lw_At p s m meth c b L xs) : W p l e room_1 s m #[Value.ref b] below meth c s.heap [] 0 0 (lw_Z below #[Value.ref b] s) (entryFrame m ([Value.ref b] : List Value).toArray 4) := whole_open l C0 (law_pure hL xs)
