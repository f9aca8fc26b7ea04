/-! PURE: all that is told, and frames -/
def sHn (x : Nat) : Bool := !x.testBit 28 && decide (fi x 0 = 0 ∨ fi x 1 = 0 ∨ fi x 2 = 0 ∨ fi x 3 = 0)
def sP2 (M : Nat → Nat → Nat) (g b c : Nat) : Bool := decide (M 123 b = g ∧ M 123 c = g ∧ ab M b &&& ab M c ≠ 0) && sHn (al M b &&& al M c)
def sP3 (M : Nat → Nat → Nat) (g a b c : Nat) : Bool := decide (M 123 a = g ∧ M 123 b = g ∧ M 123 c = g ∧ (ab M b &&& ab M c) &&& ab M a ≠ 0) && sHn ((al M b &&& al M c) &&& al M a)
def sQ2 (M : Nat → Nat → Nat) (g c : Nat) : Nat := ff (fun b => sP2 M g b c) c 0
def sQ3 (M : Nat → Nat → Nat) (g b c : Nat) : Nat := ff (fun a => sP3 M g a b c) b 0
def sQb (M : Nat → Nat → Nat) (g c : Nat) : Nat := ff (fun b => decide (sQ3 M g b c < b)) c 0
def sQi (M : Nat → Nat → Nat) (g : Nat) : Nat := ff (fun c => decide (sQ2 M g c < c)) (M 0 0) 0
def sQk (M : Nat → Nat → Nat) (g : Nat) : Nat := ff (fun c => decide (sQb M g c < c)) (M 0 0) 0
def sQ (M : Nat → Nat → Nat) (g : Nat) : Nat :=
  if sQi M g < M 0 0 then 2 ^ sQ2 M g (sQi M g) ||| 2 ^ sQi M g
  else if sQk M g < M 0 0 then (2 ^ sQ3 M g (sQb M g (sQk M g)) (sQk M g) ||| 2 ^ sQb M g (sQk M g)) ||| 2 ^ sQk M g else 0
def Td (f : pd_M) : Prop :=
  (f 110 12 = nI (vw f 0 0) ∧ f 40 4 = nI (vw f 0 0) ∧ vw f 0 0 ≤ 20) ∧
  (∀ s, s < 4 → f 114 s = nI (vw f 114 s) ∧ f 41 s = nI (vw f 114 s) ∧ vw f 114 s ≤ 4) ∧
  (∀ i, i < vw f 0 0 → Sy f i) ∧
  (∀ s, s < 4 → ∀ e, e < vw f 114 s → Ed f (4 * s + e)) ∧
  (∀ s, s < 4 → ∀ e, e < vw f 114 s → f (68 + 2 * (4 * s + e)) 1 = nI (orF (sKs (vw f) s e) (vw f 0 0))) ∧
  (∀ g, g < 4 → f 47 g = nI (sQ (vw f) g)) ∧
  (∀ k, k < 16 → f 42 k = f 130 k) ∧
  (∀ s, s < 4 → f 43 s = f 132 s ∧ (f 132 s = -1000000 ∨ ∃ h, h < 100 ∧ f 132 s = nI h) ∧ f 44 s = f 133 s ∧ f 133 s = nI (vw f 133 s) ∧ vw f 133 s < 16)
def FrT (f g : pd_M) : Prop := g 110 12 = f 110 12 ∧ ∀ a k, (40 ≤ a ∧ a < 100 ∨ 114 ≤ a ∧ a < 134) → g a k = f a k
theorem vw_fr {f g : pd_M} (h : FrT f g) : vw g = vw f := by
  funext a k
  unfold vw
  by_cases h0 : a = 0
  · rw [if_pos h0, if_pos h0, h.1]
  · rw [if_neg h0, if_neg h0]
    by_cases h1 : 114 ≤ a ∧ a < 134
    · rw [if_pos h1, if_pos h1, h.2 a k (Or.inr h1)]
    · rw [if_neg h1, if_neg h1]
theorem Sy_fr {f g : pd_M} (h : FrT f g) {i : Nat} (hi : i < 20) (hs : Sy f i) : Sy g i := by
  have h2 := h.2
  unfold Sy at hs ⊢
  rw [vw_fr h]
  rw [h2 121 i (by omega), h2 122 i (by omega), h2 123 i (by omega), h2 124 i (by omega), h2 125 i (by omega), h2 126 i (by omega), h2 127 i (by omega), h2 128 i (by omega)]
  simp (disch := omega) only [h2 (48 + i)]
  simp (disch := omega) only [h2 129]
  exact hs
theorem Ed_fr {f g : pd_M} (h : FrT f g) {e : Nat} (he : e < 16) (hs : Ed f e) : Ed g e := by
  have h2 := h.2
  unfold Ed at hs ⊢
  rw [vw_fr h]
  simp (disch := omega) only [h2 (69 + 2 * e), h2 116, h2 117, h2 118, h2 119, h2 120]
  exact hs
theorem Td_fr {f g : pd_M} (h : FrT f g) (hs : Td f) : Td g := by
  have h2 := h.2
  obtain ⟨⟨a1, a2, a3⟩, b, c, d, k, q, t, w⟩ := hs
  unfold Td
  rw [vw_fr h]
  refine ⟨⟨?_, ?_, a3⟩, fun s hs => ?_, fun i hi => Sy_fr h (by omega) (c i hi), fun s hs e he => Ed_fr h ?_ (d s hs e he), fun s hs e he => ?_, fun g hg => ?_, fun k hk => ?_, fun s hs => ?_⟩
  · rw [h.1]; exact a1
  · rw [h2 40 4 (by omega)]; exact a2
  · rw [h2 114 s (by omega), h2 41 s (by omega)]; exact b s hs
  · have := (b s hs).2.2; omega
  · have := (b s hs).2.2
    rw [h2 _ 1 (by omega)]; exact k s hs e he
  · rw [h2 47 g (by omega)]; exact q g hg
  · rw [h2 42 k (by omega), h2 130 k (by omega)]; exact t k hk
  · rw [h2 43 s (by omega), h2 132 s (by omega), h2 44 s (by omega), h2 133 s (by omega)]; exact w s hs
theorem FrT_zz (f : pd_M) : FrT f (pi_up f 110 0 0) := ⟨pu_n (by omega), fun a k h => pu_n (by omega)⟩
theorem has_in {f : pd_M} (hT : Td f) {s : Nat} (hs : s < vw f 0 0) : fn_X7_hasSaying (nI s) f = some 1 := by
  unfold fn_X7_hasSaying
  rw [hT.1.2.1, qB_in hs (by have := hT.1.2.2; omega), if_pos (Or.inr rfl)]
theorem has_out {f : pd_M} (hT : Td f) {p : Int32} (hs : ¬ (0 ≤ p.toInt ∧ p.toInt < vw f 0 0)) : fn_X7_hasSaying p f = some 0 := by
  unfold fn_X7_hasSaying
  rw [hT.1.2.1, qB_out (by have := hT.1.2.2; omega) hs, if_pos (Or.inl rfl)]
theorem isa_in {f : pd_M} (hT : Td f) {s : Nat} (hs : s < vw f 0 0) : fn_X9_isSaying (nI s) f = some 1 := by
  have := hT.1.2.2
  have hc : (0 : Int) ≤ (nI s).toInt ∧ (nI s).toInt < vw f 0 0 := by rw [nI_toInt (by omega)]; omega
  unfold fn_X9_isSaying
  rw [hT.1.1, qI_n _ (by omega), if_pos hc, if_pos (Or.inr rfl)]
theorem isa_out {f : pd_M} (hT : Td f) {p : Int32} (hs : ¬ (0 ≤ p.toInt ∧ p.toInt < vw f 0 0)) : fn_X9_isSaying p f = some 0 := by
  have := hT.1.2.2
  unfold fn_X9_isSaying
  rw [hT.1.1, qI_n _ (by omega), if_neg hs, if_pos (Or.inl rfl)]
theorem ser_in {s : Nat} (hs : s < 4) : fn_X9_isService (nI s) = some 1 := by
  have e : fn_X9_in (nI s).toInt64 0 3 = 1 := qI_in (lo := 0) (hi := 3) (by omega) (by omega) (by decide)
  unfold fn_X9_isService
  rw [e, if_pos (Or.inr rfl)]
theorem ser_out {p : Int32} (h : ¬ (0 ≤ p.toInt ∧ p.toInt < (4 : Nat))) : fn_X9_isService p = some 0 := by
  have e : fn_X9_in p.toInt64 0 3 = 0 := qI_out (lo := 0) (hi := 3) (by decide) (by decide) (by omega)
  unfold fn_X9_isService
  rw [e, if_pos (Or.inl rfl)]
/-- which SERVICE and EDITION, on both sides -/
theorem ed_cases {f : pd_M} (hT : Td f) (p e : Int32) : (fn_X7_hasEdition p e f = some 0 ∧ fn_X9_isEdition p e f = some 0) ∨ ∃ s j : Nat, s < 4 ∧ j < vw f 114 s ∧ p = nI s ∧ e = nI j ∧ fn_X7_hasEdition p e f = some 1 ∧ fn_X9_isEdition p e f = some 1 := by
  rcases q_ix p (n := 4) (by decide) with h | ⟨s, hs, rfl⟩
  · refine Or.inl ⟨?_, ?_⟩
    · unfold fn_X7_hasEdition
      rw [if_pos (show fn_X8_isBelow p 4 = 0 from qB_out (n := 4) (by decide) h)]
    · unfold fn_X9_isEdition
      rw [ser_out h]
      rfl
  · obtain ⟨e1, e2, h4⟩ := hT.2.1 s hs
    have hB : fn_X8_isBelow (nI s) 4 = 1 := qB_in (n := 4) hs (by decide)
    rcases q_ix e (n := vw f 114 s) (by omega) with h | ⟨j, hj, rfl⟩
    · refine Or.inl ⟨?_, ?_⟩
      · unfold fn_X7_hasEdition
        simp (disch := omega) only [hB, o10, zp, nI_clamp, e2, qB_out (n := vw f 114 s) (by omega) h, if_true, if_false, ↓reduceIte, Bool.false_eq_true, reduceCtorEq]
      · unfold fn_X9_isEdition
        simp (disch := omega) only [ser_in hs, ob1, o10, zp, nI_clamp, e1, qI_n, h, if_true, if_false, ↓reduceIte, Bool.false_eq_true, reduceCtorEq]
    · refine Or.inr ⟨s, j, hs, hj, rfl, rfl, ?_, ?_⟩
      · unfold fn_X7_hasEdition
        simp (disch := omega) only [hB, o10, zp, nI_clamp, e2, qB_in hj (by omega), if_true, if_false, ↓reduceIte, Bool.false_eq_true, reduceCtorEq]
      · unfold fn_X9_isEdition
        have hc : (0 : Int) ≤ (nI j).toInt ∧ (nI j).toInt < vw f 114 s := by rw [nI_toInt (by omega)]; omega
        simp (disch := omega) only [ser_in hs, ob1, o10, zp, nI_clamp, e1, qI_n, hc, and_self, if_true, if_false, ↓reduceIte, Bool.false_eq_true, reduceCtorEq]
/-- a call that only reads, on both sides -/
def OpR (x : Option Int32) (y : Option (Int32 × pd_M)) (f : pd_M) : Prop := ∃ r, x = some r ∧ y = some (r, pi_up f 110 0 0)
theorem op_editions {f : pd_M} (hT : Td f) (p : Int32) : OpR (fn_X8_editions p f) (fn_X9_editions p f) f := by
  rcases q_ix p (n := 4) (by decide) with h | ⟨s, hs, rfl⟩
  · refine ⟨-1000001, ?_, ?_⟩
    · unfold fn_X8_editions
      rw [if_pos (show fn_X8_isBelow p 4 = 0 from qB_out (n := 4) (by decide) h)]
    · simp [fn_X9_editions, pn, ser_out h, ob1]
  · obtain ⟨e1, e2, h4⟩ := hT.2.1 s hs
    have hB : fn_X8_isBelow (nI s) 4 = 1 := qB_in (n := 4) hs (by decide)
    refine ⟨nI (vw f 114 s), ?_, ?_⟩
    · unfold fn_X8_editions
      simp (disch := omega) only [hB, o10, zp, nI_clamp, e2, if_true, if_false, ↓reduceIte, Bool.false_eq_true, reduceCtorEq]
    · unfold fn_X9_editions
      simp (disch := omega) only [pn, ser_in hs, ob1, o10, zp, nI_clamp, pu_n, e1, if_true, if_false, ↓reduceIte, Bool.false_eq_true, reduceCtorEq]
theorem al_ref {f : pd_M} {s : Nat} (hy : Sy f s) : (al (vw f) s = 268435456) ↔ vw f 127 s = 1 := by
  have h := al_28 (Sy_Fo hy)
  constructor
  · intro e
    rw [e, show Nat.testBit 268435456 28 = true by decide +kernel] at h
    simpa using h.symm
  · intro e
    unfold al
    rw [if_pos e]
theorem op_saying {f : pd_M} (hT : Td f) (p w : Int32) : OpR (fn_X8_saying p w f) (fn_X9_saying p w f) f := by
  have hz := FrT_zz f
  have hG := Td_fr hz hT
  have hn := hT.1.2.2
  rcases q_ix p (n := vw f 0 0) (by omega) with h | ⟨s, hs, rfl⟩
  · refine ⟨-1000001, ?_, ?_⟩
    · simp [fn_X8_saying, has_out hT h, ob1]
    · simp [fn_X9_saying, pn, isa_out hG (by rw [vw_fr hz]; exact h), ob1]
  · have hy := hT.2.2.1 s hs
    have i1 := has_in hT hs
    have i2 := isa_in hG (s := s) (by rw [vw_fr hz]; exact hs)
    have har := al_ref hy
    have hal := al_lt (Sy_Fo hy)
    obtain ⟨⟨a1, a2, a3⟩, ⟨b1, b2, b3⟩, ⟨c1, c2, c3⟩, ⟨d1, d2⟩, ⟨e1, e2, e3, e4⟩, ⟨g1, g2, g3⟩, ⟨k1, k2, k3⟩, ⟨r1, r2⟩, -, -, w1⟩ := hy
    rcases q_ix w (n := 8) (by decide) with h | ⟨j, hj, rfl⟩
    · have e3 : fn_X9_in w.toInt64 0 7 = 0 := qI_out (lo := 0) (hi := 7) (by decide) (by decide) (by omega)
      have hne : ∀ k : Nat, k < 8 → ¬ w = nI k := fun k hk e => h (by rw [e, nI_toInt (by omega)]; omega)
      refine ⟨-1000001, ?_, ?_⟩
      · unfold fn_X8_saying
        simp (disch := omega) only [i1, ob1, o10, zp, if_true, if_false, ↓reduceIte, Bool.false_eq_true, reduceCtorEq, show ¬ w = 0 from hne 0 (by omega), show ¬ w = 1 from hne 1 (by omega), show ¬ w = 2 from hne 2 (by omega), show ¬ w = 3 from hne 3 (by omega), show ¬ w = 4 from hne 4 (by omega), show ¬ w = 5 from hne 5 (by omega), show ¬ w = 6 from hne 6 (by omega), show ¬ w = 7 from hne 7 (by omega)]
      · simp [fn_X9_saying, pn, i2, ob1, e3]
    · have e3 : fn_X9_in (nI j).toInt64 0 7 = 1 := qI_in (lo := 0) (hi := 7) (by omega) (by omega) (by decide)
      unfold OpR fn_X8_saying fn_X9_saying
      simp (disch := omega) only [pn, i1, i2, e3, ob1, o10, zp, nI_clamp, pu_n, a1, a2, b1, b2, c1, c2, d1, d2, e1, e2, g1, g2, k1, k2, r1, w1, l2, l3, l4, l5, l6, l7, lr, zc, zh, lq, har, if_true, if_false, ↓reduceIte, Bool.false_eq_true, reduceCtorEq]
      rcases (by omega : j = 0 ∨ j = 1 ∨ j = 2 ∨ j = 3 ∨ j = 4 ∨ j = 5 ∨ j = 6 ∨ j = 7) with rfl | rfl | rfl | rfl | rfl | rfl | rfl | rfl
      · exact ⟨_, rfl, rfl⟩
      · exact ⟨_, rfl, rfl⟩
      · exact ⟨_, rfl, rfl⟩
      · exact ⟨_, rfl, rfl⟩
      · exact ⟨_, rfl, rfl⟩
      · exact ⟨_, rfl, rfl⟩
      · rcases (by omega : vw f 127 s = 0 ∨ vw f 127 s = 1) with e | e
        · simp [e]
        · simp [e]
      · exact ⟨_, rfl, rfl⟩
theorem op_right {f : pd_M} (hT : Td f) (p : Int32) : OpR (fn_X8_right p f) (fn_X9_right p f) f := by
  have hz := FrT_zz f
  have hG := Td_fr hz hT
  have hn := hT.1.2.2
  rcases q_ix p (n := vw f 0 0) (by omega) with h | ⟨s, hs, rfl⟩
  · refine ⟨-1000001, ?_, ?_⟩
    · simp [fn_X8_right, has_out hT h, ob1]
    · simp [fn_X9_right, pn, isa_out hG (by rw [vw_fr hz]; exact h), ob1]
  · have hy := hT.2.2.1 s hs
    have i1 := has_in hT hs
    have i2 := isa_in hG (s := s) (by rw [vw_fr hz]; exact hs)
    obtain ⟨⟨a1, a2, a3⟩, ⟨b1, b2, b3⟩, ⟨c1, c2, c3⟩, ⟨d1, d2⟩, ⟨e1, e2, e3, e4⟩, ⟨g1, g2, g3⟩, ⟨k1, k2, k3⟩, ⟨r1, r2⟩, -, -, w1⟩ := hy
    have ht := hT.2.2.2.2.2.2.1 (4 * vw f 121 s + vw f 122 s) (by omega)
    refine ⟨nI (vw f 128 s) &&& (f 130 (4 * vw f 121 s + vw f 122 s) ^^^ (-1)), ?_, ?_⟩
    rotate_left
    · unfold fn_X9_right
      simp (disch := omega) only [pn, i2, ob1, o10, zp, nI_clamp, pu_n, a1, b1, k1, l4, pk_mul, nI_add, if_true, if_false, ↓reduceIte, Bool.false_eq_true, reduceCtorEq]
    · unfold fn_X8_right
      simp (disch := omega) only [i1, ob1, o10, zp, nI_clamp, a2, b2, k2, l4, pk_mul, nI_add, Nat.mul_comm (vw f 121 s) 4, ht, if_true, if_false, ↓reduceIte, Bool.false_eq_true, reduceCtorEq]
theorem ab_subB : ((List.range 256).all fun x => (List.range 256).all fun y => !(decide (x % 8 ≤ x / 8 % 8)) || (decide (nd (abN (x % 8) (x / 8 % 8) (x / 64)) (abN (y % 8) (y / 8 % 8) (y / 64)) = 0) == decide (y % 8 ≤ x % 8 ∧ x / 8 % 8 ≤ y / 8 % 8 ∧ (y / 64 = 3 ∨ y / 64 = x / 64)) || !(decide (y % 8 ≤ y / 8 % 8)))) = true := by decide +kernel
theorem ab_sub {lo hi m lo2 hi2 m2 : Nat} (h1 : lo ≤ hi) (h2 : hi < 8) (h3 : m < 4) (g1 : lo2 ≤ hi2) (g2 : hi2 < 8) (g3 : m2 < 4) : nd (abN lo hi m) (abN lo2 hi2 m2) = 0 ↔ (lo2 ≤ lo ∧ hi ≤ hi2 ∧ (m2 = 3 ∨ m2 = m)) := by
  have a := List.all_eq_true.mp (List.all_eq_true.mp ab_subB (lo + 8 * hi + 64 * m) (List.mem_range.mpr (by omega))) (lo2 + 8 * hi2 + 64 * m2) (List.mem_range.mpr (by omega))
  rw [show (lo + 8 * hi + 64 * m) % 8 = lo by omega, show (lo + 8 * hi + 64 * m) / 8 % 8 = hi by omega, show (lo + 8 * hi + 64 * m) / 64 = m by omega, show (lo2 + 8 * hi2 + 64 * m2) % 8 = lo2 by omega, show (lo2 + 8 * hi2 + 64 * m2) / 8 % 8 = hi2 by omega, show (lo2 + 8 * hi2 + 64 * m2) / 64 = m2 by omega] at a
  simp only [h1, g1, decide_true, Bool.not_true, Bool.false_or, Bool.or_false, beq_iff_eq, decide_eq_decide] at a
  exact a
