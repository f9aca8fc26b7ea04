/-! PURE: the class splits the tape -/
def Wd (f : pd_M) : Prop := ∀ q, q < 7 → ∀ j, j < wQl q → f (10 + q) j = nI (wQb q j)
theorem wQ_sh : ∀ q, q < 7 → (px_sh 0 (3 + q + 7)).2 = wQl q := by decide
theorem wQ_l : ∀ q, q < 7 → wQl q < 8 := by decide
theorem wQ_b : ∀ q, q < 7 → ∀ j, j < 8 → wQb q j < 128 := by decide
def Tc (L : Nat) (B : Nat → Nat) (c : pd_M) : Prop := L ≤ 500 ∧ c 35 3 = nI L ∧ (∀ k, k < L → c 36 k = sg (B k) ∧ B k < 256) ∧ Wd c
theorem ce_L {L : Nat} {B : Nat → Nat} {c : pd_M} (hT : Tc L B c) : ∀ (r n k : Nat), k + r = L → r < n → lp_X6_endOfToken_16 n (nI k) c = some (nI (ff (fun i => !isL (B i)) r k)) := by
  have h5 := hT.1
  intro r
  induction r with
  | zero =>
    intro n k hk hn
    obtain ⟨n, rfl⟩ : ∃ k, n = k + 1 := ⟨n - 1, by omega⟩
    unfold lp_X6_endOfToken_16 ff
    simp (disch := omega) only [hT.2.1, ly, show L ≤ k by omega, if_true, if_false, ↓reduceIte, Bool.false_eq_true, reduceCtorEq]
  | succ r ih =>
    intro n k hk hn
    obtain ⟨n, rfl⟩ : ∃ k, n = k + 1 := ⟨n - 1, by omega⟩
    have hb := hT.2.2.1 k (by omega)
    unfold lp_X6_endOfToken_16
    simp (disch := omega) only [hT.2.1, ly, show ¬ L ≤ k by omega, zp, nI_clamp, hb.1, sg_L (B k) hb.2, pn, nI_1, if_true, if_false, ↓reduceIte, Bool.false_eq_true, reduceCtorEq]
    by_cases w : isL (B k) = true
    · rw [ff_step (by simp [w]), if_pos w, if_neg (by decide)]
      exact ih n (k + 1) (by omega) (by omega)
    · rw [ff_here (by simp [w]), if_neg w, if_pos rfl]
theorem ce_F {L : Nat} {B : Nat → Nat} {c : pd_M} (hT : Tc L B c) : ∀ (r n k : Nat), k + r = L → r < n → lp_X6_endOfToken_54 n (nI k) c = some (nI (ff (fun i => !isF (B i)) r k)) := by
  have h5 := hT.1
  intro r
  induction r with
  | zero =>
    intro n k hk hn
    obtain ⟨n, rfl⟩ : ∃ k, n = k + 1 := ⟨n - 1, by omega⟩
    unfold lp_X6_endOfToken_54 ff
    simp (disch := omega) only [hT.2.1, ly, show L ≤ k by omega, if_true, if_false, ↓reduceIte, Bool.false_eq_true, reduceCtorEq]
  | succ r ih =>
    intro n k hk hn
    obtain ⟨n, rfl⟩ : ∃ k, n = k + 1 := ⟨n - 1, by omega⟩
    have hb := hT.2.2.1 k (by omega)
    unfold lp_X6_endOfToken_54
    simp (disch := omega) only [hT.2.1, ly, show ¬ L ≤ k by omega, zp, nI_clamp, hb.1, sg_F (B k) hb.2, pn, nI_1, if_true, if_false, ↓reduceIte, Bool.false_eq_true, reduceCtorEq]
    by_cases w : isF (B k) = true
    · rw [ff_step (by simp [w]), if_pos w, if_neg (by decide)]
      exact ih n (k + 1) (by omega) (by omega)
    · rw [ff_here (by simp [w]), if_neg w, if_pos rfl]
theorem c_end {L : Nat} {B : Nat → Nat} {c : pd_M} (hT : Tc L B c) {s : Nat} (hs : s < L) : fn_X6_endOfToken (nI s) c = some (nI (tke L B s)) := by
  have h5 := hT.1
  have hb := hT.2.2.1 s hs
  unfold fn_X6_endOfToken tke
  rw [if_neg (show ¬ L ≤ s by omega), show L - s = (L - (s + 1)) + 1 by omega]
  simp (disch := omega) only [pn, nI_1, zp, nI_clamp, hb.1, sg_L (B s) hb.2, sg_F (B s) hb.2, if_true, if_false, ↓reduceIte, Bool.false_eq_true, reduceCtorEq]
  by_cases w : isL (B s) = true
  · rw [if_pos w, if_pos w, if_neg (by decide), ff_step (by simp [w]), ce_L hT (L - (s + 1)) 5000 (s + 1) (by omega) (by omega)]
    rfl
  · rw [if_neg w, if_neg w, if_pos rfl]
    by_cases v : isF (B s) = true
    · rw [if_pos v, if_pos v, if_neg (by decide), ff_step (by simp [v]), ce_F hT (L - (s + 1)) 5000 (s + 1) (by omega) (by omega)]
      rfl
    · rw [if_neg v, if_neg v, if_pos rfl]
theorem c_numOf {L : Nat} {B : Nat → Nat} {c : pd_M} (hT : Tc L B c) {s : Nat} (hs : s < L) (h1 : isL (B s) = false) (h2 : isF (B s) = true) : fn_X6_numberOf (nI s) (nI (tke L B s)) c = some (nI (cod L B s)) := by
  have h5 := hT.1
  have hb := hT.2.2.1 s hs
  have tb := tke_le (B := B) hs
  have hb2 := hT.2.2.1 (tke L B s - 1) (by omega)
  have f1 := sg_fi (B s) hb.2 h2
  have f2 : isF (B (tke L B s - 1)) = true := by
    by_cases e : tke L B s - 1 = s
    · rw [e]; exact h2
    · have t := tb
      unfold tke at tb e ⊢
      rw [if_neg (by omega), if_neg (show ¬ isL (B s) = true by rw [h1]; decide), if_pos h2] at tb e ⊢
      have := ff_no (fun i => !isF (B i)) (L - s) s (ff (fun i => !isF (B i)) (L - s) s - 1) (by omega) (by omega)
      simpa using this
  have f3 := sg_fi _ hb2.2 f2
  unfold fn_X6_numberOf cod
  rw [if_neg (show ¬ L ≤ s by omega), if_neg (show ¬ isL (B s) = true by rw [h1]; decide), if_pos h2]
  simp (disch := omega) only [zi, zp, nI_clamp, pn, pk_sub, zh, l2, lq, hb.1, hb2.1, f1.1, f3.1, l10, pk_mul, nI_add, if_true, if_false, ↓reduceIte, Bool.false_eq_true, reduceCtorEq]
  by_cases e1 : tke L B s - s = 1
  · rw [if_pos e1, if_pos e1, show tke L B s - 1 = s by omega]
  · rw [if_neg e1, if_neg e1]
    by_cases e2 : tke L B s - s = 2
    · rw [if_pos e2, if_pos e2, show tke L B s - 1 = s + 1 by omega]
    · rw [if_neg e2, if_neg e2]
      rfl
theorem cs_15 {L : Nat} {B : Nat → Nat} {c : pd_M} (hT : Tc L B c) {q s : Nat} (hq : q < 7) (hs : s + wQl q ≤ L) : ∀ (r n j : Nat), j + r = wQl q → r < n → lp_X6_spells_15 n (nI s) (nI (s + wQl q)) (3 + q) (nI (s + j)) c = if ff (fun j => decide (sg (B (s + j)) ≠ nI (wQb q j))) r j = wQl q then some (.inr ()) else some (.inl 0) := by
  have h5 := hT.1
  have hl := wQ_l q hq
  intro r
  induction r with
  | zero =>
    intro n j hj hn
    obtain ⟨n, rfl⟩ : ∃ k, n = k + 1 := ⟨n - 1, by omega⟩
    unfold lp_X6_spells_15 ff
    rw [if_pos (show 3 ≤ 3 + q ∧ 3 + q < 10 by omega), if_pos (show j = wQl q by omega)]
    simp (disch := omega) only [ly, show s + wQl q ≤ s + j by omega, if_true, if_false, ↓reduceIte, Bool.false_eq_true, reduceCtorEq]
  | succ r ih =>
    intro n j hj hn
    obtain ⟨n, rfl⟩ : ∃ k, n = k + 1 := ⟨n - 1, by omega⟩
    have hb := hT.2.2.1 (s + j) (by omega)
    have hw := hT.2.2.2 q hq j (by omega)
    have hw2 := wQ_b q hq j (by omega)
    have hch : fn_J0_charAt_5068e (3 + q) (nI (s + j) - nI s) c = some (nI (wQb q j)) := by
      unfold fn_J0_charAt_5068e
      rw [pk_sub (by omega), show s + j - s = j by omega, wQ_sh q hq, if_pos ⟨by omega, zp (by omega) (by omega)⟩, nI_clamp (by omega), show 3 + q + 7 = 10 + q by omega, hw, c255 _ hw2]
    unfold lp_X6_spells_15
    rw [if_pos (show 3 ≤ 3 + q ∧ 3 + q < 10 by omega)]
    simp (disch := omega) only [ly, show ¬ s + wQl q ≤ s + j by omega, zp, nI_clamp, hch, o1s, hb.1, pn, nI_1, if_true, if_false, ↓reduceIte, Bool.false_eq_true, reduceCtorEq]
    by_cases w : sg (B (s + j)) = nI (wQb q j)
    · rw [if_pos w, ff_step (by simp [w])]
      exact ih n (j + 1) (by omega) (by omega)
    · rw [if_neg w, ff_here (by simp [w]), if_neg (by omega)]
theorem sg_eq : ∀ b, b < 256 → ∀ v, v < 128 → (sg b = nI v ↔ b = v) := by decide +kernel
theorem c_spells {L : Nat} {B : Nat → Nat} {c : pd_M} (hT : Tc L B c) {q s e : Nat} (hq : q < 7) (hse : s ≤ e) (he : e ≤ L) : fn_X6_spells (nI s) (nI e) (3 + q) c = some (if e - s = wQl q ∧ (∀ j, j < wQl q → B (s + j) = wQb q j) then 1 else 0) := by
  have h5 := hT.1
  have hl := wQ_l q hq
  unfold fn_X6_spells fn_J0_length_8abf5
  rw [if_pos (show 3 ≤ 3 + q ∧ 3 + q < 10 by omega), if_pos (show 3 ≤ 3 + q ∧ 3 + q < 10 by omega), wQ_sh q hq, pk_sub hse]
  show ob1 (some (nI (wQl q))) _ = _
  simp (disch := omega) only [o1s, lq]
  by_cases e1 : e - s = wQl q
  · rw [if_pos e1]
    have e2 : e = s + wQl q := by omega
    subst e2
    have h := cs_15 hT hq he (wQl q) 5000 0 (by omega) (by omega)
    rw [Nat.add_zero] at h
    rw [h]
    by_cases w : ∀ j, j < wQl q → B (s + j) = wQb q j
    · have hI : (if s + wQl q - s = wQl q ∧ (∀ j, j < wQl q → B (s + j) = wQb q j) then (1 : Int32) else 0) = 1 := if_pos ⟨e1, w⟩
      rw [hI, if_pos]
      · rfl
      · refine ff_is (by omega) (by omega) (fun j _ hj => ?_) (fun z => absurd z (by omega))
        have hb := hT.2.2.1 (s + j) (by omega)
        have := (sg_eq _ hb.2 _ (wQ_b q hq j (by omega))).mpr (w j hj)
        simp [this]
    · have hI : (if s + wQl q - s = wQl q ∧ (∀ j, j < wQl q → B (s + j) = wQb q j) then (1 : Int32) else 0) = 0 := if_neg (fun z => w z.2)
      rw [hI, if_neg]
      · rfl
      · intro z
        refine w fun j hj => ?_
        have hb := hT.2.2.1 (s + j) (by omega)
        have := ff_no (fun j => decide (sg (B (s + j)) ≠ nI (wQb q j))) (wQl q) 0 j (by omega) (by omega)
        simp only [ne_eq, decide_not, Bool.not_eq_false', decide_eq_true_eq] at this
        exact (sg_eq _ hb.2 _ (wQ_b q hq j (by omega))).mp this
  · rw [if_neg e1, if_neg (fun z => e1 z.1)]
theorem wQ_0 : ∀ q, q < 7 → wQv q ≠ 0 := by decide
theorem c_spw {L : Nat} {B : Nat → Nat} {c : pd_M} (hT : Tc L B c) {q s : Nat} (hq : q < 7) (hs : s < L) (hl : isL (B s) = true) : fn_X6_spells (nI s) (nI (tke L B s)) (3 + q) c = some (if wvs L B s = wQv q then 1 else 0) := by
  have tb := tke_le (B := B) hs
  have hk : kd L B s = 2 := by
    unfold kd
    rw [if_neg (by omega), if_pos hl]
  have hlet : ∀ j, j < tke L B s - s → 97 ≤ B (s + j) ∧ B (s + j) ≤ 122 := by
    intro j hj
    unfold tke at hj
    rw [if_neg (by omega), if_pos hl] at hj
    have := ff_no (fun i => !isL (B i)) (L - s) s (s + j) (by omega) (by omega)
    exact isL_b (by simpa using this)
  rw [c_spells hT hq (by omega) tb.2]
  have key : (tke L B s - s = wQl q ∧ ∀ j, j < wQl q → B (s + j) = wQb q j) = (wvs L B s = wQv q) := by
    unfold wvs
    by_cases h8 : tke L B s - s < 8
    · rw [if_pos ⟨hk, h8⟩]
      exact propext (wv_one hq (by omega) h8 s hlet).symm
    · rw [if_neg (fun z => h8 z.2)]
      have := wQ_l q hq
      exact propext ⟨fun z => absurd z.1 (by omega), fun z => absurd z.symm (wQ_0 q hq)⟩
  simp only [key]
theorem c_wordOf {L : Nat} {B : Nat → Nat} {c : pd_M} (hT : Tc L B c) {s : Nat} (hs : s < L) (hl : isL (B s) = true) : fn_X6_wordOf (nI s) (nI (tke L B s)) c = some (nI (cod L B s)) := by
  have w : ∀ q, q < 7 → fn_X6_spells (nI s) (nI (tke L B s)) (3 + q) c = some (if wvs L B s = wQv q then 1 else 0) := fun q hq => c_spw hT hq hs hl
  have w0 := w 0 (by omega)
  have w1 := w 1 (by omega)
  have w2 := w 2 (by omega)
  have w3 := w 3 (by omega)
  have w4 := w 4 (by omega)
  have w5 := w 5 (by omega)
  have w6 := w 6 (by omega)
  simp only [show wQv 0 = 2003330414 from rfl, show wQv 1 = 1734964837 from rfl, show wQv 2 = 125779836236645 from rfl, show wQv 3 = 126862485974631 from rfl, show wQv 4 = 28539376735186798 from rfl, show wQv 5 = 7631481 from rfl, show wQv 6 = 131294808271214 from rfl, Nat.reduceAdd] at w0 w1 w2 w3 w4 w5 w6
  have hc : cod L B s = wcd (wvs L B s) := by
    unfold cod
    rw [if_neg (by omega), if_pos hl]
  unfold fn_X6_wordOf
  rw [hc]
  unfold wcd
  rw [w0, w1, w2, w3, w4, w5, w6]
  generalize wvs L B s = v
  by_cases h0 : v = 2003330414
  · rw [if_pos h0, if_pos h0]; rfl
  rw [if_neg h0, if_neg h0]
  by_cases h1 : v = 1734964837
  · rw [if_pos h1, if_pos h1]; rfl
  rw [if_neg h1, if_neg h1]
  by_cases h2 : v = 125779836236645
  · rw [if_pos h2, if_pos h2]; rfl
  rw [if_neg h2, if_neg h2]
  by_cases h3 : v = 126862485974631
  · rw [if_pos h3, if_pos h3]; rfl
  rw [if_neg h3, if_neg h3]
  by_cases h4 : v = 28539376735186798
  · rw [if_pos h4, if_pos h4]; rfl
  rw [if_neg h4, if_neg h4]
  by_cases h5 : v = 7631481
  · rw [if_pos h5, if_pos h5]; rfl
  rw [if_neg h5, if_neg h5]
  by_cases h6 : v = 131294808271214
  · rw [if_pos h6, if_pos h6]; rfl
  rw [if_neg h6, if_neg h6]
  rfl
theorem c_tokenOf {L : Nat} {B : Nat → Nat} {c : pd_M} (hT : Tc L B c) {s : Nat} (hs : s < L) : fn_X6_tokenOf (nI s) (nI (tke L B s)) c = some (nI (cod L B s)) := by
  have h5 := hT.1
  have hb := hT.2.2.1 s hs
  unfold fn_X6_tokenOf
  simp (disch := omega) only [zp, nI_clamp, hb.1, sg_L (B s) hb.2, sg_F (B s) hb.2, propext (sg_59 (B s) hb.2), if_true, if_false, ↓reduceIte, Bool.false_eq_true, reduceCtorEq]
  by_cases w : isL (B s) = true
  · rw [if_pos w, if_neg (by decide), c_wordOf hT hs w]
    rfl
  · rw [if_neg w, if_pos rfl]
    by_cases v : isF (B s) = true
    · rw [if_pos v, if_neg (by decide), c_numOf hT hs (Bool.eq_false_iff.mpr w) v]
      rfl
    · rw [if_neg v, if_pos rfl]
      unfold cod
      rw [if_neg (show ¬ L ≤ s by omega), if_neg w, if_neg v]
      by_cases e : B s = 59
      · rw [if_pos e, if_pos e]; rfl
      · rw [if_neg e, if_neg e]; rfl
def F2 (c c' : pd_M) : Prop := ∀ a k, a ≠ 37 → a ≠ 38 → c' a k = c a k
theorem Tc_F2 {L : Nat} {B : Nat → Nat} {c c' : pd_M} (h : Tc L B c) (hf : F2 c c') : Tc L B c' := by
  refine ⟨h.1, by rw [hf 35 3 (by omega) (by omega)]; exact h.2.1, fun k hk => by rw [hf 36 k (by omega) (by omega)]; exact h.2.2.1 k hk, fun q hq j hj => ?_⟩
  rw [hf (10 + q) j (by omega) (by omega)]
  exact h.2.2.2 q hq j hj
theorem skp_ws {L : Nat} {B : Nat → Nat} {a : Nat} (h : a < L) (w : isW (B a) = true) : skp L B (a + 1) = skp L B a := by
  unfold skp
  rw [show L - a = (L - (a + 1)) + 1 by omega, ff_step (by simp [w])]
theorem skp_nw {L : Nat} {B : Nat → Nat} {a : Nat} (h : a < L) (w : isW (B a) = false) : skp L B a = a := by
  unfold skp
  rw [show L - a = (L - (a + 1)) + 1 by omega, ff_here (by simp [w])]
/-- a token begins at this byte: no space, and it does not go on with what stands ahead of it -/
def bgn (B : Nat → Nat) (a : Nat) : Bool := !isW (B a) && (decide (a = 0) || (!(isL (B a) && isL (B (a - 1))) && !(isF (B a) && isF (B (a - 1)))))
theorem LF_no {b : Nat} (h1 : isL b = true) (h2 : isF b = true) : False := by
  have := isL_b h1
  have := isF_b h2
  omega
theorem W_no {b : Nat} (h : isW b = true) : isL b = false ∧ isF b = false := by
  have z : b = 32 ∨ b = 10 := of_decide_eq_true h
  rcases z with z | z <;> subst z <;> decide
theorem tke_in {L : Nat} {B : Nat → Nat} {s a : Nat} (hs : s < L) (ha : s < a) (hb : a < tke L B s) : (isL (B a) = true ∧ isL (B (a - 1)) = true) ∨ (isF (B a) = true ∧ isF (B (a - 1)) = true) := by
  unfold tke at hb
  rw [if_neg (show ¬ L ≤ s by omega)] at hb
  by_cases w : isL (B s) = true
  · rw [if_pos w] at hb
    have h1 := ff_no (fun i => !isL (B i)) (L - s) s a (by omega) hb
    have h2 := ff_no (fun i => !isL (B i)) (L - s) s (a - 1) (by omega) (by omega)
    exact Or.inl ⟨by simpa using h1, by simpa using h2⟩
  · rw [if_neg w] at hb
    by_cases v : isF (B s) = true
    · rw [if_pos v] at hb
      have h1 := ff_no (fun i => !isF (B i)) (L - s) s a (by omega) hb
      have h2 := ff_no (fun i => !isF (B i)) (L - s) s (a - 1) (by omega) (by omega)
      exact Or.inr ⟨by simpa using h1, by simpa using h2⟩
    · rw [if_neg v] at hb
      omega
theorem tke_at {L : Nat} {B : Nat → Nat} {s a : Nat} (hs : s < L) (hb : tke L B s = a) (ha : a < L) : ¬ (isL (B a) = true ∧ isL (B (a - 1)) = true) ∧ ¬ (isF (B a) = true ∧ isF (B (a - 1)) = true) := by
  have hle := tke_le (B := B) hs
  rw [hb] at hle
  unfold tke at hb
  rw [if_neg (show ¬ L ≤ s by omega)] at hb
  by_cases w : isL (B s) = true
  · rw [if_pos w] at hb
    have h1 := ff_yes (fun i => !isL (B i)) (L - s) s (by omega)
    have h2 := ff_no (fun i => !isL (B i)) (L - s) s (a - 1) (by omega) (by omega)
    rw [hb] at h1
    have h1 : isL (B a) = false := by simpa using h1
    have h2 : isL (B (a - 1)) = true := by simpa using h2
    exact ⟨fun z => by rw [h1] at z; exact absurd z.1 (by decide), fun z => LF_no h2 z.2⟩
  · rw [if_neg w] at hb
    by_cases v : isF (B s) = true
    · rw [if_pos v] at hb
      have h1 := ff_yes (fun i => !isF (B i)) (L - s) s (by omega)
      have h2 := ff_no (fun i => !isF (B i)) (L - s) s (a - 1) (by omega) (by omega)
      rw [hb] at h1
      have h1 : isF (B a) = false := by simpa using h1
      have h2 : isF (B (a - 1)) = true := by simpa using h2
      exact ⟨fun z => LF_no z.2 h2, fun z => by rw [h1] at z; exact absurd z.1 (by decide)⟩
    · rw [if_neg v] at hb
      rw [show a - 1 = s by omega]
      exact ⟨fun z => w z.2, fun z => v z.2⟩
theorem bgn_w {B : Nat → Nat} {a : Nat} (h : isW (B a) = true) : bgn B a = false := by
  unfold bgn
  rw [h]
  rfl
theorem bgn_in {B : Nat → Nat} {a : Nat} (h0 : a ≠ 0) (h : (isL (B a) = true ∧ isL (B (a - 1)) = true) ∨ (isF (B a) = true ∧ isF (B (a - 1)) = true)) : bgn B a = false := by
  unfold bgn
  rw [decide_eq_false h0]
  rcases h with h | h
  · rw [h.1, h.2]
    simp only [Bool.and_self, Bool.not_true, Bool.false_and, Bool.or_self, Bool.and_false]
  · rw [h.1, h.2]
    simp only [Bool.and_self, Bool.not_true, Bool.and_false, Bool.or_self]
theorem bgn_at {B : Nat → Nat} {a : Nat} (hw : isW (B a) = false) (h : a = 0 ∨ (¬ (isL (B a) = true ∧ isL (B (a - 1)) = true) ∧ ¬ (isF (B a) = true ∧ isF (B (a - 1)) = true))) : bgn B a = true := by
  unfold bgn
  rw [hw]
  rcases h with h | h
  · rw [decide_eq_true h]
    rfl
  · have h1 : (isL (B a) && isL (B (a - 1))) = false := Bool.eq_false_iff.mpr fun z => h.1 (Bool.and_eq_true_iff.mp z)
    have h2 : (isF (B a) && isF (B (a - 1))) = false := Bool.eq_false_iff.mpr fun z => h.2 (Bool.and_eq_true_iff.mp z)
    rw [h1, h2]
    simp only [Bool.not_false, Bool.and_self, Bool.or_true]
/-- where the scan stands: inside a token or just behind it, or behind a space or at the beginning -/
def Iv (L : Nat) (B : Nat → Nat) (i a : Nat) : Prop := (∃ s, s < a ∧ s < L ∧ a ≤ tke L B s ∧ Pp L B i = skp L B (tke L B s)) ∨ (skp L B a = Pp L B i ∧ (a = 0 ∨ isW (B (a - 1)) = true))
theorem skp_end {L : Nat} {B : Nat → Nat} : skp L B L = L := by
  have := skp_le L B (Nat.le_refl L)
  omega
theorem Iv_end {L : Nat} {B : Nat → Nat} {i : Nat} (h : Iv L B i L) : Pp L B i = L := by
  rcases h with ⟨s, h1, h2, h3, h4⟩ | h
  · have := tke_le (B := B) h2
    rw [h4, show tke L B s = L by omega, skp_end]
  · rw [← h.1, skp_end]
theorem Iv_new {L : Nat} {B : Nat → Nat} {i a : Nat} (ha : a < L) (hp : Pp L B i = a) : Iv L B (i + 1) (a + 1) := by
  refine Or.inl ⟨a, by omega, ha, (tke_le (B := B) ha).1, ?_⟩
  show skp L B (tke L B (Pp L B i)) = _
  rw [hp]
theorem Iv_step {L : Nat} {B : Nat → Nat} {i a : Nat} (h : Iv L B i a) (ha : a < L) : (bgn B a = false ∧ Iv L B i (a + 1)) ∨ (bgn B a = true ∧ Pp L B i = a ∧ Iv L B (i + 1) (a + 1)) := by
  by_cases w : isW (B a) = true
  · refine Or.inl ⟨bgn_w w, Or.inr ⟨?_, Or.inr (by rw [Nat.add_sub_cancel]; exact w)⟩⟩
    rcases h with ⟨s, h1, h2, h3, h4⟩ | h
    · by_cases e : a < tke L B s
      · exfalso
        have z := W_no w
        rcases tke_in h2 h1 e with q | q
        · rw [z.1] at q
          exact absurd q.1 (by decide)
        · rw [z.2] at q
          exact absurd q.1 (by decide)
      · rw [skp_ws ha w, h4, show tke L B s = a by omega]
    · rw [skp_ws ha w]
      exact h.1
  · have w := Bool.eq_false_iff.mpr w
    rcases h with ⟨s, h1, h2, h3, h4⟩ | h
    · by_cases e : a < tke L B s
      · exact Or.inl ⟨bgn_in (by omega) (tke_in h2 h1 e), Or.inl ⟨s, by omega, h2, by omega, h4⟩⟩
      · have e : tke L B s = a := by omega
        have hp : Pp L B i = a := by rw [h4, e, skp_nw ha w]
        exact Or.inr ⟨bgn_at w (Or.inr (tke_at h2 e ha)), hp, Iv_new ha hp⟩
    · have hp : Pp L B i = a := by rw [← h.1, skp_nw ha w]
      refine Or.inr ⟨bgn_at w ?_, hp, Iv_new ha hp⟩
      rcases h.2 with z | z
      · exact Or.inl z
      · have q := W_no z
        exact Or.inr ⟨fun y => by rw [q.1] at y; exact absurd y.2 (by decide), fun y => by rw [q.2] at y; exact absurd y.2 (by decide)⟩
theorem c_begins {L : Nat} {B : Nat → Nat} {c : pd_M} (hT : Tc L B c) {a : Nat} (ha : a < L) : fn_X6_beginsToken (nI a) c = some (if bgn B a = true then 1 else 0) := by
  have h5 := hT.1
  have hb := hT.2.2.1 a ha
  have hb2 := hT.2.2.1 (a - 1) (by omega)
  unfold fn_X6_beginsToken
  simp (disch := omega) only [zp, nI_clamp, pn, hb.1, propext (sg_32 (B a) hb.2), propext (sg_10 (B a) hb.2), zc, if_true, if_false, ↓reduceIte, Bool.false_eq_true, reduceCtorEq]
  by_cases w : isW (B a) = true
  · rw [bgn_w w, if_neg (show ¬ (false = true) by decide)]
    have z : B a = 32 ∨ B a = 10 := of_decide_eq_true w
    rcases z with z | z
    · rw [if_pos z]
    · rw [if_neg (by omega), if_pos z]
  · have z : ¬ (B a = 32 ∨ B a = 10) := fun q => w (decide_eq_true q)
    have w := Bool.eq_false_iff.mpr w
    rw [if_neg (show ¬ B a = 32 by omega), if_neg (show ¬ B a = 10 by omega)]
    by_cases e : a = 0
    · rw [if_pos e, bgn_at w (Or.inl e), if_pos rfl]
    · rw [if_neg e]
      simp (disch := omega) only [zi, zp, nI_clamp, hb2.1, sg_L (B a) hb.2, sg_F (B a) hb.2, sg_L (B (a - 1)) hb2.2, sg_F (B (a - 1)) hb2.2, if_true, if_false, ↓reduceIte, Bool.false_eq_true, reduceCtorEq]
      unfold bgn
      rw [w, decide_eq_false e]
      cases isL (B a) <;> cases isF (B a) <;> cases isL (B (a - 1)) <;> cases isF (B (a - 1)) <;> decide
theorem cl_split {L : Nat} {B : Nat → Nat} : ∀ (r n i a : Nat) (c : pd_M), a + r = L → r < n → i ≤ a → Tc L B c → Iv L B i a → (∀ j, j < i → c 37 j = nI (cod L B (Pp L B j)) ∧ c 38 j = nI (Pp L B j) ∧ Pp L B j < L) → ∃ m c', lp_X6_split_4 n (nI i) (nI a) c = some (nI m, c') ∧ m ≤ L ∧ Pp L B m = L ∧ (∀ j, j < m → c' 37 j = nI (cod L B (Pp L B j)) ∧ c' 38 j = nI (Pp L B j) ∧ Pp L B j < L) ∧ F2 c c' := by
  intro r
  induction r with
  | zero =>
    intro n i a c hr hn hi hT hp hj
    obtain ⟨n, rfl⟩ : ∃ k, n = k + 1 := ⟨n - 1, by omega⟩
    have h5 := hT.1
    refine ⟨i, c, ?_, by omega, ?_, hj, fun _ _ _ _ => rfl⟩
    · unfold lp_X6_split_4
      simp (disch := omega) only [hT.2.1, ly, show L ≤ a by omega, if_true, if_false, ↓reduceIte, Bool.false_eq_true, reduceCtorEq]
    · have e : a = L := by omega
      subst e
      exact Iv_end hp
  | succ r ih =>
    intro n i a c hr hn hi hT hp hj
    obtain ⟨n, rfl⟩ : ∃ k, n = k + 1 := ⟨n - 1, by omega⟩
    have h5 := hT.1
    have ha : a < L := by omega
    unfold lp_X6_split_4
    simp (disch := omega) only [hT.2.1, ly, show ¬ L ≤ a by omega, c_begins hT ha, pn, nI_1, if_true, if_false, ↓reduceIte, Bool.false_eq_true, reduceCtorEq]
    rw [o1s]
    rcases Iv_step hp ha with ⟨w, hv⟩ | ⟨w, hpa, hv⟩
    · rw [w, if_neg (show ¬ (false = true) by decide), if_pos rfl, o2s]
      exact ih n i (a + 1) c (by omega) (by omega) (by omega) hT hv hj
    · rw [w, if_pos rfl, if_neg (show ¬ (1 : Int32) = 0 by decide)]
      have cl := (cod_lt L B a).1
      have f0 : F2 c (pi_up (pi_up c 37 i (nI (cod L B a))) 38 i (nI a)) := fun b k h1 h2 => by rw [pu_n (by omega), pu_n (by omega)]
      obtain ⟨m, c', e1, e2, e3, e4, e5⟩ := ih n (i + 1) (a + 1) (pi_up (pi_up c 37 i (nI (cod L B a))) 38 i (nI a)) (by omega) (by omega) (by omega) (Tc_F2 hT f0) hv (fun j h => by
        by_cases e : j = i
        · subst e
          simp (disch := omega) only [pu_n, pu_s]
          rw [hpa]
          exact ⟨rfl, rfl, by omega⟩
        · simp (disch := omega) only [pu_n]
          exact hj j (by omega))
      refine ⟨m, c', ?_, e2, e3, e4, fun b k h1 h2 => by rw [e5 b k h1 h2, f0 b k h1 h2]⟩
      rw [c_end hT ha]
      simp (disch := omega) only [o1s, c_tokenOf hT ha, zp, nI_clamp, t8, t16, o2s, if_true, if_false, ↓reduceIte, Bool.false_eq_true, reduceCtorEq]
      exact e1
def Tk (L : Nat) (B : Nat → Nat) (m : Nat) (c : pd_M) : Prop := L ≤ 500 ∧ m ≤ L ∧ Pp L B m = L ∧ (∀ j, j < m → Pp L B j < L) ∧ ∀ j, j ≤ m → c 37 j = nI (cod L B (Pp L B j)) ∧ c 38 j = nI (Pp L B j)
theorem c_split {L : Nat} {B : Nat → Nat} {c : pd_M} (hT : Tc L B c) : ∃ m c', fn_X6_split c = some c' ∧ Tk L B m c' ∧ F2 c c' := by
  have h5 := hT.1
  obtain ⟨m, c1, e1, e2, e3, e4, e5⟩ := cl_split L 5000 0 0 c (by omega) (by omega) (by omega) hT (Or.inr ⟨rfl, Or.inl rfl⟩) (fun j h => absurd h (by omega))
  have k1 := (Tc_F2 hT e5).2.1
  have k2 : cod L B L = 100 := by unfold cod; rw [if_pos (Nat.le_refl _)]
  refine ⟨m, pi_up (pi_up c1 37 m (nI 100)) 38 m (nI L), ?_, ⟨h5, e2, e3, fun j hj => (e4 j hj).2.2, fun j hj => ?_⟩, fun a k h1 h2 => by rw [pu_n (by omega), pu_n (by omega), e5 a k h1 h2]⟩
  · unfold fn_X6_split
    rw [show lp_X6_split_4 5000 0 0 c = _ from e1]
    simp (disch := omega) only [o2s, zp, nI_clamp, pn, pu_n, k1, t16, if_true, if_false, ↓reduceIte, Bool.false_eq_true, reduceCtorEq]
    rfl
  · by_cases e : j = m
    · subst e
      simp (disch := omega) only [pu_n, pu_s]
      rw [e3, k2]
      exact ⟨rfl, rfl⟩
    · simp (disch := omega) only [pu_n]
      exact ⟨(e4 j (by omega)).1, (e4 j (by omega)).2.1⟩
