/-! PURE: houses -/
def fig (h s : Nat) : Nat := h / 5 ^ s % 5
def We (f : pd_M) : Prop := ∀ s, s < 4 → f 2 s = nI (5 ^ s)
theorem fig_le (h s : Nat) : fig h s < 5 := Nat.mod_lt _ (by decide)
theorem fig_0 (h : Nat) : fig h 0 = h % 5 := by unfold fig; rw [Nat.pow_zero, Nat.div_one]
theorem fig_1 (h : Nat) : fig h 1 = h / 5 % 5 := by unfold fig; rw [Nat.pow_one]
theorem fig_2 (h : Nat) : fig h 2 = h / 25 % 5 := rfl
theorem fig_3 (h : Nat) : fig h 3 = h / 125 % 5 := rfl
theorem p5_le {s : Nat} (hs : s < 4) : 5 ^ s ≤ 125 ∧ 1 ≤ 5 ^ s := by
  rcases (by omega : s = 0 ∨ s = 1 ∨ s = 2 ∨ s = 3) with rfl | rfl | rfl | rfl <;> decide
theorem c_standing {f : pd_M} (hW : We f) {h s : Nat} (hh : h < 625) (hs : s < 4) : fn_X1_standing (nI h) (nI s) f = some (nI (fig h s)) := by
  have hp := p5_le hs
  have h1 : h / 5 ^ s ≤ h := Nat.div_le_self _ _
  unfold fn_X1_standing fig
  simp (disch := omega) only [zp, nI_clamp, hW s hs, zc, show ¬ 5 ^ s = 0 by omega, pk_div, if_true, if_false, ↓reduceIte, Bool.false_eq_true, reduceCtorEq]
  rw [show (5 : Int32) = nI 5 from rfl, pk_rem (by omega) (by decide) (by decide)]
theorem m_figure {h s : Nat} (hh : h < 625) (hs : s < 4) : fn_X9_figure (nI h) (nI s) = nI (fig h s) := by
  have r5 : ∀ k : Nat, k < 2 ^ 31 → nI k - nI k / 5 * 5 = nI (k % 5) := fun k hk => pk_rem (d := 5) hk (by decide) (by decide)
  unfold fn_X9_figure
  simp (disch := omega) only [zc, zh, show (2 : Int32) = nI 2 from rfl, lq]
  rcases (by omega : s = 0 ∨ s = 1 ∨ s = 2 ∨ s = 3) with rfl | rfl | rfl | rfl
  · rw [fig_0, if_pos rfl, r5 h (by omega)]
  · rw [fig_1, if_neg (by decide), if_pos rfl, show nI h / 5 = nI (h / 5) from pk_div (d := 5) (by omega) (by decide) (by decide), r5 _ (by omega)]
  · rw [fig_2, if_neg (by decide), if_neg (by decide), if_pos rfl, show nI h / 25 = nI (h / 25) from pk_div (d := 25) (by omega) (by decide) (by decide), r5 _ (by omega)]
  · rw [fig_3, if_neg (by decide), if_neg (by decide), if_neg (by decide), show nI h / 125 = nI (h / 125) from pk_div (d := 125) (by omega) (by decide) (by decide)]
    congr 1
    omega
theorem m_worth {s : Nat} (hs : s < 4) : fn_X9_worth (nI s) = nI (5 ^ s) := by
  rcases (by omega : s = 0 ∨ s = 1 ∨ s = 2 ∨ s = 3) with rfl | rfl | rfl | rfl <;> decide
def sHo (M : Nat → Nat → Nat) (h : Nat) : Prop := h < 625 ∧ ∀ s, s < 4 → fig h s ≤ M 114 s
theorem lc_isThere {f : pd_M} (hT : Td f) (hW : We f) {h : Nat} (hh : h < 625) : ∀ (r n j : Nat), j + r = 4 → r < n → lp_X1_isThere_14 n (nI h) (nI j) f = if ff (fun s => decide (vw f 114 s < fig h s)) r j = 4 then some (.inr ()) else some (.inl 0) := by
  intro r
  induction r with
  | zero =>
    intro n j hj hn
    obtain ⟨n, rfl⟩ : ∃ k, n = k + 1 := ⟨n - 1, by omega⟩
    have : j = 4 := by omega
    subst this
    simp (disch := omega) only [lp_X1_isThere_14, l4, ly, ff, Nat.le_refl, if_true, if_false, ↓reduceIte, Bool.false_eq_true, reduceCtorEq]
  | succ r ih =>
    intro n j hj hn
    obtain ⟨n, rfl⟩ : ∃ k, n = k + 1 := ⟨n - 1, by omega⟩
    have hi := ih n (j + 1) (by omega) (by omega)
    obtain ⟨e1, e2, h4⟩ := hT.2.1 j (by omega)
    have hf := fig_le h j
    simp (disch := omega) only [lp_X1_isThere_14, l4, ly, c_standing hW hh, ob1, zp, nI_clamp, e2, pn, nI_1, hi, show ¬ 4 ≤ j by omega, if_true, if_false, ↓reduceIte, Bool.false_eq_true, reduceCtorEq]
    rw [show ff (fun s => decide (vw f 114 s < fig h s)) (r + 1) j = if decide (vw f 114 j < fig h j) = true then j else ff (fun s => decide (vw f 114 s < fig h s)) r (j + 1) from rfl]
    by_cases q : fig h j ≤ vw f 114 j
    · simp only [q, if_true, show ¬ vw f 114 j < fig h j by omega, decide_false, Bool.false_eq_true, if_false]
    · simp only [q, if_false, show vw f 114 j < fig h j by omega, decide_true, if_true, show ¬ j = 4 by omega]
theorem lm_isHouse {f : pd_M} (hT : Td f) {h : Nat} (hh : h < 625) : ∀ (r n j : Nat), j + r = 4 → r < n → lp_X9_isHouse_12 n (nI h) 1 (nI j) f = some (if ff (fun s => decide (vw f 114 s < fig h s)) r j = 4 then 1 else 0) := by
  intro r
  induction r with
  | zero =>
    intro n j hj hn
    obtain ⟨n, rfl⟩ : ∃ k, n = k + 1 := ⟨n - 1, by omega⟩
    have : j = 4 := by omega
    subst this
    simp (disch := omega) only [lp_X9_isHouse_12, l4, ly, ff, Nat.le_refl, if_true, if_false, ↓reduceIte, Bool.false_eq_true, reduceCtorEq]
  | succ r ih =>
    intro n j hj hn
    obtain ⟨n, rfl⟩ : ∃ k, n = k + 1 := ⟨n - 1, by omega⟩
    have hi := ih n (j + 1) (by omega) (by omega)
    obtain ⟨e1, e2, h4⟩ := hT.2.1 j (by omega)
    have hf := fig_le h j
    rw [show ff (fun s => decide (vw f 114 s < fig h s)) (r + 1) j = if decide (vw f 114 j < fig h j) = true then j else ff (fun s => decide (vw f 114 s < fig h s)) r (j + 1) from rfl]
    rw [lp_X9_isHouse_12]
    simp (disch := omega) only [l4, ly, o10, m_figure hh, ob1, zp, nI_clamp, e1, pn, nI_1, lt_, show ¬ 4 ≤ j by omega, if_true, if_false, ↓reduceIte, Bool.false_eq_true, reduceCtorEq]
    by_cases q : vw f 114 j < fig h j
    · simp only [q, decide_true, if_true, show ¬ j = 4 by omega, if_false]
      obtain ⟨n, rfl⟩ : ∃ k, n = k + 1 := ⟨n - 1, by omega⟩
      rw [lp_X9_isHouse_12]
      by_cases q2 : (4 : Int32) ≤ nI (j + 1)
      · rw [if_pos q2]
      · rw [if_neg q2, if_pos rfl]
    · simp only [q, decide_false, if_false, Bool.false_eq_true, hi]
/-- is it a HOUSE, on both sides -/
theorem ho_cases {f g : pd_M} (hT : Td f) (hW : We f) (hG : Td g) (hv : vw g = vw f) (p : Int32) : (fn_X1_isThere p f = some 0 ∧ fn_X9_isHouse p g = some 0) ∨ ∃ h : Nat, sHo (vw f) h ∧ p = nI h ∧ fn_X1_isThere p f = some 1 ∧ fn_X9_isHouse p g = some 1 := by
  rcases q_ix p (n := 625) (by decide) with q | ⟨h, hh, rfl⟩
  · refine Or.inl ⟨?_, ?_⟩
    · unfold fn_X1_isThere
      rw [if_pos (show fn_X8_isBelow p 625 = 0 from qB_out (n := 625) (by decide) q)]
    · have e3 : fn_X9_in p.toInt64 0 624 = 0 := qI_out (lo := 0) (hi := 624) (by decide) (by decide) (by omega)
      have : ∀ n : Nat, lp_X9_isHouse_12 (n + 1) p 0 0 g = some 0 := fun n => by
        rw [lp_X9_isHouse_12, if_neg (by decide), if_pos rfl]
      unfold fn_X9_isHouse
      rw [e3]
      show ob1 (lp_X9_isHouse_12 (4999 + 1) p 0 0 g) _ = _
      rw [this]
      rfl
  · have e1 : fn_X8_isBelow (nI h) 625 = 1 := qB_in (n := 625) hh (by decide)
    have e3 : fn_X9_in (nI h).toInt64 0 624 = 1 := qI_in (lo := 0) (hi := 624) (by omega) (by omega) (by decide)
    have hc := lc_isThere hT hW hh 4 5000 0 (by omega) (by omega)
    have hm := lm_isHouse hG hh 4 5000 0 (by omega) (by omega)
    rw [show nI 0 = (0 : Int32) from rfl] at hc hm
    rw [hv] at hm
    have hiff : ff (fun s => decide (vw f 114 s < fig h s)) 4 0 = 4 ↔ ∀ s, s < 4 → fig h s ≤ vw f 114 s := by
      constructor
      · intro q s hs
        have := ff_no (fun s => decide (vw f 114 s < fig h s)) 4 0 s (by omega) (by omega)
        simpa using this
      · intro q
        exact ff_is (by omega) (by omega) (fun j _ hj => by have := q j hj; simp; omega) (fun z => absurd z (by omega))
    by_cases q : ff (fun s => decide (vw f 114 s < fig h s)) 4 0 = 4
    · refine Or.inr ⟨h, ⟨hh, hiff.mp q⟩, rfl, ?_, ?_⟩
      · unfold fn_X1_isThere
        simp only [e1, o10, if_false, hc, q, if_true, os0]
      · unfold fn_X9_isHouse
        simp only [e3, pn, hm, q, if_true, ob1, or_true]
    · refine Or.inl ⟨?_, ?_⟩
      · unfold fn_X1_isThere
        simp only [e1, o10, if_false, hc, q, os0]
      · unfold fn_X9_isHouse
        simp only [e3, pn, hm, q, if_false, if_true, ob1, true_or]
def sRd (M : Nat → Nat → Nat) (h s : Nat) : Bool := decide (fig h (M 121 s) = M 122 s + 1 ∧ 0 < fig h (M 123 s)) && !sKp M s (4 * M 123 s + (fig h (M 123 s) - 1))
def sRed (M : Nat → Nat → Nat) (h : Nat) : Nat := ff (sRd M h) (M 0 0) 0
theorem lc_least {f : pd_M} (hT : Td f) (hW : We f) {h : Nat} (hh : sHo (vw f) h) : ∀ (r n i : Nat), i + r = vw f 0 0 → r < n → lp_X1_leastBroken_2 n (nI h) (nI i) f = if ff (sRd (vw f) h) r i = vw f 0 0 then some (.inr ()) else some (.inl (nI (ff (sRd (vw f) h) r i))) := by
  have hn := hT.1.2.2
  intro r
  induction r with
  | zero =>
    intro n i hi hn2
    obtain ⟨n, rfl⟩ : ∃ k, n = k + 1 := ⟨n - 1, by omega⟩
    have : i = vw f 0 0 := by omega
    subst this
    simp (disch := omega) only [lp_X1_leastBroken_2, hT.1.2.1, ly, ff, Nat.le_refl, if_true, if_false, ↓reduceIte, Bool.false_eq_true, reduceCtorEq]
  | succ r ih =>
    intro n i hi hn2
    obtain ⟨n, rfl⟩ : ∃ k, n = k + 1 := ⟨n - 1, by omega⟩
    have hi2 := ih n (i + 1) (by omega) (by omega)
    obtain ⟨⟨a1, a2, a3⟩, ⟨b1, b2, b3⟩, ⟨c1, c2, c3⟩, -⟩ := hT.2.2.1 i (by omega)
    have hg4 := (hT.2.1 _ c3).2.2
    have hfg := hh.2 _ c3
    have hf1 := fig_le h (vw f 121 i)
    have hf2 := fig_le h (vw f 123 i)
    rw [show ff (sRd (vw f) h) (r + 1) i = if sRd (vw f) h i = true then i else ff (sRd (vw f) h) r (i + 1) from rfl]
    simp (disch := omega) only [lp_X1_leastBroken_2, hT.1.2.1, ly, zp, nI_clamp, a2, b2, c2, c_standing hW hh.1, ob1, zc, lq, nI_1, pn, hi2, show ¬ vw f 0 0 ≤ i by omega, if_true, if_false, ↓reduceIte, Bool.false_eq_true, reduceCtorEq]
    have hs : sRd (vw f) h i = (decide (fig h (vw f 121 i) = vw f 122 i + 1 ∧ 0 < fig h (vw f 123 i)) && !sKp (vw f) i (4 * vw f 123 i + (fig h (vw f 123 i) - 1))) := rfl
    by_cases q1 : fig h (vw f 123 i) = 0
    · simp [hs, q1]
    · by_cases q2 : fig h (vw f 121 i) = vw f 122 i + 1
      · have hk := hT.2.2.2.2.1 _ c3 (fig h (vw f 123 i) - 1) (by omega)
        have ho := orF_31 (sKs (vw f) (vw f 123 i) (fig h (vw f 123 i) - 1)) hn
        simp (disch := omega) only [q1, q2, if_false, if_true, zi, c_edOf, hk, q_bit0, orF_bit, show i < vw f 0 0 by omega, decide_true, Bool.true_and]
        have hss : sKs (vw f) (vw f 123 i) (fig h (vw f 123 i) - 1) i = sKp (vw f) i (4 * vw f 123 i + (fig h (vw f 123 i) - 1)) := by
          unfold sKs; simp
        rw [hss, hs]
        cases q3 : sKp (vw f) i (4 * vw f 123 i + (fig h (vw f 123 i) - 1))
        · simp [q2, show 0 < fig h (vw f 123 i) by omega, show i ≠ vw f 0 0 by omega]
        · simp
      · simp [hs, q1, q2]
theorem c_least {f : pd_M} (hT : Td f) (hW : We f) {h : Nat} (hh : sHo (vw f) h) : fn_X1_leastBroken (nI h) f = some (if sRed (vw f) h = vw f 0 0 then -1000000 else nI (sRed (vw f) h)) := by
  have hn := hT.1.2.2
  have hl := lc_least hT hW hh (vw f 0 0) 5000 0 (by omega) (by omega)
  unfold fn_X1_leastBroken sRed
  rw [show (0 : Int32) = nI 0 from rfl, hl]
  by_cases e : ff (sRd (vw f) h) (vw f 0 0) 0 = vw f 0 0
  · simp only [e, if_true, os0]
  · simp only [e, if_false, os0]
theorem lm_red {f : pd_M} (hT : Td f) {h : Nat} (hh : sHo (vw f) h) : ∀ (r n i : Nat), i + r = vw f 0 0 → r < n → lp_X9_redOf_2 n (nI h) (nI i) f = if ff (sRd (vw f) h) r i = vw f 0 0 then some (.inr ()) else some (.inl (nI (ff (sRd (vw f) h) r i))) := by
  have hn := hT.1.2.2
  intro r
  induction r with
  | zero =>
    intro n i hi hn2
    obtain ⟨n, rfl⟩ : ∃ k, n = k + 1 := ⟨n - 1, by omega⟩
    have : i = vw f 0 0 := by omega
    subst this
    simp (disch := omega) only [lp_X9_redOf_2, hT.1.1, ly, ff, Nat.le_refl, if_true, if_false, ↓reduceIte, Bool.false_eq_true, reduceCtorEq]
  | succ r ih =>
    intro n i hi hn2
    obtain ⟨n, rfl⟩ : ∃ k, n = k + 1 := ⟨n - 1, by omega⟩
    have hi2 := ih n (i + 1) (by omega) (by omega)
    have hs := hT.2.2.1 i (by omega)
    obtain ⟨⟨a1, a2, a3⟩, ⟨b1, b2, b3⟩, ⟨c1, c2, c3⟩, -⟩ := id hs
    have hg4 := (hT.2.1 _ c3).2.2
    have hfg := hh.2 _ c3
    have hf1 := fig_le h (vw f 121 i)
    have hf2 := fig_le h (vw f 123 i)
    rw [show ff (sRd (vw f) h) (r + 1) i = if sRd (vw f) h i = true then i else ff (sRd (vw f) h) r (i + 1) from rfl]
    simp (disch := omega) only [lp_X9_redOf_2, hT.1.1, ly, zp, nI_clamp, a1, b1, c1, m_figure hh.1, zd, lq, nI_1, pn, hi2, show ¬ vw f 0 0 ≤ i by omega, if_true, if_false, ↓reduceIte, Bool.false_eq_true, reduceCtorEq]
    have hs2 : sRd (vw f) h i = (decide (fig h (vw f 121 i) = vw f 122 i + 1 ∧ 0 < fig h (vw f 123 i)) && !sKp (vw f) i (4 * vw f 123 i + (fig h (vw f 123 i) - 1))) := rfl
    by_cases q2 : fig h (vw f 121 i) = vw f 122 i + 1
    · by_cases q1 : fig h (vw f 123 i) = 0
      · simp [hs2, q1, q2, ob1]
      · have mk := m_isKept (e := fig h (vw f 123 i) - 1) (by omega) hs (by omega) (hT.2.2.2.1 _ c3 _ (by omega))
        simp (disch := omega) only [q1, q2, if_false, if_true, ob1, o10, zi, mk]
        rw [hs2]
        cases q3 : sKp (vw f) i (4 * vw f 123 i + (fig h (vw f 123 i) - 1))
        · simp [q2, show 0 < fig h (vw f 123 i) by omega, show i ≠ vw f 0 0 by omega]
        · simp
    · simp [hs2, q2, ob1]
theorem m_red {f : pd_M} (hT : Td f) {h : Nat} (hh : sHo (vw f) h) : fn_X9_redOf (nI h) f = some (if sRed (vw f) h = vw f 0 0 then -1000000 else nI (sRed (vw f) h)) := by
  have hn := hT.1.2.2
  have hl := lm_red hT hh (vw f 0 0) 5000 0 (by omega) (by omega)
  unfold fn_X9_redOf sRed
  rw [show (0 : Int32) = nI 0 from rfl, hl]
  by_cases e : ff (sRd (vw f) h) (vw f 0 0) 0 = vw f 0 0
  · simp only [e, if_true, os0]
  · simp only [e, if_false, os0]
theorem op_house {f : pd_M} (hT : Td f) (hW : We f) (p w : Int32) : OpR (fn_X8_house p w f) (fn_X9_house p w f) f := by
  have hz := FrT_zz f
  have hG := Td_fr hz hT
  have hn := hT.1.2.2
  rcases ho_cases hT hW hG (vw_fr hz) p with ⟨k1, k2⟩ | ⟨h, hh, rfl, k1, k2⟩
  · refine ⟨-1000001, ?_, ?_⟩
    · simp [fn_X8_house, k1, ob1]
    · simp [fn_X9_house, pn, k2, ob1]
  · rcases q_ix w (n := 2) (by decide) with q | ⟨j, hj, rfl⟩
    · have e1 : fn_X8_isBelow w 2 = 0 := qB_out (n := 2) (by decide) q
      have e3 : fn_X9_in w.toInt64 0 1 = 0 := qI_out (lo := 0) (hi := 1) (by decide) (by decide) (by omega)
      refine ⟨-1000001, ?_, ?_⟩
      · simp [fn_X8_house, k1, ob1, e1]
      · simp [fn_X9_house, pn, k2, ob1, e3]
    · have e1 : fn_X8_isBelow (nI j) 2 = 1 := qB_in (n := 2) hj (by decide)
      have e3 : fn_X9_in (nI j).toInt64 0 1 = 1 := qI_in (lo := 0) (hi := 1) (by omega) (by omega) (by decide)
      have mr := m_red hG (h := h) (by rw [vw_fr hz]; exact hh)
      rw [vw_fr hz] at mr
      have hle := ff_le (sRd (vw f) h) (vw f 0 0) 0
      unfold OpR fn_X8_house fn_X9_house
      simp only [pn, k1, k2, ob1, o10, if_false, e1, e3, c_least hT hW hh, mr]
      by_cases q : sRed (vw f) h = vw f 0 0
      · simp only [q, if_true]
        rcases (by omega : j = 0 ∨ j = 1) with rfl | rfl
        · exact ⟨1, rfl, rfl⟩
        · exact ⟨-1000000, rfl, rfl⟩
      · have hlt : sRed (vw f) h < 2 ^ 31 := by unfold sRed; omega
        simp only [q, if_false, zj hlt]
        rcases (by omega : j = 0 ∨ j = 1) with rfl | rfl
        · exact ⟨0, rfl, rfl⟩
        · exact ⟨_, rfl, rfl⟩
