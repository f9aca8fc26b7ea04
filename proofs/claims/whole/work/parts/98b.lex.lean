/-! PURE: the reference's next token -/
def Tp (L : Nat) (B : Nat → Nat) (d : pd_M) : Prop := L ≤ 500 ∧ d 110 32 = nI L ∧ ∀ k, k < L → d 136 k = nI (B k) ∧ B k < 256
def Fx (lo hi : Nat) (d d' : pd_M) : Prop := ∀ a k, ¬ (a = 110 ∧ lo ≤ k ∧ k ≤ hi) → d' a k = d a k
theorem Tp_fx {L : Nat} {B : Nat → Nat} {d d' : pd_M} (h : Tp L B d) (hf : Fx 33 38 d d') : Tp L B d' :=
  ⟨h.1, by rw [hf 110 32 (by omega)]; exact h.2.1, fun k hk => by rw [hf 136 k (by omega)]; exact h.2.2 k hk⟩
theorem Fx_up {d d' : pd_M} {lo hi k : Nat} {v : Int32} (h : Fx lo hi d d') (h1 : lo ≤ k) (h2 : k ≤ hi) : Fx lo hi d (pi_up d' 110 k v) := fun a j q => by
  rw [pu_n (by omega), h a j q]
theorem Fx_rf {d : pd_M} {lo hi : Nat} : Fx lo hi d d := fun _ _ _ => rfl
theorem Fx_tr {d d' d'' : pd_M} {lo hi : Nat} (h : Fx lo hi d d') (h2 : Fx lo hi d' d'') : Fx lo hi d d'' := fun a j q => by rw [h2 a j q, h a j q]
theorem Fx_wide {d d' : pd_M} {lo hi lo2 hi2 : Nat} (h : Fx lo hi d d') (h1 : lo2 ≤ lo) (h2 : hi ≤ hi2) : Fx lo2 hi2 d d' := fun a j q => h a j (by omega)
theorem by_in {L : Nat} {B : Nat → Nat} {d : pd_M} (h : Tp L B d) {k : Nat} (hk : k < L) : fn_X9_byteAt (nI k) d = some (nI (B k)) := by
  have := h.1
  unfold fn_X9_byteAt
  simp (disch := omega) only [h.2.1, ly, show ¬ L ≤ k by omega, zp, nI_clamp, (h.2.2 k hk).1, if_true, if_false, ↓reduceIte, Bool.false_eq_true, reduceCtorEq]
theorem by_out {L : Nat} {B : Nat → Nat} {d : pd_M} (h : Tp L B d) : fn_X9_byteAt (nI L) d = some (-1000000) := by
  have := h.1
  unfold fn_X9_byteAt
  simp (disch := omega) only [h.2.1, ly, Nat.le_refl, if_true, if_false, ↓reduceIte, Bool.false_eq_true, reduceCtorEq]
theorem mn_0 {L : Nat} {B : Nat → Nat} : ∀ (r n c : Nat) (d : pd_M), Tp L B d → c + r = L → r < n → d 110 33 = nI c → ∃ d', lp_X9_next_0 n d = some d' ∧ d' 110 33 = nI (ff (fun i => !isW (B i)) r c) ∧ Fx 33 33 d d' := by
  intro r
  induction r with
  | zero =>
    intro n c d hT hc hn h
    obtain ⟨n, rfl⟩ : ∃ k, n = k + 1 := ⟨n - 1, by omega⟩
    refine ⟨d, ?_, h, Fx_rf⟩
    unfold lp_X9_next_0
    rw [h, show c = L by omega, by_out hT]
    rfl
  | succ r ih =>
    intro n c d hT hc hn h
    obtain ⟨n, rfl⟩ : ∃ k, n = k + 1 := ⟨n - 1, by omega⟩
    have hb := (hT.2.2 c (by omega)).2
    have h5 := hT.1
    unfold lp_X9_next_0
    simp (disch := omega) only [h, by_in hT (show c < L by omega), o1s, l32, l10, lq, pn, nI_1]
    by_cases w : isW (B c) = true
    · rw [ff_step (by simp [w])]
      obtain ⟨d', e1, e2, e3⟩ := ih n (c + 1) (pi_up d 110 33 (nI (c + 1))) (Tp_fx hT (Fx_up Fx_rf (by omega) (by omega))) (by omega) (by omega) pu_s
      refine ⟨d', ?_, e2, Fx_tr (Fx_up Fx_rf (by omega) (by omega)) e3⟩
      have z : B c = 32 ∨ B c = 10 := of_decide_eq_true w
      rcases z with z | z
      · rw [if_pos z]; exact e1
      · rw [if_neg (by omega), if_pos z]; exact e1
    · rw [ff_here (by simp [w])]
      have z : ¬ (B c = 32 ∨ B c = 10) := fun q => w (decide_eq_true q)
      refine ⟨d, ?_, h, Fx_rf⟩
      rw [if_neg (by omega), if_neg (by omega)]
theorem mn_L {L : Nat} {B : Nat → Nat} : ∀ (r n c : Nat) (d : pd_M), Tp L B d → c + r = L → r < n → d 110 33 = nI c → ∃ d', lp_X9_next_77 n d = some d' ∧ d' 110 33 = nI (ff (fun i => !isL (B i)) r c) ∧ Fx 33 33 d d' := by
  intro r
  induction r with
  | zero =>
    intro n c d hT hc hn h
    obtain ⟨n, rfl⟩ : ∃ k, n = k + 1 := ⟨n - 1, by omega⟩
    refine ⟨d, ?_, h, Fx_rf⟩
    unfold lp_X9_next_77
    rw [h, show c = L by omega, by_out hT]
    rfl
  | succ r ih =>
    intro n c d hT hc hn h
    obtain ⟨n, rfl⟩ : ∃ k, n = k + 1 := ⟨n - 1, by omega⟩
    have hb := (hT.2.2 c (by omega)).2
    have h5 := hT.1
    unfold lp_X9_next_77
    simp (disch := omega) only [h, by_in hT (show c < L by omega), o1s, mb_L (B c) hb, pn, nI_1]
    by_cases w : isL (B c) = true
    · rw [ff_step (by simp [w])]
      obtain ⟨d', e1, e2, e3⟩ := ih n (c + 1) (pi_up d 110 33 (nI (c + 1))) (Tp_fx hT (Fx_up Fx_rf (by omega) (by omega))) (by omega) (by omega) pu_s
      refine ⟨d', ?_, e2, Fx_tr (Fx_up Fx_rf (by omega) (by omega)) e3⟩
      rw [if_pos w, if_neg (by decide)]; exact e1
    · rw [ff_here (by simp [w])]
      refine ⟨d, ?_, h, Fx_rf⟩
      rw [if_neg w, if_pos rfl]
theorem mn_F {L : Nat} {B : Nat → Nat} : ∀ (r n c : Nat) (d : pd_M), Tp L B d → c + r = L → r < n → d 110 33 = nI c → ∃ d', lp_X9_next_119 n d = some d' ∧ d' 110 33 = nI (ff (fun i => !isF (B i)) r c) ∧ Fx 33 33 d d' := by
  intro r
  induction r with
  | zero =>
    intro n c d hT hc hn h
    obtain ⟨n, rfl⟩ : ∃ k, n = k + 1 := ⟨n - 1, by omega⟩
    refine ⟨d, ?_, h, Fx_rf⟩
    unfold lp_X9_next_119
    rw [h, show c = L by omega, by_out hT]
    rfl
  | succ r ih =>
    intro n c d hT hc hn h
    obtain ⟨n, rfl⟩ : ∃ k, n = k + 1 := ⟨n - 1, by omega⟩
    have hb := (hT.2.2 c (by omega)).2
    have h5 := hT.1
    unfold lp_X9_next_119
    simp (disch := omega) only [h, by_in hT (show c < L by omega), o1s, mb_F (B c) hb, pn, nI_1]
    by_cases w : isF (B c) = true
    · rw [ff_step (by simp [w])]
      obtain ⟨d', e1, e2, e3⟩ := ih n (c + 1) (pi_up d 110 33 (nI (c + 1))) (Tp_fx hT (Fx_up Fx_rf (by omega) (by omega))) (by omega) (by omega) pu_s
      refine ⟨d', ?_, e2, Fx_tr (Fx_up Fx_rf (by omega) (by omega)) e3⟩
      rw [if_pos w, if_neg (by decide)]; exact e1
    · rw [ff_here (by simp [w])]
      refine ⟨d, ?_, h, Fx_rf⟩
      rw [if_neg w, if_pos rfl]
def AtT (L : Nat) (B : Nat → Nat) (d : pd_M) (s : Nat) : Prop := d 110 33 = nI (tke L B s) ∧ d 110 34 = nI (kd L B s) ∧ d 110 35 = nI s ∧ d 110 36 = nI (tke L B s)
theorem m_next {L : Nat} {B : Nat → Nat} {d : pd_M} {e : Nat} (hT : Tp L B d) (he : e ≤ L) (h : d 110 33 = nI e) : ∃ d', fn_X9_next d = some d' ∧ AtT L B d' (skp L B e) ∧ Fx 33 36 d d' := by
  have h5 := hT.1
  obtain ⟨d1, e1, e2, e3⟩ := mn_0 (L - e) 5000 e d hT (by omega) (by omega) h
  have e2 : d1 110 33 = nI (skp L B e) := e2
  have hs := skp_le L B he
  generalize skp L B e = s at e2 hs ⊢
  have f1 : Fx 33 36 d (pi_up d1 110 35 (nI s)) := Fx_up (Fx_wide e3 (by omega) (by omega)) (by omega) (by omega)
  have hT1 := Tp_fx hT (Fx_wide f1 (by omega) (Nat.le_succ_of_le (Nat.le_succ_of_le (Nat.le_refl 36))))
  have g1 : (pi_up d1 110 35 (nI s)) 110 33 = nI s := by rw [pu_n (by omega), e2]
  have g2 : (pi_up d1 110 35 (nI s)) 110 35 = nI s := pu_s
  unfold fn_X9_next
  rw [e1]
  simp only [o1s, pn, e2, g1]
  generalize pi_up d1 110 35 (nI s) = d2 at f1 hT1 g1 g2 ⊢
  by_cases h0 : s = L
  · subst h0
    rw [by_out hT1, o1s, if_pos rfl]
    simp only [o1s]
    refine ⟨_, rfl, ⟨?_, ?_, ?_, ?_⟩, ?_⟩
    · simp (disch := omega) only [pu_n, g1, tke, Nat.le_refl, if_true]
    · simp (disch := omega) only [pu_n, pu_s, kd, Nat.le_refl, if_true]
      rfl
    · simp (disch := omega) only [pu_n, g2]
    · simp (disch := omega) only [pu_n, pu_s, g1, tke, Nat.le_refl, if_true]
    · exact Fx_up (Fx_up f1 (by omega) (by omega)) (by omega) (by omega)
  · have hb := (hT.2.2 s (by omega)).2
    rw [by_in hT1 (show s < L by omega)]
    simp (disch := omega) only [o1s, zj, mb_L (B s) hb, mb_F (B s) hb, g1, nI_1, l59, lq, if_false]
    unfold AtT kd
    rw [if_neg (show ¬ L ≤ s by omega)]
    by_cases hl : isL (B s) = true
    · obtain ⟨d3, k1, k2, k3⟩ := mn_L (L - s) 5000 s d2 hT1 (by omega) (by omega) g1
      have k2 : d3 110 33 = nI (tke L B s) := by
        rw [k2]
        unfold tke
        rw [if_neg (show ¬ L ≤ s by omega), if_pos hl]
      simp only [if_pos hl, k1, o1s, if_true, if_false, ↓reduceIte, Bool.false_eq_true, reduceCtorEq, show ¬ (1 : Int32) = 0 by decide]
      refine ⟨_, rfl, ⟨?_, ?_, ?_, ?_⟩, ?_⟩
      · simp (disch := omega) only [pu_n, k2]
      · simp (disch := omega) only [pu_n, pu_s]
        rfl
      · simp (disch := omega) only [pu_n, k3 110 35 (by omega), g2]
      · simp (disch := omega) only [pu_n, pu_s, k2]
      · exact Fx_up (Fx_up (Fx_tr f1 (Fx_wide k3 (by omega) (by omega))) (by omega) (by omega)) (by omega) (by omega)
    · by_cases hf : isF (B s) = true
      · obtain ⟨d3, k1, k2, k3⟩ := mn_F (L - s) 5000 s d2 hT1 (by omega) (by omega) g1
        have k2 : d3 110 33 = nI (tke L B s) := by
          rw [k2]
          unfold tke
          rw [if_neg (show ¬ L ≤ s by omega), if_neg hl, if_pos hf]
        have k4 : d3 110 35 = nI s := by rw [k3 110 35 (by omega), g2]
        have tb := tke_le (B := B) (show s < L by omega)
        simp (disch := omega) only [if_neg hl, if_pos hf, k1, o1s, k2, k4, pk_sub, l2, ly, if_true, if_false, ↓reduceIte, Bool.false_eq_true, reduceCtorEq, show ¬ (1 : Int32) = 0 by decide]
        by_cases q : tke L B s - s ≤ 2
        · simp only [q, o1s, if_true, if_false, ↓reduceIte, Bool.false_eq_true, reduceCtorEq]
          refine ⟨_, rfl, ⟨?_, ?_, ?_, ?_⟩, ?_⟩
          · simp (disch := omega) only [pu_n, k2]
          · simp (disch := omega) only [pu_n, pu_s]
            rfl
          · simp (disch := omega) only [pu_n, k4]
          · simp (disch := omega) only [pu_n, pu_s, k2]
          · exact Fx_up (Fx_up (Fx_tr f1 (Fx_wide k3 (by omega) (by omega))) (by omega) (by omega)) (by omega) (by omega)
        · simp only [q, o1s, if_true, if_false, ↓reduceIte, Bool.false_eq_true, reduceCtorEq]
          refine ⟨_, rfl, ⟨?_, ?_, ?_, ?_⟩, ?_⟩
          · simp (disch := omega) only [pu_n, k2]
          · simp (disch := omega) only [pu_n, pu_s]
            rfl
          · simp (disch := omega) only [pu_n, k4]
          · simp (disch := omega) only [pu_n, pu_s, k2]
          · exact Fx_up (Fx_up (Fx_tr f1 (Fx_wide k3 (by omega) (by omega))) (by omega) (by omega)) (by omega) (by omega)
      · have k2 : tke L B s = s + 1 := by
          unfold tke
          rw [if_neg (show ¬ L ≤ s by omega), if_neg hl, if_neg hf]
        rw [k2]
        simp only [if_neg hl, if_neg hf, o1s, if_true, if_false, ↓reduceIte, Bool.false_eq_true, reduceCtorEq]
        by_cases q : B s = 59
        · simp only [q, o1s, if_true, if_false, ↓reduceIte, Bool.false_eq_true, reduceCtorEq]
          refine ⟨_, rfl, ⟨?_, ?_, ?_, ?_⟩, ?_⟩
          · simp (disch := omega) only [pu_n, pu_s]
          · simp (disch := omega) only [pu_n, pu_s]
            rfl
          · simp (disch := omega) only [pu_n, g2]
          · simp (disch := omega) only [pu_n, pu_s]
          · exact Fx_up (Fx_up (Fx_up f1 (by omega) (by omega)) (by omega) (by omega)) (by omega) (by omega)
        · simp only [q, o1s, if_true, if_false, ↓reduceIte, Bool.false_eq_true, reduceCtorEq]
          refine ⟨_, rfl, ⟨?_, ?_, ?_, ?_⟩, ?_⟩
          · simp (disch := omega) only [pu_n, pu_s]
          · simp (disch := omega) only [pu_n, pu_s]
            rfl
          · simp (disch := omega) only [pu_n, g2]
          · simp (disch := omega) only [pu_n, pu_s]
          · exact Fx_up (Fx_up (Fx_up f1 (by omega) (by omega)) (by omega) (by omega)) (by omega) (by omega)
theorem mw_7 {L : Nat} {B : Nat → Nat} {d : pd_M} {s : Nat} (hT : Tp L B d) (hA : AtT L B d s) (hs : s < L) (h1 : kd L B s = 2) (h8 : tke L B s - s < 8) : ∀ (r n k v : Nat), k + r = tke L B s → s ≤ k → r < n → lp_X9_word_7 n (lN v) (nI k) d = some (lN (wv B k r v)) := by
  have h5 := hT.1
  have tb := tke_le (B := B) hs
  obtain ⟨a1, a2, a3, a4⟩ := hA
  intro r
  induction r with
  | zero =>
    intro n k v hk hsk hn
    obtain ⟨n, rfl⟩ : ∃ k, n = k + 1 := ⟨n - 1, by omega⟩
    unfold lp_X9_word_7 wv
    simp (disch := omega) only [a4, ly, show tke L B s ≤ k by omega, if_true, if_false, ↓reduceIte, Bool.false_eq_true, reduceCtorEq]
  | succ r ih =>
    intro n k v hk hsk hn
    obtain ⟨n, rfl⟩ : ∃ k, n = k + 1 := ⟨n - 1, by omega⟩
    have hb := hT.2.2 k (by omega)
    unfold lp_X9_word_7 wv
    simp (disch := omega) only [a4, a2, a3, h1, ly, l2, l8, pk_sub, show ¬ tke L B s ≤ k by omega, show ¬ 8 ≤ tke L B s - s by omega, zp, nI_clamp, hb.1, pn, nI_1, if_true, if_false, ↓reduceIte, Bool.false_eq_true, reduceCtorEq]
    rw [← l8, q_push v (B k) hb.2]
    exact ih n (k + 1) _ (by omega) (by omega) (by omega)
theorem m_word {L : Nat} {B : Nat → Nat} {d : pd_M} {s : Nat} (hT : Tp L B d) (hA : AtT L B d s) (hs : s ≤ L) : fn_X9_word d = some (lN (wvs L B s)) := by
  have h5 := hT.1
  unfold fn_X9_word wvs
  simp only [pn, hA.2.2.1]
  by_cases hL : s < L
  · have tb := tke_le (B := B) hL
    by_cases h1 : kd L B s = 2
    · by_cases h8 : tke L B s - s < 8
      · rw [if_pos ⟨h1, h8⟩, show lp_X9_word_7 5000 0 (nI s) d = _ from mw_7 hT hA hL h1 h8 (tke L B s - s) 5000 s 0 (by omega) (by omega) (by omega)]
        rfl
      · rw [if_neg (fun z => h8 z.2)]
        unfold lp_X9_word_7
        simp (disch := omega) only [hA.2.2.1, hA.2.1, hA.2.2.2, h1, ly, l2, l8, pk_sub, show ¬ tke L B s ≤ s by omega, show 8 ≤ tke L B s - s by omega, o1s, if_true, if_false, ↓reduceIte, Bool.false_eq_true, reduceCtorEq]
        rfl
    · rw [if_neg (fun z => h1 z.1)]
      have k4 : kd L B s < 5 := by
        unfold kd
        repeat' split
        all_goals omega
      unfold lp_X9_word_7
      simp (disch := omega) only [hA.2.2.1, hA.2.1, hA.2.2.2, h1, ly, lq, l2, show ¬ tke L B s ≤ s by omega, o1s, if_true, if_false, ↓reduceIte, Bool.false_eq_true, reduceCtorEq]
      rfl
  · have e : s = L := by omega
    subst e
    have e2 : tke s B s = s := by unfold tke; rw [if_pos (Nat.le_refl _)]
    have e3 : kd s B s = 1 := by unfold kd; rw [if_pos (Nat.le_refl _)]
    rw [if_neg (by omega)]
    unfold lp_X9_word_7
    simp (disch := omega) only [hA.2.2.1, hA.2.1, hA.2.2.2, e2, ly, Nat.le_refl, o1s, if_true, if_false, ↓reduceIte, Bool.false_eq_true, reduceCtorEq]
    rfl
theorem wv_lt {B : Nat → Nat} : ∀ (r k v : Nat), (∀ j, k ≤ j → j < k + r → B j < 256) → r < 8 → v < 256 ^ (8 - 1 - r) → wv B k r v < 256 ^ 7 := by
  intro r
  induction r with
  | zero => intro k v _ _ h; exact h
  | succ r ih =>
    intro k v hb hr h
    unfold wv
    have e : (256 : Nat) ^ (8 - 1 - r) = 256 ^ (8 - 1 - (r + 1)) * 256 := by rw [← Nat.pow_succ]; congr 1; omega
    have := hb k (by omega) (by omega)
    exact ih (k + 1) _ (fun j h1 h2 => hb j (by omega) (by omega)) (by omega) (by rw [e]; omega)
theorem wvs_lt {L : Nat} {B : Nat → Nat} {d : pd_M} {s : Nat} (hT : Tp L B d) (hs : s ≤ L) : wvs L B s < 2 ^ 63 := by
  unfold wvs
  split
  · next h =>
    have tb := tke_L (B := B) hs
    have := wv_lt (B := B) (tke L B s - s) s 0 (fun j h1 h2 => (hT.2.2 j (by omega)).2) h.2 (Nat.pow_pos (by decide))
    exact Nat.lt_trans this (by decide)
  · decide
theorem m_cmp {L : Nat} {B : Nat → Nat} {d : pd_M} {s : Nat} (hT : Tp L B d) (hs : s ≤ L) : (lg_cmp (lN (wvs L B s)) 2003330414 = 0) = (cod L B s = 106) ∧ (lg_cmp (lN (wvs L B s)) 1734964837 = 0) = (cod L B s = 108) ∧ (lg_cmp (lN (wvs L B s)) 125779836236645 = 0) = (cod L B s = 107) ∧ (lg_cmp (lN (wvs L B s)) 126862485974631 = 0) = (cod L B s = 103) ∧ (lg_cmp (lN (wvs L B s)) 28539376735186798 = 0) = (cod L B s = 102) ∧ (lg_cmp (lN (wvs L B s)) 7631481 = 0) = (cod L B s = 104) ∧ (lg_cmp (lN (wvs L B s)) 131294808271214 = 0) = (cod L B s = 105) := by
  have h := wvs_lt hT hs
  have w := cod_w (L := L) (B := B) (s := s)
  refine ⟨?_, ?_, ?_, ?_, ?_, ?_, ?_⟩
  · exact (q_cmp0 _ 2003330414 h (by decide)).trans (propext w.1)
  · exact (q_cmp0 _ 1734964837 h (by decide)).trans (propext w.2.1)
  · exact (q_cmp0 _ 125779836236645 h (by decide)).trans (propext w.2.2.1)
  · exact (q_cmp0 _ 126862485974631 h (by decide)).trans (propext w.2.2.2.1)
  · exact (q_cmp0 _ 28539376735186798 h (by decide)).trans (propext w.2.2.2.2.1)
  · exact (q_cmp0 _ 7631481 h (by decide)).trans (propext w.2.2.2.2.2.1)
  · exact (q_cmp0 _ 131294808271214 h (by decide)).trans (propext w.2.2.2.2.2.2)
theorem m_num {L : Nat} {B : Nat → Nat} {d : pd_M} {s : Nat} (hT : Tp L B d) (hA : AtT L B d s) (hs : s ≤ L) : fn_X9_numberHere d = some (if kd L B s = 3 then nI (cod L B s) else 0) := by
  have h5 := hT.1
  have k4 : kd L B s < 5 := by
    unfold kd
    repeat' split
    all_goals omega
  unfold fn_X9_numberHere
  simp only [pn, hA.2.2.1]
  by_cases hk : kd L B s = 3
  · have hL : s < L := by
      refine Nat.lt_of_not_le fun z => ?_
      unfold kd at hk
      rw [if_pos z] at hk
      omega
    have tb := tke_le (B := B) hL
    have hb := hT.2.2 s hL
    rw [if_pos hk]
    have c1 : isL (B s) = false := by
      refine Bool.eq_false_iff.mpr fun z => ?_
      unfold kd at hk
      rw [if_neg (by omega), if_pos z] at hk
      omega
    have c2 : isF (B s) = true ∧ tke L B s - s ≤ 2 := by
      unfold kd at hk
      rw [if_neg (by omega), if_neg (by rw [c1]; decide)] at hk
      by_cases z : isF (B s) = true
      · rw [if_pos z] at hk
        refine ⟨z, ?_⟩
        refine Decidable.byContradiction fun y => ?_
        rw [if_neg y] at hk
        omega
      · rw [if_neg z] at hk
        split at hk <;> omega
    have a := isF_b c2.1
    have hc : cod L B s = if tke L B s - s = 1 then B s - 48 else 10 * (B s - 48) + (B (s + 1) - 48) := by
      unfold cod
      rw [if_neg (by omega), if_neg (by rw [c1]; decide), if_pos c2.1]
      by_cases z : tke L B s - s = 1
      · rw [if_pos z, if_pos z]
      · rw [if_neg z, if_neg z, if_pos (by omega)]
    have z0 : (0 : Int32) = nI 0 := rfl
    unfold lp_X9_numberHere_7
    simp (disch := omega) only [hA.2.1, hA.2.2.2, hk, l3, ly, show ¬ tke L B s ≤ s by omega, zp, nI_clamp, hb.1, pn, nI_1, z0, l10, l48, pk_mul, nI_add, pk_sub, if_true, if_false, ↓reduceIte, Bool.false_eq_true, reduceCtorEq]
    rw [hc]
    by_cases e1 : tke L B s - s = 1
    · unfold lp_X9_numberHere_7
      simp (disch := omega) only [hA.2.1, hA.2.2.2, ly, show tke L B s ≤ s + 1 by omega, e1, o1s, if_true, if_false, ↓reduceIte, Bool.false_eq_true, reduceCtorEq]
      rw [show 10 * 0 + B s - 48 = B s - 48 by omega]
    · have b := isF_b (fig2 hL c1 c2.1 (by omega))
      have hb2 := hT.2.2 (s + 1) (by omega)
      unfold lp_X9_numberHere_7
      simp (disch := omega) only [hA.2.1, hA.2.2.2, hk, l3, ly, show ¬ tke L B s ≤ s + 1 by omega, zp, nI_clamp, hb2.1, pn, nI_1, l10, l48, pk_mul, nI_add, pk_sub, if_true, if_false, ↓reduceIte, Bool.false_eq_true, reduceCtorEq]
      unfold lp_X9_numberHere_7
      simp (disch := omega) only [hA.2.1, hA.2.2.2, ly, show tke L B s ≤ s + 1 + 1 by omega, e1, o1s, if_true, if_false, ↓reduceIte, Bool.false_eq_true, reduceCtorEq]
      rw [show 10 * (10 * 0 + B s - 48) + B (s + 1) - 48 = 10 * (B s - 48) + (B (s + 1) - 48) by omega]
  · rw [if_neg hk]
    by_cases e : tke L B s ≤ s
    · have := tke_L (B := B) hs
      unfold lp_X9_numberHere_7
      simp (disch := omega) only [hA.2.1, hA.2.2.2, ly, e, o1s, if_true, if_false, ↓reduceIte, Bool.false_eq_true, reduceCtorEq]
    · have := tke_L (B := B) hs
      unfold lp_X9_numberHere_7
      simp (disch := omega) only [hA.2.1, hA.2.2.2, ly, lq, l3, e, hk, o1s, if_true, if_false, ↓reduceIte, Bool.false_eq_true, reduceCtorEq]
