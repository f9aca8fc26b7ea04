/-! PURE: the text, statement by statement -/
theorem one_bad {L : Nat} {B : Nat → Nat} {m i : Nat} {c d : pd_M} (h : Q L B m i 0 c d) (h2 : cod L B (Pp L B i) ≠ 102) (h3 : cod L B (Pp L B i) ≠ 103) (h4 : cod L B (Pp L B i) ≠ 104) (h5 : cod L B (Pp L B i) ≠ 105) : ∃ d', fn_X9_readOne d = some d' ∧ Q L B m i 1 (pi_up c 100 4 1) d' ∧ Fx 33 38 d d' := by
  obtain ⟨db, b1, b2, b3⟩ := m_must0 h
  obtain ⟨-, -, -, w3, w2, w4, w5⟩ := m_cmp h.1.2 (Pp_le L B i)
  have hw := m_word h.1.2 h.2.2.2.2 (Pp_le L B i)
  refine ⟨db, ?_, b2, b3⟩
  unfold fn_X9_readOne
  rw [hw]
  simp only [o1s, w2, w3, w4, w5, h2, h3, h4, h5, if_false]
  rw [b1, o1s, if_neg (show ¬ db 110 37 ≤ 0 by rw [b2.2.2.2.1.2.2.1]; decide)]
theorem lp_F {L : Nat} {B : Nat → Nat} {m i k : Nat} {c d : pd_M} (h : Q L B m i k c d) (hk : k ≠ 0) (n n' : Nat) (t : Int32) : lp_X3_readText_26 (n + 1) t c = some c ∧ lp_X9_laws_115 (n' + 1) d = some d := by
  have k3 := h.2.2.2.1.1
  constructor
  · unfold lp_X3_readText_26
    rw [if_neg (show ¬ c 100 4 = 0 by rw [h.2.2.2.1.2.1]; exact nk hk k3)]
    split <;> rfl
  · unfold lp_X9_laws_115
    rw [if_neg (show ¬ d 110 37 = 0 by rw [h.2.2.2.1.2.2.1]; exact nk hk k3)]
def TO (L : Nat) (B : Nat → Nat) (m N : Nat) (E : Nat → Nat) (c d : pd_M) (x y : Option pd_M) : Prop :=
  ∃ i' k' c' d', x = some c' ∧ y = some d' ∧ Q L B m i' k' c' d' ∧ FC N E c c' ∧ FD N E d d' ∧ (k' = 0 → ∃ N' E', N ≤ N' ∧ (∀ s, E s ≤ E' s) ∧ Dr N' E' c' d')
def TX (L : Nat) (B : Nat → Nat) (m r : Nat) : Prop := ∀ (t n n' i N : Nat) (E : Nat → Nat) (c d : pd_M), m - i ≤ r → t ≤ i → r + 1 < n → r + 1 < n' → Q L B m i 0 c d → Dr N E c d → TO L B m N E c d (lp_X3_readText_26 n (nI t) c) (lp_X9_laws_115 n' d)
theorem TX_end {L : Nat} {B : Nat → Nat} {m t n n' i N : Nat} {E : Nat → Nat} {c d : pd_M} (h : Q L B m i 0 c d) (hD : Dr N E c d) (hi : i = m) (ht : t ≤ i) : TO L B m N E c d (lp_X3_readText_26 (n + 1) (nI t) c) (lp_X9_laws_115 (n' + 1) d) := by
  obtain ⟨k1, k2, -⟩ := c_tok h
  have hc := (cod_end h.1.1 h.2.1).mpr hi
  have hL := h.1.1.1
  have hm := h.1.1.2.1
  have hk := (cod_lt L B (Pp L B i)).2.2.1.mp hc
  refine ⟨i, 0, c, d, ?_, ?_, h, fun _ _ _ => rfl, fun _ _ _ => rfl, fun _ => ⟨N, E, Nat.le_refl _, fun _ => Nat.le_refl _, hD⟩⟩
  · unfold lp_X3_readText_26
    rw [if_neg (show ¬ (500 : Int32) < nI t from nI_nlt (a := 500) (b := t) (by omega) (by decide)), if_pos (show c 100 4 = 0 from h.2.2.2.1.2.1), if_pos k1, k2, hc, if_pos (show nI 100 = (100 : Int32) from rfl)]
  · unfold lp_X9_laws_115
    rw [if_pos (show d 110 37 = 0 from h.2.2.2.1.2.2.1), if_pos (show d 110 34 = 1 by rw [h.2.2.2.2.2.1, hk]; rfl)]
theorem TX_st {L : Nat} {B : Nat → Nat} {m r : Nat} (ih : TX L B m r) {t n n' i N : Nat} {E : Nat → Nat} {c d : pd_M} {x y : Option pd_M} (h1 : m - i ≤ r + 1) (ht : t ≤ i) (hn : r + 1 < n) (hn' : r + 1 < n') (hS : St L B m i N E c d x y) : TO L B m N E c d (ob1 x fun f => lp_X3_readText_26 n (nI (t + 1)) f) (ob1 y fun f => lp_X9_laws_115 n' f) := by
  obtain ⟨i1, k1, c1, d1, rfl, rfl, h2, f2, g2, ok⟩ := hS
  simp only [o1s]
  by_cases hk : k1 = 0
  · subst hk
    obtain ⟨hi1, N1, E1, a1, a2, hD1⟩ := ok rfl
    obtain ⟨i', k', c', d', b1, b2, b3, b4, b5, b6⟩ := ih (t + 1) n n' i1 N1 E1 c1 d1 (by omega) (by omega) hn hn' h2 hD1
    refine ⟨i', k', c', d', b1, b2, b3, fun a j q => ?_, fun a j q => ?_, fun z => ?_⟩
    · rw [b4 a j (Pc_mono a1 a2 q), f2 a j q]
    · rw [b5 a j (Pd_mono a1 a2 q), g2 a j q]
    · obtain ⟨N', E', e1, e2, e3⟩ := b6 z
      exact ⟨N', E', Nat.le_trans a1 e1, fun s => Nat.le_trans (a2 s) (e2 s), e3⟩
  · obtain ⟨n, rfl⟩ : ∃ k, n = k + 1 := ⟨n - 1, by omega⟩
    obtain ⟨n', rfl⟩ : ∃ k, n' = k + 1 := ⟨n' - 1, by omega⟩
    obtain ⟨l1, l2⟩ := lp_F h2 hk n n' (nI (t + 1))
    exact ⟨i1, k1, c1, d1, l1, l2, h2, f2, g2, fun z => absurd z hk⟩
theorem TX_all {L : Nat} {B : Nat → Nat} {m : Nat} : ∀ r, TX L B m r := by
  intro r
  induction r with
  | zero =>
    intro t n n' i N E c d h1 h2 h3 h4 h hD
    obtain ⟨n, rfl⟩ : ∃ k, n = k + 1 := ⟨n - 1, by omega⟩
    obtain ⟨n', rfl⟩ : ∃ k, n' = k + 1 := ⟨n' - 1, by omega⟩
    exact TX_end h hD (by have := h.2.1; omega) h2
  | succ r ih =>
    intro t n n' i N E c d h1 h2 h3 h4 h hD
    obtain ⟨n, rfl⟩ : ∃ k, n = k + 1 := ⟨n - 1, by omega⟩
    obtain ⟨n', rfl⟩ : ∃ k, n' = k + 1 := ⟨n' - 1, by omega⟩
    by_cases hi : i = m
    · exact TX_end h hD hi h2
    · obtain ⟨k1, k2, -⟩ := c_tok h
      have hL := h.1.1.1
      have hm := h.1.1.2.1
      have him := h.2.1
      have cl := (cod_lt L B (Pp L B i)).1
      have hc : cod L B (Pp L B i) ≠ 100 := fun z => hi ((cod_end h.1.1 h.2.1).mp z)
      have hk : kd L B (Pp L B i) ≠ 1 := fun z => hc ((cod_lt L B (Pp L B i)).2.2.1.mpr z)
      have kl : kd L B (Pp L B i) < 5 := by
        unfold kd
        repeat' split
        all_goals omega
      have e5 : ¬ (500 : Int32) < nI t := nI_nlt (a := 500) (b := t) (by omega) (by decide)
      have e4 : c 100 4 = 0 := h.2.2.2.1.2.1
      have e37 : d 110 37 = 0 := h.2.2.2.1.2.2.1
      have e34 : ¬ d 110 34 = 1 := by
        rw [h.2.2.2.2.2.1, l1_, lq (by omega) (by omega)]
        exact hk
      have q : ∀ w : Nat, w < 2 ^ 31 → (nI (cod L B (Pp L B i)) = nI w) = (cod L B (Pp L B i) = w) := fun w hw => lq (by omega) hw
      unfold lp_X3_readText_26 lp_X9_laws_115
      rw [if_neg e5, if_pos e4, if_pos k1, k2, if_neg (show ¬ nI (cod L B (Pp L B i)) = (100 : Int32) by rw [l100, q 100 (by decide)]; exact hc), if_pos k1, if_pos e37, if_neg e34]
      simp only [pn, nI_1]
      by_cases v2 : cod L B (Pp L B i) = 102
      · rw [if_pos (show nI (cod L B (Pp L B i)) = (102 : Int32) by rw [v2]; rfl)]
        exact TX_st ih h1 h2 (by omega) (by omega) (ed_st h hD v2)
      rw [if_neg (show ¬ nI (cod L B (Pp L B i)) = (102 : Int32) by rw [l102, q 102 (by decide)]; exact v2)]
      by_cases v3 : cod L B (Pp L B i) = 103
      · rw [if_pos (show nI (cod L B (Pp L B i)) = (103 : Int32) by rw [v3]; rfl)]
        exact TX_st ih h1 h2 (by omega) (by omega) (say_st h hD v3)
      rw [if_neg (show ¬ nI (cod L B (Pp L B i)) = (103 : Int32) by rw [l103, q 103 (by decide)]; exact v3)]
      by_cases v4 : cod L B (Pp L B i) = 104
      · rw [if_pos (show nI (cod L B (Pp L B i)) = (104 : Int32) by rw [v4]; rfl)]
        exact TX_st ih h1 h2 (by omega) (by omega) (try_st h hD v4)
      rw [if_neg (show ¬ nI (cod L B (Pp L B i)) = (104 : Int32) by rw [l104, q 104 (by decide)]; exact v4)]
      by_cases v5 : cod L B (Pp L B i) = 105
      · rw [if_pos (show nI (cod L B (Pp L B i)) = (105 : Int32) by rw [v5]; rfl)]
        exact TX_st ih h1 h2 (by omega) (by omega) (within_st h hD v5)
      rw [if_neg (show ¬ nI (cod L B (Pp L B i)) = (105 : Int32) by rw [l105, q 105 (by decide)]; exact v5)]
      obtain ⟨d', a1, a2, a3⟩ := one_bad h v2 v3 v4 v5
      exact TX_st ih h1 h2 (by omega) (by omega) (St_F (i := i) (N := N) (E := E) (x := some (pi_up c 100 4 1)) rfl a1 a2 (by omega) Fc_4 a3)
/-! PURE: the copies at both ends of a text -/
theorem pr_s {f : pd_M} {a k : Nat} {g : Nat → Int32} : pi_row f a g a k = g k := by unfold pi_row; rw [if_pos rfl]
theorem pr_n {f : pd_M} {a b k : Nat} {g : Nat → Int32} (h : b ≠ a) : pi_row f a g b k = f b k := by unfold pi_row; rw [if_neg h]
theorem cpy_in {f g : Nat → Int32} {n k : Nat} (h : k < n) : va_cpy f g 0 0 n k = f k := by
  unfold va_cpy
  rw [if_pos (by omega), Nat.zero_add, Nat.sub_zero]
theorem cz0 : ((0 : Int32)).toNatClampNeg = 0 := by decide
theorem cz4 : ((4 : Int32)).toNatClampNeg = 4 := by decide
theorem cz16 : ((16 : Int32)).toNatClampNeg = 16 := by decide
theorem become_st {a0 p1 : Nat} (f : pd_M) (h1 : sk a0 = (12, 5)) (h2 : sk p1 = (12, 5)) (hd : p1 + 4 < a0 ∨ a0 + 4 < p1) :
    ∃ f', fn_X2_become a0 p1 f = some f' ∧ (∀ k, k < 4 → f' (a0 + 1) k = f (p1 + 1) k) ∧ (∀ k, k < 16 → f' (a0 + 2) k = f (p1 + 2) k) ∧ (∀ k, k < 4 → f' (a0 + 3) k = f (p1 + 3) k) ∧ (∀ k, k < 4 → f' (a0 + 4) k = f (p1 + 4) k) ∧ f' a0 4 = f p1 4 ∧
      ∀ a j, ¬ (a0 + 1 ≤ a ∧ a ≤ a0 + 4) → ¬ (a = a0 ∧ j = 4) → f' a j = f a j := by
  have c1 : pd_cp 0 0 4 4 4 = true := by decide
  have c2 : pd_cp 0 0 16 16 16 = true := by decide
  unfold fn_X2_become
  simp only [h1, h2, c1, c2, if_true, pn, cz0, cz4, cz16]
  refine ⟨_, rfl, fun k hk => ?_, fun k hk => ?_, fun k hk => ?_, fun k hk => ?_, ?_, fun a j q1 q2 => ?_⟩
  · rw [pu_n (by omega), pr_n (by omega), pr_n (by omega), pr_n (by omega), pr_s, cpy_in hk]
  · rw [pu_n (by omega), pr_n (by omega), pr_n (by omega), pr_s, cpy_in hk, pr_n (by omega)]
  · rw [pu_n (by omega), pr_n (by omega), pr_s, cpy_in hk, pr_n (by omega), pr_n (by omega)]
  · rw [pu_n (by omega), pr_s, cpy_in hk, pr_n (by omega), pr_n (by omega), pr_n (by omega)]
  · rw [pu_s, pr_n (by omega), pr_n (by omega), pr_n (by omega), pr_n (by omega)]
  · rw [pu_n (by omega), pr_n (by omega), pr_n (by omega), pr_n (by omega), pr_n (by omega)]
theorem l_38 : ∀ (r n j : Nat) (f : pd_M), j + r = 16 → r < n → ∃ f', lp_X9_laws_38 n (nI j) f = some f' ∧ (∀ a k, ¬ (a = 131 ∧ j ≤ k ∧ k < 16) → f' a k = f a k) ∧ ∀ k, j ≤ k → k < 16 → f' 131 k = f 130 k := by
  intro r
  induction r with
  | zero =>
    intro n j f h1 h2
    obtain ⟨n, rfl⟩ : ∃ k, n = k + 1 := ⟨n - 1, by omega⟩
    refine ⟨f, ?_, fun _ _ _ => rfl, fun k q1 q2 => absurd q2 (by omega)⟩
    unfold lp_X9_laws_38
    simp (disch := omega) only [l16, ly, show 16 ≤ j by omega, if_true, if_false, ↓reduceIte, Bool.false_eq_true, reduceCtorEq]
  | succ r ih =>
    intro n j f h1 h2
    obtain ⟨n, rfl⟩ : ∃ k, n = k + 1 := ⟨n - 1, by omega⟩
    obtain ⟨f', e1, e2, e3⟩ := ih n (j + 1) (pi_up f 131 j (f 130 j)) (by omega) (by omega)
    refine ⟨f', ?_, fun a k q => ?_, fun k q1 q2 => ?_⟩
    · unfold lp_X9_laws_38
      simp (disch := omega) only [l16, ly, show ¬ 16 ≤ j by omega, zp, nI_clamp, pn, nI_1, if_true, if_false, ↓reduceIte, Bool.false_eq_true, reduceCtorEq]
      exact e1
    · rw [e2 a k (by omega), pu_n (by omega)]
    · by_cases q : k = j
      · subst q
        rw [e2 131 _ (by omega), pu_s]
      · rw [e3 k (by omega) q2, pu_n (by omega)]
theorem l_170 : ∀ (r n j : Nat) (f : pd_M), j + r = 16 → r < n → ∃ f', lp_X9_laws_170 n (nI j) f = some f' ∧ (∀ a k, ¬ (a = 130 ∧ j ≤ k ∧ k < 16) → f' a k = f a k) ∧ ∀ k, j ≤ k → k < 16 → f' 130 k = f 131 k := by
  intro r
  induction r with
  | zero =>
    intro n j f h1 h2
    obtain ⟨n, rfl⟩ : ∃ k, n = k + 1 := ⟨n - 1, by omega⟩
    refine ⟨f, ?_, fun _ _ _ => rfl, fun k q1 q2 => absurd q2 (by omega)⟩
    unfold lp_X9_laws_170
    simp (disch := omega) only [l16, ly, show 16 ≤ j by omega, if_true, if_false, ↓reduceIte, Bool.false_eq_true, reduceCtorEq]
  | succ r ih =>
    intro n j f h1 h2
    obtain ⟨n, rfl⟩ : ∃ k, n = k + 1 := ⟨n - 1, by omega⟩
    obtain ⟨f', e1, e2, e3⟩ := ih n (j + 1) (pi_up f 130 j (f 131 j)) (by omega) (by omega)
    refine ⟨f', ?_, fun a k q => ?_, fun k q1 q2 => ?_⟩
    · unfold lp_X9_laws_170
      simp (disch := omega) only [l16, ly, show ¬ 16 ≤ j by omega, zp, nI_clamp, pn, nI_1, if_true, if_false, ↓reduceIte, Bool.false_eq_true, reduceCtorEq]
      exact e1
    · rw [e2 a k (by omega), pu_n (by omega)]
    · by_cases q : k = j
      · subst q
        rw [e2 130 _ (by omega), pu_s]
      · rw [e3 k (by omega) q2, pu_n (by omega)]
theorem l_64 : ∀ (r n j : Nat) (f : pd_M), j + r = 4 → r < n → ∃ f', lp_X9_laws_64 n (nI j) f = some f' ∧ (∀ a k, ¬ ((a = 115 ∨ a = 134 ∨ a = 135) ∧ j ≤ k ∧ k < 4) → f' a k = f a k) ∧ ∀ k, j ≤ k → k < 4 → f' 115 k = f 114 k ∧ f' 134 k = f 132 k ∧ f' 135 k = f 133 k := by
  intro r
  induction r with
  | zero =>
    intro n j f h1 h2
    obtain ⟨n, rfl⟩ : ∃ k, n = k + 1 := ⟨n - 1, by omega⟩
    refine ⟨f, ?_, fun _ _ _ => rfl, fun k q1 q2 => absurd q2 (by omega)⟩
    unfold lp_X9_laws_64
    simp (disch := omega) only [l4, ly, show 4 ≤ j by omega, if_true, if_false, ↓reduceIte, Bool.false_eq_true, reduceCtorEq]
  | succ r ih =>
    intro n j f h1 h2
    obtain ⟨n, rfl⟩ : ∃ k, n = k + 1 := ⟨n - 1, by omega⟩
    obtain ⟨f', e1, e2, e3⟩ := ih n (j + 1) (pi_up (pi_up (pi_up f 115 j (f 114 j)) 134 j (f 132 j)) 135 j (f 133 j)) (by omega) (by omega)
    refine ⟨f', ?_, fun a k q => ?_, fun k q1 q2 => ?_⟩
    · unfold lp_X9_laws_64
      simp (disch := omega) only [l4, ly, show ¬ 4 ≤ j by omega, zp, nI_clamp, pn, nI_1, pu_n, if_true, if_false, ↓reduceIte, Bool.false_eq_true, reduceCtorEq]
      exact e1
    · rw [e2 a k (by omega), pu_n (by omega), pu_n (by omega), pu_n (by omega)]
    · by_cases q : k = j
      · subst q
        refine ⟨?_, ?_, ?_⟩
        · rw [e2 115 _ (by omega), pu_n (by omega), pu_n (by omega), pu_s]
        · rw [e2 134 _ (by omega), pu_n (by omega), pu_s]
        · rw [e2 135 _ (by omega), pu_s]
      · obtain ⟨x1, x2, x3⟩ := e3 k (by omega) q2
        refine ⟨?_, ?_, ?_⟩
        · rw [x1, pu_n (by omega), pu_n (by omega), pu_n (by omega)]
        · rw [x2, pu_n (by omega), pu_n (by omega), pu_n (by omega)]
        · rw [x3, pu_n (by omega), pu_n (by omega), pu_n (by omega)]
theorem l_196 : ∀ (r n j : Nat) (f : pd_M), j + r = 4 → r < n → ∃ f', lp_X9_laws_196 n (nI j) f = some f' ∧ (∀ a k, ¬ ((a = 114 ∨ a = 132 ∨ a = 133) ∧ j ≤ k ∧ k < 4) → f' a k = f a k) ∧ ∀ k, j ≤ k → k < 4 → f' 114 k = f 115 k ∧ f' 132 k = f 134 k ∧ f' 133 k = f 135 k := by
  intro r
  induction r with
  | zero =>
    intro n j f h1 h2
    obtain ⟨n, rfl⟩ : ∃ k, n = k + 1 := ⟨n - 1, by omega⟩
    refine ⟨f, ?_, fun _ _ _ => rfl, fun k q1 q2 => absurd q2 (by omega)⟩
    unfold lp_X9_laws_196
    simp (disch := omega) only [l4, ly, show 4 ≤ j by omega, if_true, if_false, ↓reduceIte, Bool.false_eq_true, reduceCtorEq]
  | succ r ih =>
    intro n j f h1 h2
    obtain ⟨n, rfl⟩ : ∃ k, n = k + 1 := ⟨n - 1, by omega⟩
    obtain ⟨f', e1, e2, e3⟩ := ih n (j + 1) (pi_up (pi_up (pi_up f 114 j (f 115 j)) 132 j (f 134 j)) 133 j (f 135 j)) (by omega) (by omega)
    refine ⟨f', ?_, fun a k q => ?_, fun k q1 q2 => ?_⟩
    · unfold lp_X9_laws_196
      simp (disch := omega) only [l4, ly, show ¬ 4 ≤ j by omega, zp, nI_clamp, pn, nI_1, pu_n, if_true, if_false, ↓reduceIte, Bool.false_eq_true, reduceCtorEq]
      exact e1
    · rw [e2 a k (by omega), pu_n (by omega), pu_n (by omega), pu_n (by omega)]
    · by_cases q : k = j
      · subst q
        refine ⟨?_, ?_, ?_⟩
        · rw [e2 114 _ (by omega), pu_n (by omega), pu_n (by omega), pu_s]
        · rw [e2 132 _ (by omega), pu_n (by omega), pu_s]
        · rw [e2 133 _ (by omega), pu_s]
      · obtain ⟨x1, x2, x3⟩ := e3 k (by omega) q2
        refine ⟨?_, ?_, ?_⟩
        · rw [x1, pu_n (by omega), pu_n (by omega), pu_n (by omega)]
        · rw [x2, pu_n (by omega), pu_n (by omega), pu_n (by omega)]
        · rw [x3, pu_n (by omega), pu_n (by omega), pu_n (by omega)]
/-! PURE: what follows from a text -/
def FrK (c c' : pd_M) : Prop := ∀ a j, ¬ (68 ≤ a ∧ a < 100 ∧ a % 2 = 0 ∧ j = 1) → a ≠ 47 → c' a j = c a j
theorem SyN_fr {c c' : pd_M} {M : Nat → Nat → Nat} {N : Nat} (h : SyN c M N) (hf : FrK c c') : SyN c' M N := by
  obtain ⟨h1, h2, h3⟩ := h
  refine ⟨h1, ?_, fun i hi => ⟨(h3 i hi).1, ?_⟩⟩
  · rw [hf 40 4 (by omega) (by omega)]; exact h2
  · have := (h3 i hi).2
    unfold SyC at this ⊢
    simp (disch := omega) only [hf (48 + i)]
    exact this
theorem EdC_fr {c c' : pd_M} {M : Nat → Nat → Nat} {e : Nat} (h : EdC c M e) (hf : FrK c c') : EdC c' M e := fun k hk => by
  rw [hf _ k (by omega) (by omega)]
  exact h k hk
theorem ls_17 {M : Nat → Nat → Nat} {N s Es : Nat} (hs : s < 4) (hE4 : Es ≤ 4) : ∀ (r n e : Nat) (c : pd_M), e + r = Es → r < n → SyN c M N → c 41 s = nI Es → (∀ x, x < Es → EdC c M (4 * s + x)) →
    ∃ c', lp_X7_settle_17 n (nI s) (nI e) c = some c' ∧ (∀ a j, ¬ (68 + 2 * (4 * s + e) ≤ a ∧ a < 68 + 2 * (4 * s + Es) ∧ a % 2 = 0 ∧ j = 1) → c' a j = c a j) ∧ ∀ x, e ≤ x → x < Es → c' (68 + 2 * (4 * s + x)) 1 = nI (orF (sKs M s x) N) := by
  intro r
  induction r with
  | zero =>
    intro n e c h1 h2 hN h41 hE
    obtain ⟨n, rfl⟩ : ∃ k, n = k + 1 := ⟨n - 1, by omega⟩
    refine ⟨c, ?_, fun _ _ _ => rfl, fun k q1 q2 => absurd q2 (by omega)⟩
    unfold lp_X7_settle_17
    simp (disch := omega) only [zp, nI_clamp, h41, ly, show Es ≤ e by omega, if_true, if_false, ↓reduceIte, Bool.false_eq_true, reduceCtorEq]
  | succ r ih =>
    intro n e c h1 h2 hN h41 hE
    obtain ⟨n, rfl⟩ : ∃ k, n = k + 1 := ⟨n - 1, by omega⟩
    have k1 := g_keptBy hN hs (show e < 4 by omega) (hE e (by omega))
    have fr : FrK c (pi_up c (68 + 2 * (4 * s + e)) 1 (nI (orF (sKs M s e) N))) := fun a j q1 q2 => pu_n (by omega)
    obtain ⟨c', e1, e2, e3⟩ := ih n (e + 1) _ (by omega) (by omega) (SyN_fr hN fr) (by rw [pu_n (by omega)]; exact h41) (fun x hx => EdC_fr (hE x hx) fr)
    refine ⟨c', ?_, fun a j q => ?_, fun x q1 q2 => ?_⟩
    · unfold lp_X7_settle_17
      simp (disch := omega) only [zp, nI_clamp, h41, ly, show ¬ Es ≤ e by omega, c_edOf, k1, o1s, pn, nI_1, if_true, if_false, ↓reduceIte, Bool.false_eq_true, reduceCtorEq]
      exact e1
    · rw [e2 a j (by omega), pu_n (by omega)]
    · by_cases q : x = e
      · subst q
        rw [e2 _ 1 (by omega), pu_s]
      · exact e3 x (by omega) q2
theorem ls_10 {M : Nat → Nat → Nat} {E : Nat → Nat} (hE4 : ∀ s, s < 4 → E s ≤ 4) : ∀ (r n s : Nat) (c : pd_M), s + r = 4 → r < n → SyN c M (M 0 0) → (∀ s, s < 4 → c 41 s = nI (E s)) → (∀ s, s < 4 → ∀ x, x < E s → EdC c M (4 * s + x)) →
    ∃ c', lp_X7_settle_10 n (nI s) c = some c' ∧ (∀ a j, ¬ (68 + 8 * s ≤ a ∧ a < 100 ∧ a % 2 = 0 ∧ j = 1) → ¬ (a = 47 ∧ s ≤ j) → c' a j = c a j) ∧ ∀ g, s ≤ g → g < 4 → c' 47 g = nI (sQ M g) ∧ ∀ x, x < E g → c' (68 + 2 * (4 * g + x)) 1 = nI (orF (sKs M g x) (M 0 0)) := by
  intro r
  induction r with
  | zero =>
    intro n s c h1 h2 hN h41 hE
    obtain ⟨n, rfl⟩ : ∃ k, n = k + 1 := ⟨n - 1, by omega⟩
    refine ⟨c, ?_, fun _ _ _ _ => rfl, fun k q1 q2 => absurd q2 (by omega)⟩
    unfold lp_X7_settle_10
    simp (disch := omega) only [l4, ly, show 4 ≤ s by omega, if_true, if_false, ↓reduceIte, Bool.false_eq_true, reduceCtorEq]
  | succ r ih =>
    intro n s c h1 h2 hN h41 hE
    obtain ⟨n, rfl⟩ : ∃ k, n = k + 1 := ⟨n - 1, by omega⟩
    have h4 := hE4 s (by omega)
    obtain ⟨c1, a1, a2, a3⟩ := ls_17 (show s < 4 by omega) h4 (E s) 5000 0 c (by omega) (by omega) hN (h41 s (by omega)) (hE s (by omega))
    have a1 : lp_X7_settle_17 5000 (nI s) 0 c = some c1 := a1
    have fr1 : FrK c c1 := fun a j q1 q2 => a2 a j (by omega)
    have k1 := g_leastQuarrel (SyN_fr hN fr1) (show s < 4 by omega)
    have fr2 : FrK c (pi_up c1 47 s (nI (sQ M s))) := fun a j q1 q2 => by rw [pu_n (by omega), fr1 a j q1 q2]
    obtain ⟨c', e1, e2, e3⟩ := ih n (s + 1) (pi_up c1 47 s (nI (sQ M s))) (by omega) (by omega) (SyN_fr hN fr2) (fun x hx => by rw [fr2 41 x (by omega) (by omega)]; exact h41 x hx) (fun s' hs' x hx => EdC_fr (hE s' hs' x hx) fr2)
    refine ⟨c', ?_, fun a j q1 q2 => ?_, fun g q1 q2 => ?_⟩
    · unfold lp_X7_settle_10
      simp (disch := omega) only [l4, ly, show ¬ 4 ≤ s by omega, a1, k1, o1s, zp, nI_clamp, pn, nI_1, if_true, if_false, ↓reduceIte, Bool.false_eq_true, reduceCtorEq]
      exact e1
    · rw [e2 a j (by omega) (by omega), pu_n (by omega), a2 a j (by omega)]
    · by_cases q : g = s
      · subst q
        refine ⟨?_, fun x hx => ?_⟩
        · rw [e2 47 g (by omega) (by omega), pu_s]
        · rw [e2 _ 1 (by omega) (by omega), pu_n (by omega)]
          exact a3 x (by omega) hx
      · exact e3 g (by omega) q2
