/-! PURE: both readers, step by step -/
def Q (L : Nat) (B : Nat → Nat) (m i k : Nat) (c d : pd_M) : Prop :=
  (Tk L B m c ∧ Tp L B d) ∧ i ≤ m ∧ c 100 3 = nI i ∧ (k ≤ 3 ∧ c 100 4 = nI k ∧ d 110 37 = nI k ∧ (k ≠ 0 → d 110 38 = nI (Pp L B i))) ∧ AtT L B d (Pp L B i)
def Fc (c c' : pd_M) : Prop := ∀ a j, ¬ (a = 100 ∧ (j = 3 ∨ j = 4)) → c' a j = c a j
theorem Fc_rf {c : pd_M} : Fc c c := fun _ _ _ => rfl
theorem Fc_tr {c c' c'' : pd_M} (h : Fc c c') (h2 : Fc c' c'') : Fc c c'' := fun a j q => by rw [h2 a j q, h a j q]
theorem Fc_3 {c : pd_M} {v : Int32} : Fc c (pi_up c 100 3 v) := fun a j q => pu_n (by omega)
theorem Fc_4 {c : pd_M} {v : Int32} : Fc c (pi_up c 100 4 v) := fun a j q => pu_n (by omega)
theorem Tk_c {L : Nat} {B : Nat → Nat} {m : Nat} {c c' : pd_M} (h : Tk L B m c) (h1 : ∀ j, c' 37 j = c 37 j) (h2 : ∀ j, c' 38 j = c 38 j) : Tk L B m c' :=
  ⟨h.1, h.2.1, h.2.2.1, h.2.2.2.1, fun j hj => by rw [h1, h2]; exact h.2.2.2.2 j hj⟩
theorem Q_upc {L : Nat} {B : Nat → Nat} {m i k : Nat} {c d : pd_M} {a j : Nat} {v : Int32} (h : Q L B m i k c d) (ha : a ≠ 37 ∧ a ≠ 38 ∧ a ≠ 100) : Q L B m i k (pi_up c a j v) d := by
  obtain ⟨⟨h1, h2⟩, h3, h4, h5, h6⟩ := h
  refine ⟨⟨Tk_c h1 (fun j => pu_n (by omega)) (fun j => pu_n (by omega)), h2⟩, h3, ?_, ?_, h6⟩
  · rw [pu_n (by omega)]; exact h4
  · rw [pu_n (by omega)]; exact h5
theorem Q_cc {L : Nat} {B : Nat → Nat} {m i k : Nat} {c c' d : pd_M} (h : Q L B m i k c d) (hf : ∀ a j, (a = 37 ∨ a = 38 ∨ a = 100) → c' a j = c a j) : Q L B m i k c' d := by
  obtain ⟨⟨h1, h2⟩, h3, h4, h5, h6⟩ := h
  refine ⟨⟨Tk_c h1 (fun j => hf 37 j (by omega)) (fun j => hf 38 j (by omega)), h2⟩, h3, ?_, ?_, h6⟩
  · rw [hf 100 3 (by omega)]; exact h4
  · rw [hf 100 4 (by omega)]; exact h5
theorem Q_dd {L : Nat} {B : Nat → Nat} {m i k : Nat} {c d d' : pd_M} (h : Q L B m i k c d) (hf : ∀ a j, (a = 136 ∨ a = 110 ∧ 32 ≤ j ∧ j ≤ 38) → d' a j = d a j) : Q L B m i k c d' := by
  obtain ⟨⟨h1, h2⟩, h3, h4, h5, h6⟩ := h
  refine ⟨⟨h1, h2.1, ?_, fun k hk => ?_⟩, h3, h4, ⟨h5.1, h5.2.1, ?_, fun z => ?_⟩, ?_, ?_, ?_, ?_⟩
  · rw [hf 110 32 (by omega)]; exact h2.2.1
  · rw [hf 136 k (by omega)]; exact h2.2.2 k hk
  · rw [hf 110 37 (by omega)]; exact h5.2.2.1
  · rw [hf 110 38 (by omega)]; exact h5.2.2.2 z
  · rw [hf 110 33 (by omega)]; exact h6.1
  · rw [hf 110 34 (by omega)]; exact h6.2.1
  · rw [hf 110 35 (by omega)]; exact h6.2.2.1
  · rw [hf 110 36 (by omega)]; exact h6.2.2.2
theorem Q_upd {L : Nat} {B : Nat → Nat} {m i k : Nat} {c d : pd_M} {a j : Nat} {v : Int32} (h : Q L B m i k c d) (ha : a ≠ 136 ∧ ¬ (a = 110 ∧ 32 ≤ j ∧ j ≤ 38)) : Q L B m i k c (pi_up d a j v) := Q_dd h (fun b l q => pu_n (by omega))
theorem m_bad1 {L : Nat} {B : Nat → Nat} {m i k : Nat} {c d : pd_M} (h : Q L B m i k c d) (hk : k ≠ 0) (v : Int32) : fn_X9_bad v d = some d := by
  have := h.2.2.2.1.1
  unfold fn_X9_bad
  simp (disch := omega) only [h.2.2.2.1.2.2.1, zc, hk, if_true, if_false, ↓reduceIte, Bool.false_eq_true, reduceCtorEq]
theorem m_bad0 {L : Nat} {B : Nat → Nat} {m i : Nat} {c d : pd_M} (h : Q L B m i 0 c d) {b : Nat} (hb : b ≠ 0) (hb3 : b ≤ 3) : ∃ d', fn_X9_bad (nI b) d = some d' ∧ Q L B m i b (pi_up c 100 4 (nI b)) d' ∧ Fx 33 38 d d' := by
  have ha := h.2.2.2.2
  refine ⟨pi_up (pi_up d 110 37 (nI b)) 110 38 (nI (Pp L B i)), ?_, ?_, Fx_up (Fx_up Fx_rf (by omega) (by omega)) (by omega) (by omega)⟩
  · unfold fn_X9_bad
    rw [if_pos (show d 110 37 = 0 from h.2.2.2.1.2.2.1)]
    simp (disch := omega) only [pn, pu_n, ha.2.2.1]
  · refine ⟨⟨Tk_c h.1.1 (fun j => pu_n (by omega)) (fun j => pu_n (by omega)), Tp_fx h.1.2 (Fx_up (Fx_up Fx_rf (by omega) (by omega)) (by omega) (by omega))⟩, h.2.1, ?_, ⟨hb3, pu_s, ?_, fun _ => pu_s⟩, ?_, ?_, ?_, ?_⟩
    · rw [pu_n (by omega)]; exact h.2.2.1
    · rw [pu_n (by omega), pu_s]
    · rw [pu_n (by omega), pu_n (by omega)]; exact ha.1
    · rw [pu_n (by omega), pu_n (by omega)]; exact ha.2.1
    · rw [pu_n (by omega), pu_n (by omega)]; exact ha.2.2.1
    · rw [pu_n (by omega), pu_n (by omega)]; exact ha.2.2.2
theorem m_mustF {L : Nat} {B : Nat → Nat} {m i k : Nat} {c d : pd_M} (h : Q L B m i k c d) (hk : k ≠ 0) (v : Int32) : fn_X9_must v d = some d := by
  have := h.2.2.2.1.1
  unfold fn_X9_must
  rw [m_bad1 h hk 1]
  by_cases e : v = 0
  · simp (disch := omega) only [e, o1s, h.2.2.2.1.2.2.1, zc, hk, if_true, if_false, ↓reduceIte, Bool.false_eq_true, reduceCtorEq]
  · simp (disch := omega) only [e, o1s, h.2.2.2.1.2.2.1, zc, hk, if_true, if_false, ↓reduceIte, Bool.false_eq_true, reduceCtorEq]
theorem m_must0 {L : Nat} {B : Nat → Nat} {m i : Nat} {c d : pd_M} (h : Q L B m i 0 c d) : ∃ d', fn_X9_must 0 d = some d' ∧ Q L B m i 1 (pi_up c 100 4 (nI 1)) d' ∧ Fx 33 38 d d' := by
  obtain ⟨d', e1, e2, e3⟩ := m_bad0 h (b := 1) (by omega) (by omega)
  refine ⟨d', ?_, e2, e3⟩
  unfold fn_X9_must
  rw [show fn_X9_bad 1 d = some d' from e1]
  simp (disch := omega) only [o1s, e2.2.2.2.1.2.2.1, zc, Nat.one_ne_zero, if_true, if_false, ↓reduceIte, Bool.false_eq_true, reduceCtorEq]
theorem m_must1 {L : Nat} {B : Nat → Nat} {m i : Nat} {c d : pd_M} (h : Q L B m i 0 c d) (hi : i < m) {v : Int32} (hv : v ≠ 0) : ∃ d', fn_X9_must v d = some d' ∧ Q L B m (i + 1) 0 (pi_up c 100 3 (nI (i + 1))) d' ∧ Fx 33 38 d d' := by
  obtain ⟨⟨t1, t2⟩, h2, h3, h4, h5⟩ := h
  obtain ⟨d', e1, e2, e3⟩ := m_next t2 (tke_L (Pp_le L B i)) h5.1
  have f3 : Fx 33 38 d d' := Fx_wide e3 (by omega) (by omega)
  refine ⟨d', ?_, ⟨⟨Tk_c t1 (fun j => pu_n (by omega)) (fun j => pu_n (by omega)), Tp_fx t2 f3⟩, hi, pu_s, ⟨by omega, ?_, ?_, fun z => absurd rfl z⟩, e2⟩, f3⟩
  · unfold fn_X9_must
    rw [if_neg hv]
    simp only [o1s]
    rw [if_pos (show d 110 37 = 0 from h4.2.2.1), e1]
    rfl
  · rw [pu_n (by omega)]; exact h4.2.1
  · rw [e3 110 37 (by omega)]; exact h4.2.2.1
theorem cod_end {L : Nat} {B : Nat → Nat} {m i : Nat} {c : pd_M} (h : Tk L B m c) (hi : i ≤ m) : cod L B (Pp L B i) = 100 ↔ i = m := by
  constructor
  · intro e
    refine Decidable.byContradiction fun z => ?_
    have h1 := h.2.2.2.1 i (by omega)
    have := (cod_lt L B (Pp L B i)).2.2.1.mp e
    unfold kd at this
    rw [if_neg (by omega)] at this
    repeat' split at this
    all_goals omega
  · intro e
    subst e
    rw [h.2.2.1]
    unfold cod
    rw [if_pos (Nat.le_refl _)]
theorem c_tok {L : Nat} {B : Nat → Nat} {m i k : Nat} {c d : pd_M} (h : Q L B m i k c d) : pa_in (c 100 3) 501 = true ∧ c 37 (c 100 3).toNatClampNeg = nI (cod L B (Pp L B i)) ∧ c 38 (c 100 3).toNatClampNeg = nI (Pp L B i) := by
  obtain ⟨⟨t1, t2⟩, h2, h3, h4, h5⟩ := h
  have a := t1.1
  have b := t1.2.1
  have e : (c 100 3).toNatClampNeg = i := by rw [h3, nI_clamp (by omega)]
  rw [e]
  refine ⟨by rw [h3]; exact zp (by omega) (by omega), t1.2.2.2.2 i h2⟩
theorem look_F {L : Nat} {B : Nat → Nat} {m i k : Nat} {c d : pd_M} (h : Q L B m i k c d) (hk : k ≠ 0) (p1 p2 p3 : Int32) : fn_X3_look p1 p2 p3 c = some (p1, c) := by
  have := h.2.2.2.1.1
  unfold fn_X3_look
  simp (disch := omega) only [h.2.2.2.1.2.1, zc, hk, if_true, if_false, ↓reduceIte, Bool.false_eq_true, reduceCtorEq]
theorem numIn_F {L : Nat} {B : Nat → Nat} {m i k : Nat} {c d : pd_M} (h : Q L B m i k c d) (hk : k ≠ 0) (p1 p2 p3 : Int32) : fn_X9_numberIn p1 p2 p3 d = some (0, d) := by
  have := h.2.2.2.1.1
  unfold fn_X9_numberIn
  simp (disch := omega) only [h.2.2.2.1.2.2.1, zd, hk, if_true, if_false, ↓reduceIte, Bool.false_eq_true, reduceCtorEq]
theorem look_ok {L : Nat} {B : Nat → Nat} {m i : Nat} {c d : pd_M} (h : Q L B m i 0 c d) {lo hi bar : Nat} (hh : hi ≤ 99) (hl : lo ≤ 99) (hb : bar < 16) : fn_X3_look (nI lo) (nI hi) (nI bar) c = if cod L B (Pp L B i) ≤ 99 then (if lo ≤ cod L B (Pp L B i) ∧ cod L B (Pp L B i) ≤ hi ∧ bar.testBit (cod L B (Pp L B i)) = false then some (nI (cod L B (Pp L B i)), c) else some (nI lo, pi_up c 100 4 (nI 2))) else some (nI lo, pi_up c 100 4 (nI 1)) := by
  obtain ⟨k1, k2, k3⟩ := c_tok h
  have cl := (cod_lt L B (Pp L B i)).1
  unfold fn_X3_look
  rw [if_pos (show c 100 4 = 0 from h.2.2.2.1.2.1), if_pos k1, k2]
  generalize cod L B (Pp L B i) = v at cl ⊢
  simp (disch := omega) only [pn, l99, ly, lt_, l4]
  by_cases h9 : v ≤ 99
  · rw [if_pos h9, if_pos h9]
    by_cases c1 : v < lo
    · rw [if_pos c1, if_neg (by omega)]
      rfl
    · rw [if_neg c1]
      by_cases c2 : hi < v
      · rw [if_pos c2, if_neg (by omega)]
        rfl
      · rw [if_neg c2]
        by_cases c3 : 4 ≤ v
        · rw [if_pos c3, if_pos ⟨by omega, by omega, tb_hi (k := 4) hb c3⟩]
        · rw [if_neg c3]
          simp (disch := omega) only [q_bit0]
          by_cases c4 : bar.testBit v = false
          · rw [if_pos c4, if_pos ⟨by omega, by omega, c4⟩]
          · rw [if_neg c4, if_neg (fun z => c4 z.2.2)]
            rfl
  · rw [if_neg h9, if_neg h9]
    rfl
theorem numIn_ok {L : Nat} {B : Nat → Nat} {m i : Nat} {c d : pd_M} (h : Q L B m i 0 c d) {lo hi bar : Nat} (hh : hi ≤ 99) (hl : lo ≤ 99) (hb : bar < 16) :
    ∃ w d' i' k' c1, fn_X9_numberIn (nI lo) (nI hi) (nI bar) d = some (w, d') ∧ Q L B m i' k' c1 d' ∧ Fx 33 38 d d' ∧
      ((k' = 0 ∧ i' = i + 1 ∧ i < m ∧ w = nI (cod L B (Pp L B i)) ∧ cod L B (Pp L B i) ≤ 99 ∧ (lo ≤ cod L B (Pp L B i) ∧ cod L B (Pp L B i) ≤ hi ∧ bar.testBit (cod L B (Pp L B i)) = false) ∧ c1 = pi_up c 100 3 (nI (i + 1))) ∨
       (k' = 2 ∧ i' = i ∧ cod L B (Pp L B i) ≤ 99 ∧ ¬ (lo ≤ cod L B (Pp L B i) ∧ cod L B (Pp L B i) ≤ hi ∧ bar.testBit (cod L B (Pp L B i)) = false) ∧ c1 = pi_up c 100 4 (nI 2)) ∨
       (k' = 1 ∧ i' = i ∧ ¬ cod L B (Pp L B i) ≤ 99 ∧ c1 = pi_up c 100 4 (nI 1))) := by
  have hn := m_num h.1.2 h.2.2.2.2 (Pp_le L B i)
  have cl := (cod_lt L B (Pp L B i)).1
  have ck := (cod_lt L B (Pp L B i)).2.1
  have k34 := h.2.2.2.2.2.1
  have kl : kd L B (Pp L B i) < 5 := by
    unfold kd
    repeat' split
    all_goals omega
  have z37 : d 110 37 ≤ 0 := by rw [show d 110 37 = 0 from h.2.2.2.1.2.2.1]; decide
  unfold fn_X9_numberIn
  rw [if_pos z37, hn]
  by_cases k3 : kd L B (Pp L B i) = 3
  · have h9 := ck.mpr k3
    have him : i < m := by
      have := (cod_end h.1.1 h.2.1)
      have h2 := h.2.1
      omega
    rw [if_pos k3]
    have h34 : d 110 34 = 3 := by rw [k34, k3]; rfl
    simp only [o1s]
    rw [if_pos h34]
    generalize cod L B (Pp L B i) = v at cl ck h9 ⊢
    have e1 : fn_X9_in (nI v).toInt64 (nI lo).toInt64 (nI hi).toInt64 = if lo ≤ v ∧ v ≤ hi then 1 else 0 := by
      rw [qI, q_l, q_l, q_l, nI_toInt (by omega), nI_toInt (by omega), nI_toInt (by omega)]
      by_cases z : lo ≤ v ∧ v ≤ hi
      · rw [if_pos z, if_pos (by omega)]
      · rw [if_neg z, if_neg (by omega)]
    rw [e1]
    have good : (lo ≤ v ∧ v ≤ hi ∧ bar.testBit v = false) → ∃ d', fn_X9_must 1 d = some d' ∧ Q L B m (i + 1) 0 (pi_up c 100 3 (nI (i + 1))) d' ∧ Fx 33 38 d d' := fun _ => m_must1 h him (by decide)
    obtain ⟨db, b1, b2, b3⟩ := m_bad0 h (b := 2) (by omega) (by omega)
    have b4 : db 110 34 = 3 := by
      rw [b2.2.2.2.2.2.1, k3]; rfl
    have b1 : fn_X9_bad 2 d = some db := b1
    by_cases c1 : lo ≤ v ∧ v ≤ hi
    · rw [if_pos c1, if_neg (by decide)]
      by_cases c2 : 31 ≤ v
      · simp (disch := omega) only [l31, ly, c2, if_true, if_false, ↓reduceIte, Bool.false_eq_true, reduceCtorEq]
        have c3 := tb_hi (a := bar) (k := 4) (i := v) hb (by omega)
        obtain ⟨d', e1, e2, e3⟩ := good ⟨c1.1, c1.2, c3⟩
        simp only [o1s, h34, if_true, e1]
        exact ⟨_, d', _, _, _, rfl, e2, e3, Or.inl ⟨rfl, rfl, him, rfl, h9, ⟨c1.1, c1.2, c3⟩, rfl⟩⟩
      · have e31 : (nI v &&& 31) = (nI v &&& 31) := rfl
        rw [if_neg (show ¬ (31 : Int32) ≤ nI v from nI_ge (a := v) (b := 31) (by omega) (by decide))]
        simp (disch := omega) only [q_bit1]
        by_cases c3 : bar.testBit v = true
        · simp only [c3, b1, o1s, if_true, b4]
          rw [m_mustF b2 (by omega)]
          refine ⟨_, db, _, _, _, rfl, b2, b3, Or.inr (Or.inl ⟨rfl, rfl, h9, fun z => ?_, rfl⟩)⟩
          exact absurd z.2.2 (by decide)
        · have c3 := Bool.eq_false_iff.mpr c3
          obtain ⟨d', e1, e2, e3⟩ := good ⟨c1.1, c1.2, c3⟩
          simp only [c3, if_true, if_false, ↓reduceIte, Bool.false_eq_true, reduceCtorEq]
          simp only [o1s, h34, if_true, e1]
          exact ⟨_, d', _, _, _, rfl, e2, e3, Or.inl ⟨rfl, rfl, him, rfl, h9, ⟨c1.1, c1.2, by trivial⟩, rfl⟩⟩
    · rw [if_neg c1, if_pos rfl]
      simp only [b1, o1s, b4, if_true]
      rw [m_mustF b2 (by omega)]
      exact ⟨_, db, _, _, _, rfl, b2, b3, Or.inr (Or.inl ⟨rfl, rfl, h9, fun z => c1 ⟨z.1, z.2.1⟩, rfl⟩)⟩
  · have h9 : ¬ cod L B (Pp L B i) ≤ 99 := fun z => k3 (ck.mp z)
    rw [if_neg k3]
    have e34 : ¬ d 110 34 = 3 := by
      rw [k34, l3, lq (by omega) (by omega)]; exact k3
    simp only [o1s, e34, if_false]
    obtain ⟨d', e1, e2, e3⟩ := m_must0 h
    rw [e1]
    exact ⟨_, d', _, _, _, rfl, e2, e3, Or.inr (Or.inr ⟨rfl, rfl, h9, rfl⟩)⟩
/-- a number, in the class and in the reference, whatever stands there -/
theorem fresh_st {L : Nat} {B : Nat → Nat} {m i k : Nat} {c d : pd_M} (h : Q L B m i k c d) (hi bar : Nat) (hh : hi ≤ 99) (hb : bar < 16) (p1 p2 p3 : Int32) (hm : k = 0 → p1 = nI 0 ∧ p2 = nI hi ∧ p3 = nI bar) :
    ∃ x w i' k' c' d', x ≤ hi ∧ fn_X3_fresh (nI hi) (nI bar) c = some (nI x, c') ∧ fn_X9_numberIn p1 p2 p3 d = some (w, d') ∧ Q L B m i' k' c' d' ∧ Fc c c' ∧ Fx 33 38 d d' ∧ i ≤ i' ∧ (k' = 0 → k = 0 ∧ w = nI x ∧ bar.testBit x = false) := by
  by_cases hk : k = 0
  · subst hk
    obtain ⟨rfl, rfl, rfl⟩ := hm rfl
    have hl := look_ok h (lo := 0) hh (by omega) hb
    obtain ⟨w, d', i', k', c1, e1, e2, e3, e4⟩ := numIn_ok h (lo := 0) hh (by omega) hb
    unfold fn_X3_fresh
    rw [show fn_X3_look 0 (nI hi) (nI bar) c = _ from hl]
    rcases e4 with ⟨rfl, rfl, hi', rfl, h9, hg, rfl⟩ | ⟨rfl, rfl, h9, hg, rfl⟩ | ⟨rfl, rfl, h9, rfl⟩
    · rw [if_pos h9, if_pos hg]
      simp only [o2s]
      rw [if_pos (show c 100 4 = 0 from h.2.2.2.1.2.1)]
      simp only [pn, h.2.2.1, nI_1]
      exact ⟨_, _, _, _, _, _, hg.2.1, rfl, e1, e2, Fc_3, e3, by omega, fun _ => ⟨by trivial, rfl, hg.2.2⟩⟩
    · rw [if_pos h9, if_neg hg]
      simp only [o2s, pu_s]
      rw [if_neg (by decide)]
      exact ⟨0, _, _, _, _, _, by omega, rfl, e1, e2, Fc_4, e3, by omega, fun z => absurd z (by omega)⟩
    · rw [if_neg h9]
      simp only [o2s, pu_s]
      rw [if_neg (by decide)]
      exact ⟨0, _, _, _, _, _, by omega, rfl, e1, e2, Fc_4, e3, by omega, fun z => absurd z (by omega)⟩
  · have k3 := h.2.2.2.1.1
    refine ⟨0, 0, i, k, c, d, by omega, ?_, numIn_F h hk _ _ _, h, Fc_rf, Fx_rf, by omega, fun z => absurd z hk⟩
    unfold fn_X3_fresh
    rw [look_F h hk]
    simp (disch := omega) only [o2s, h.2.2.2.1.2.1, zc, hk, if_true, if_false, ↓reduceIte, Bool.false_eq_true, reduceCtorEq]
    rfl
theorem num_st {L : Nat} {B : Nat → Nat} {m i k : Nat} {c d : pd_M} (h : Q L B m i k c d) (lo hi : Nat) (hlh : lo ≤ hi) (hh : hi ≤ 99) (p1 p2 p3 : Int32) (hm : k = 0 → p1 = nI lo ∧ p2 = nI hi ∧ p3 = 0) :
    ∃ x w i' k' c' d', lo ≤ x ∧ x ≤ hi ∧ fn_X3_number (nI lo) (nI hi) c = some (nI x, c') ∧ fn_X9_numberIn p1 p2 p3 d = some (w, d') ∧ Q L B m i' k' c' d' ∧ Fc c c' ∧ Fx 33 38 d d' ∧ i ≤ i' ∧ (k' = 0 → k = 0 ∧ w = nI x) := by
  by_cases hk : k = 0
  · subst hk
    obtain ⟨rfl, rfl, rfl⟩ := hm rfl
    have hl := look_ok h (lo := lo) (bar := 0) hh (by omega) (by omega)
    obtain ⟨w, d', i', k', c1, e1, e2, e3, e4⟩ := numIn_ok h (lo := lo) (bar := 0) hh (by omega) (by omega)
    unfold fn_X3_number
    rw [show fn_X3_look (nI lo) (nI hi) 0 c = _ from hl]
    rcases e4 with ⟨rfl, rfl, hi', rfl, h9, hg, rfl⟩ | ⟨rfl, rfl, h9, hg, rfl⟩ | ⟨rfl, rfl, h9, rfl⟩
    · rw [if_pos h9, if_pos hg]
      simp only [o2s]
      rw [if_pos (show c 100 4 = 0 from h.2.2.2.1.2.1)]
      simp only [pn, h.2.2.1, nI_1]
      exact ⟨_, _, _, _, _, _, hg.1, hg.2.1, rfl, e1, e2, Fc_3, e3, by omega, fun _ => ⟨by trivial, rfl⟩⟩
    · rw [if_pos h9, if_neg hg]
      simp only [o2s, pu_s]
      rw [if_neg (by decide)]
      exact ⟨lo, _, _, _, _, _, by omega, by omega, rfl, e1, e2, Fc_4, e3, by omega, fun z => absurd z (by omega)⟩
    · rw [if_neg h9]
      simp only [o2s, pu_s]
      rw [if_neg (by decide)]
      exact ⟨lo, _, _, _, _, _, by omega, by omega, rfl, e1, e2, Fc_4, e3, by omega, fun z => absurd z (by omega)⟩
  · have k3 := h.2.2.2.1.1
    refine ⟨lo, 0, i, k, c, d, by omega, by omega, ?_, numIn_F h hk _ _ _, h, Fc_rf, Fx_rf, by omega, fun z => absurd z hk⟩
    unfold fn_X3_number
    rw [look_F h hk]
    simp (disch := omega) only [o2s, h.2.2.2.1.2.1, zc, hk, if_true, if_false, ↓reduceIte, Bool.false_eq_true, reduceCtorEq]
/-- a sign or word that must stand -/
theorem take_st {L : Nat} {B : Nat → Nat} {m i k : Nat} {c d : pd_M} (h : Q L B m i k c d) (t : Nat) (ht : 101 ≤ t) (ht2 : t < 128) (v : Int32) (hv : k = 0 → ((cod L B (Pp L B i) = t → v = 1) ∧ (cod L B (Pp L B i) ≠ t → v = 0))) :
    ∃ i' k' c' d', fn_X3_take (nI t) c = some c' ∧ fn_X9_must v d = some d' ∧ Q L B m i' k' c' d' ∧ Fc c c' ∧ Fx 33 38 d d' ∧ i ≤ i' ∧ (k' = 0 → k = 0 ∧ cod L B (Pp L B i) = t) := by
  have k3 := h.2.2.2.1.1
  by_cases hk : k = 0
  · subst hk
    obtain ⟨k1, k2, -⟩ := c_tok h
    have cl := (cod_lt L B (Pp L B i)).1
    have hv := hv rfl
    unfold fn_X3_take
    rw [if_pos (show c 100 4 = 0 from h.2.2.2.1.2.1), if_pos k1, k2]
    simp (disch := omega) only [lq]
    by_cases e : cod L B (Pp L B i) = t
    · have him : i < m := by
        have := (cod_end h.1.1 h.2.1)
        have h2 := h.2.1
        omega
      rw [if_pos e, hv.1 e]
      obtain ⟨d', e1, e2, e3⟩ := m_must1 h him (v := 1) (by decide)
      simp only [pn, h.2.2.1, nI_1]
      exact ⟨_, _, _, _, rfl, e1, e2, Fc_3, e3, by omega, fun _ => ⟨by trivial, e⟩⟩
    · rw [if_neg e, hv.2 e]
      obtain ⟨d', e1, e2, e3⟩ := m_must0 h
      exact ⟨_, _, _, _, rfl, e1, e2, Fc_4, e3, by omega, fun z => absurd z (by omega)⟩
  · refine ⟨i, k, c, d, ?_, m_mustF h hk _, h, Fc_rf, Fx_rf, by omega, fun z => absurd z hk⟩
    unfold fn_X3_take
    simp (disch := omega) only [h.2.2.2.1.2.1, zc, hk, if_true, if_false, ↓reduceIte, Bool.false_eq_true, reduceCtorEq]
theorem trg_st {L : Nat} {B : Nat → Nat} {m i k : Nat} {c d : pd_M} (h : Q L B m i k c d) :
    ∃ r i' k' c' d', fn_X3_takesRefuse c = some (r, c') ∧ fn_X9_mustRefuseOrGive d = some d' ∧ Q L B m i' k' c' d' ∧ Fc c c' ∧ Fx 33 38 d d' ∧ i ≤ i' ∧ (r = 0 ∨ r = 1) ∧ (k' = 0 → k = 0 ∧ ((r = 1 ∧ cod L B (Pp L B i) = 107) ∨ (r = 0 ∧ cod L B (Pp L B i) = 108))) ∧ (k' ≠ 0 → r = 0) := by
  have k3 := h.2.2.2.1.1
  by_cases hk : k = 0
  · subst hk
    obtain ⟨k1, k2, -⟩ := c_tok h
    have cl := (cod_lt L B (Pp L B i)).1
    obtain ⟨-, w2, w3, -⟩ := m_cmp h.1.2 (Pp_le L B i)
    have hw := m_word h.1.2 h.2.2.2.2 (Pp_le L B i)
    have z4 : c 100 4 = 0 := h.2.2.2.1.2.1
    have z37 : d 110 37 = 0 := h.2.2.2.1.2.2.1
    unfold fn_X3_takesRefuse fn_X9_mustRefuseOrGive
    rw [if_pos z4, if_pos k1, k2, if_pos z37, hw]
    simp (disch := omega) only [o1s, w2, w3, l107, lq]
    by_cases e : cod L B (Pp L B i) = 107
    · have him : i < m := by
        have := (cod_end h.1.1 h.2.1)
        have h2 := h.2.1
        omega
      rw [if_pos e, if_pos e]
      obtain ⟨d', e1, e2, e3⟩ := m_must1 h him (v := 1) (by decide)
      simp only [pn, h.2.2.1, nI_1, o1s, e1]
      exact ⟨1, _, _, _, _, rfl, rfl, e2, Fc_3, e3, by omega, Or.inr rfl, fun _ => ⟨by trivial, Or.inl ⟨rfl, e⟩⟩, fun z => absurd rfl z⟩
    · rw [if_neg e, if_neg e]
      by_cases e8 : cod L B (Pp L B i) = 108
      · rw [if_pos e8]
        obtain ⟨i', k', c', d', a1, a2, a3, a4, a5, a6, a7⟩ := take_st h 108 (by omega) (by omega) 1 (fun _ => ⟨fun _ => rfl, fun z => absurd e8 z⟩)
        rw [show fn_X3_take 108 c = some c' from a1]
        simp only [o1s, a2]
        exact ⟨0, i', k', c', d', rfl, rfl, a3, a4, a5, a6, Or.inl rfl, fun z => ⟨by trivial, Or.inr ⟨rfl, e8⟩⟩, fun _ => rfl⟩
      · rw [if_neg e8]
        obtain ⟨i', k', c', d', a1, a2, a3, a4, a5, a6, a7⟩ := take_st h 108 (by omega) (by omega) 0 (fun _ => ⟨fun z => absurd z e8, fun _ => rfl⟩)
        rw [show fn_X3_take 108 c = some c' from a1]
        simp only [o1s, a2]
        exact ⟨0, i', k', c', d', rfl, rfl, a3, a4, a5, a6, Or.inl rfl, fun z => absurd (a7 z).2 e8, fun _ => rfl⟩
  · refine ⟨0, i, k, c, d, ?_, ?_, h, Fc_rf, Fx_rf, by omega, Or.inl rfl, fun z => absurd z hk, fun _ => rfl⟩
    · unfold fn_X3_takesRefuse fn_X3_take
      simp (disch := omega) only [h.2.2.2.1.2.1, zc, hk, o1s, if_true, if_false, ↓reduceIte, Bool.false_eq_true, reduceCtorEq]
    · unfold fn_X9_mustRefuseOrGive
      simp (disch := omega) only [h.2.2.2.1.2.2.1, zc, hk, if_true, if_false, ↓reduceIte, Bool.false_eq_true, reduceCtorEq]
