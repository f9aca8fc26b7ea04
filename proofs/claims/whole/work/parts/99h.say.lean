/-! PURE: a SAYING of a text -/
def c127 (f : pd_M) (N lo : Nat) : pd_M := fun a k => if a = 129 ∧ 4 * N + lo ≤ k ∧ k < 4 * N + 4 then 127 else f a k
theorem l_132 {N : Nat} (hN : N < 20) : ∀ (r n j : Nat) (d : pd_M), j + r = 4 → r < n → ∃ d', lp_X9_readSaying_132 n (nI N) (nI j) d = some d' ∧ (∀ a k, ¬ (a = 129 ∧ 4 * N + j ≤ k ∧ k < 4 * N + 4) → d' a k = d a k) ∧ ∀ k, j ≤ k → k < 4 → d' 129 (4 * N + k) = nI 127 := by
  intro r
  induction r with
  | zero =>
    intro n j d h1 h2
    obtain ⟨n, rfl⟩ : ∃ k, n = k + 1 := ⟨n - 1, by omega⟩
    refine ⟨d, ?_, fun _ _ _ => rfl, fun k q1 q2 => absurd q2 (by omega)⟩
    unfold lp_X9_readSaying_132
    simp (disch := omega) only [l4, ly, show 4 ≤ j by omega, if_true, if_false, ↓reduceIte, Bool.false_eq_true, reduceCtorEq]
  | succ r ih =>
    intro n j d h1 h2
    obtain ⟨n, rfl⟩ : ∃ k, n = k + 1 := ⟨n - 1, by omega⟩
    obtain ⟨d', e1, e2, e3⟩ := ih n (j + 1) (pi_up d 129 (4 * N + j) 127) (by omega) (by omega)
    refine ⟨d', ?_, fun a k q => ?_, fun k q1 q2 => ?_⟩
    · unfold lp_X9_readSaying_132
      simp (disch := omega) only [l4, ly, show ¬ 4 ≤ j by omega, pk_mul, nI_add, zp, nI_clamp, pn, nI_1, if_true, if_false, ↓reduceIte, Bool.false_eq_true, reduceCtorEq]
      exact e1
    · rw [e2 a k (by omega), pu_n (by omega)]
    · by_cases q : k = j
      · subst q
        rw [e2 129 _ (by omega), pu_s]
        rfl
      · exact e3 k (by omega) q2
def FxT (N : Nat) (d d' : pd_M) : Prop := ∀ a j, ¬ (a = 110 ∧ 33 ≤ j ∧ j ≤ 38) → ¬ (a = 127 ∧ j = N) → ¬ (a = 128 ∧ j = N) → ¬ (a = 129 ∧ 4 * N ≤ j ∧ j < 4 * N + 4) → d' a j = d a j
theorem vb1 : vp_nar .boolean 1 = 1 := rfl
theorem vb0 : vp_nar .boolean 0 = 0 := rfl
theorem then_st {L : Nat} {B : Nat → Nat} {m i k N : Nat} {c d : pd_M} (h : Q L B m i k c d) (hN : N < 20) :
    ∃ i' k' c' d', fn_X3_readThen (48 + N) c = some c' ∧ (∀ K : pd_M → Option pd_M, (ob1 (fn_X9_word d) fun r34 => ob1 (if (lg_cmp r34 125779836236645) = 0 then some (1) else some (0)) fun (v37 : Int32) => ob1 (fn_X9_mustRefuseOrGive (pi_up d 127 N (vp_nar .boolean v37))) fun f40 => ob1 (lp_X9_readSaying_132 5000 (nI N) 0 (pi_up f40 128 N 0)) fun f48 => ob1 (lp_X9_readSaying_155 5000 (nI N) f48) K) = K d') ∧ Q L B m i' k' c' d' ∧ FcS N c c' ∧ FxT N d d' ∧ i ≤ i' ∧
      (k' = 0 → k = 0 ∧ ∃ (ref T : Nat) (V : Nat → Nat), ref < 2 ∧ d' 127 N = nI ref ∧ c' (48 + N) 6 = nI T ∧ d' 128 N = nI T ∧ T < 16 ∧ (∀ j, j < 4 → d' 129 (4 * N + j) = nI (V j) ∧ 0 < V j ∧ V j < 128) ∧ c' (48 + N) 8 = nI (if ref = 1 then 268435456 else pk4 (V 0) (V 1) (V 2) (V 3))) := by
  have hsk := arr_sh_45 hN
  have hw := m_word h.1.2 h.2.2.2.2 (Pp_le L B i)
  obtain ⟨-, -, w3, -⟩ := m_cmp h.1.2 (Pp_le L B i)
  have hv : ∃ v : Int32, (if (lg_cmp (lN (wvs L B (Pp L B i))) 125779836236645) = 0 then some (1 : Int32) else some (0)) = some v ∧ ((cod L B (Pp L B i) = 107 ∧ v = 1) ∨ (cod L B (Pp L B i) ≠ 107 ∧ v = 0)) := by
    simp only [w3]
    by_cases q : cod L B (Pp L B i) = 107
    · exact ⟨1, by rw [if_pos q], Or.inl ⟨q, rfl⟩⟩
    · exact ⟨0, by rw [if_neg q], Or.inr ⟨q, rfl⟩⟩
  obtain ⟨v, hv1, hv2⟩ := hv
  have h1 : Q L B m i k (pi_up (pi_up c (48 + N) 6 0) (48 + N) 8 268435456) (pi_up d 127 N (vp_nar .boolean v)) := Q_upd (Q_upc (Q_upc h (by omega)) (by omega)) (by omega)
  obtain ⟨r, i1, k1, c1, d1, a1, a2, h2, f2, g2, j2, hr, hok, hbad⟩ := trg_st h1
  obtain ⟨d2, b1, b2, b3⟩ := l_132 hN 4 5000 0 (pi_up d1 128 N 0) (by omega) (by omega)
  have b1 : lp_X9_readSaying_132 5000 (nI N) 0 (pi_up d1 128 N 0) = some d2 := b1
  have h3 : Q L B m i1 k1 c1 d2 := Q_dd h2 (fun a j q => by rw [b2 a j (by omega), pu_n (by omega)])
  have F2 : ∀ a j, ¬ (a = 110 ∧ 33 ≤ j ∧ j ≤ 38) → ¬ (a = 127 ∧ j = N) → ¬ (a = 128 ∧ j = N) → ¬ (a = 129 ∧ 4 * N ≤ j ∧ j < 4 * N + 4) → d2 a j = d a j := fun a j q1 q2 q3 q4 => by
    rw [b2 a j (by omega), pu_n (by omega), g2 a j q1, pu_n (by omega)]
  have F1 : ∀ a j, ¬ (a = 100 ∧ (j = 3 ∨ j = 4)) → ¬ (a = 48 + N ∧ (j = 6 ∨ j = 8)) → c1 a j = c a j := fun a j q1 q2 => by
    rw [f2 a j q1, pu_n (by omega), pu_n (by omega)]
  have e127 : d2 127 N = vp_nar .boolean v := by rw [b2 127 N (by omega), pu_n (by omega), g2 127 N (by omega), pu_s]
  have e128 : d2 128 N = 0 := by rw [b2 128 N (by omega), pu_s]
  have e6 : c1 (48 + N) 6 = nI 0 := by rw [f2 _ 6 (by omega), pu_n (by omega), pu_s]; rfl
  have k13 := h2.2.2.2.1.1
  have dE : ∀ K : pd_M → Option pd_M, (ob1 (fn_X9_word d) fun r34 => ob1 (if (lg_cmp r34 125779836236645) = 0 then some (1) else some (0)) fun (v37 : Int32) => ob1 (fn_X9_mustRefuseOrGive (pi_up d 127 N (vp_nar .boolean v37))) fun f40 => ob1 (lp_X9_readSaying_132 5000 (nI N) 0 (pi_up f40 128 N 0)) fun f48 => ob1 (lp_X9_readSaying_155 5000 (nI N) f48) K) = ob1 (lp_X9_readSaying_155 5000 (nI N) d2) K := by
    intro K
    rw [hw, o1s, hv1, o1s, a2, o1s, b1, o1s]
  have cE : fn_X3_readThen (48 + N) c = if r = 0 then (ob1 (lp_X3_readThen_27 5000 (48 + N) 0 (pi_up c1 (48 + N) 8 268435455)) fun f16 => some f16) else some c1 := by
    unfold fn_X3_readThen
    rw [if_pos hsk]
    simp only [pn, a1, o2s]
  rw [cE]
  by_cases hk : k1 = 0
  · subst hk
    obtain ⟨zk, hr2⟩ := hok rfl
    rcases hr2 with ⟨rfl, e7⟩ | ⟨rfl, e8⟩
    · rcases hv2 with ⟨-, rfl⟩ | ⟨q, -⟩
      · refine ⟨i1, 0, c1, d2, rfl, fun K => ?_, h3, F1, F2, j2, fun _ => ⟨zk, 1, 0, fun _ => 127, by omega, by rw [e127]; rfl, e6, e128, by omega, fun j hj => ⟨b3 j (by omega) hj, (show 0 < 127 by decide), (show 127 < 128 by decide)⟩, ?_⟩⟩
        · rw [dE K]
          unfold lp_X9_readSaying_155
          rw [if_pos (show d2 110 37 = 0 from h3.2.2.2.1.2.2.1)]
          simp (disch := omega) only [zp, nI_clamp, e127, vb1, show ¬ (1 : Int32) = 0 by decide, o1s, if_true, if_false, ↓reduceIte, Bool.false_eq_true, reduceCtorEq]
        · rw [f2 _ 8 (by omega), pu_s]
          rfl
      · exact absurd e7 q
    · rcases hv2 with ⟨q, -⟩ | ⟨-, rfl⟩
      · omega
      · have h4 : Q L B m i1 0 (pi_up c1 (48 + N) 8 268435455) d2 := Q_upc h3 (by omega)
        have hF : FS N 0 (fun _ => 127) (pi_up c1 (48 + N) 8 268435455) d2 := by
          refine ⟨?_, by omega, pu_s, by rw [e127]; rfl, e128, fun j hj => ⟨b3 j (by omega) hj, (show 0 < 127 by decide), (show 127 < 128 by decide), fun _ => rfl⟩⟩
          rw [pu_n (by omega)]; exact e6
        obtain ⟨T', V', i2, k2, c2, d3, y1, y2, y3, y4, y5, y6, y7⟩ := fields_st hN 5 0 5000 5000 i1 0 (fun _ => 127) _ _ (by omega) (by omega) (by omega) h4 hF (by decide)
        have y1 : lp_X3_readThen_27 5000 (48 + N) 0 (pi_up c1 (48 + N) 8 268435455) = some c2 := y1
        refine ⟨i2, k2, c2, d3, ?_, fun K => ?_, y3, fun a j s1 s2 => ?_, fun a j s1 s2 s3 s4 => ?_, by omega, fun z => ⟨zk, ?_⟩⟩
        · rw [if_pos rfl, y1]; rfl
        · rw [dE K, y2, o1s]
        · rw [y4 a j s1 s2, pu_n (by omega), F1 a j s1 s2]
        · rw [y5 a j s1 s3 s4, F2 a j s1 s2 s3 s4]
        · obtain ⟨G1, G2, G3, G4, G5, G6⟩ := y7 z
          refine ⟨0, T', V', by omega, G4, G1, G5, G2, fun j hj => ⟨(G6 j hj).1, (G6 j hj).2.1, (G6 j hj).2.2.1⟩, ?_⟩
          rw [G3, if_neg (by omega)]
  · obtain rfl := hbad hk
    refine ⟨i1, k1, pi_up c1 (48 + N) 8 268435455, d2, ?_, fun K => ?_, Q_upc h3 (by omega), fun a j s1 s2 => ?_, F2, j2, fun z => absurd z hk⟩
    · rw [if_pos rfl]
      unfold lp_X3_readThen_27
      rw [if_pos hsk, if_neg (by decide), if_neg (show ¬ (pi_up c1 (48 + N) 8 268435455) 100 4 = 0 by rw [pu_n (by omega), h3.2.2.2.1.2.1]; exact nk hk k13)]
      rfl
    · rw [dE K]
      unfold lp_X9_readSaying_155
      rw [if_neg (show ¬ d2 110 37 = 0 by rw [h3.2.2.2.1.2.2.1]; exact nk hk k13), o1s]
    · rw [pu_n (by omega), F1 a j s1 s2]
