/-! PURE: laws, on both sides -/
def Ta (f : pd_M) : Prop := ∃ L, L ≤ 500 ∧ f 35 3 = nI L ∧ f 110 30 = nI L ∧ ∀ k, k < L → ∃ b, b < 256 ∧ f 36 k = sg b ∧ f 136 k = nI b
def TdJ (c d : pd_M) : Prop :=
  (d 110 12 = nI (vw d 0 0) ∧ c 40 4 = nI (vw d 0 0) ∧ vw d 0 0 ≤ 20) ∧
  (∀ s, s < 4 → d 114 s = nI (vw d 114 s) ∧ c 41 s = nI (vw d 114 s) ∧ vw d 114 s ≤ 4) ∧
  (∀ i, i < vw d 0 0 → SyJ c d i) ∧
  (∀ s, s < 4 → ∀ e, e < vw d 114 s → EdJ c d (4 * s + e)) ∧
  (∀ s, s < 4 → ∀ e, e < vw d 114 s → c (68 + 2 * (4 * s + e)) 1 = nI (orF (sKs (vw d) s e) (vw d 0 0))) ∧
  (∀ g, g < 4 → c 47 g = nI (sQ (vw d) g)) ∧
  (∀ k, k < 16 → c 42 k = d 130 k) ∧
  (∀ s, s < 4 → c 43 s = d 132 s ∧ (d 132 s = -1000000 ∨ ∃ h, h < 100 ∧ d 132 s = nI h) ∧ c 44 s = d 133 s ∧ d 133 s = nI (vw d 133 s) ∧ vw d 133 s < 16)
theorem SyJ_of {f : pd_M} {i : Nat} (h : Sy f i) : SyJ f f i := by
  obtain ⟨⟨a1, a2, a3⟩, ⟨b1, b2, b3⟩, ⟨c1, c2, c3⟩, ⟨d1, d2⟩, ⟨e1, e2, e3, e4⟩, ⟨g1, g2, g3⟩, ⟨k1, k2, k3⟩, ⟨r1, r2⟩, w, x7, x8⟩ := h
  exact ⟨⟨a3, b3, c3, e3, e4, g3, r2, k3, fun j hj => (w j hj).2⟩, ⟨a2, b2, c2, d2, e2, g2, k2, x7, x8⟩, ⟨a1, b1, c1, d1, e1, g1, r1, k1, fun j hj => (w j hj).1⟩⟩
theorem Sy_of {f : pd_M} {i : Nat} (h : SyJ f f i) : Sy f i := by
  obtain ⟨⟨a3, b3, c3, e3, e4, g3, r2, k3, w2⟩, ⟨a2, b2, c2, d2, e2, g2, k2, x7, x8⟩, ⟨a1, b1, c1, d1, e1, g1, r1, k1, w1⟩⟩ := h
  exact ⟨⟨a1, a2, a3⟩, ⟨b1, b2, b3⟩, ⟨c1, c2, c3⟩, ⟨d1, d2⟩, ⟨e1, e2, e3, e4⟩, ⟨g1, g2, g3⟩, ⟨k1, k2, k3⟩, ⟨r1, r2⟩, fun j hj => ⟨w1 j hj, w2 j hj⟩, x7, x8⟩
theorem TdJ_of {f : pd_M} (h : Td f) : TdJ f f := by
  obtain ⟨h1, h2, h3, h4, h5, h6, h7, h8⟩ := h
  exact ⟨h1, h2, fun i hi => SyJ_of (h3 i hi), h4, h5, h6, h7, h8⟩
theorem Td_of {f : pd_M} (h : TdJ f f) : Td f := by
  obtain ⟨h1, h2, h3, h4, h5, h6, h7, h8⟩ := h
  exact ⟨h1, h2, fun i hi => Sy_of (h3 i hi), h4, h5, h6, h7, h8⟩
theorem orF_31' (p : Nat → Bool) {n : Nat} (h : n ≤ 20) : orF p n < 2 ^ 31 := orF_31 p h
theorem SyN_of {c d : pd_M} {N : Nat} (hN : N ≤ 20) (h4 : c 40 4 = nI N) (h : ∀ i, i < N → SyJ c d i) : SyN c (vw d) N := ⟨hN, h4, fun i hi => ⟨(h i hi).1, (h i hi).2.1⟩⟩
theorem vw_0 {c d : pd_M} (h : c 110 12 = d 110 12) : vw c 0 0 = vw d 0 0 := by
  unfold vw
  rw [if_pos rfl, if_pos rfl, h]
/-- what is told stays, where its own rows do -/
theorem TdJ_fr {c d c' d' : pd_M} (h : TdJ c d) (h1 : ∀ a j, 40 ≤ a → a < 48 → c' a j = c a j) (h2 : ∀ i, i < vw d 0 0 → ∀ j, c' (48 + i) j = c (48 + i) j) (h3 : ∀ s, s < 4 → ∀ e, e < vw d 114 s → ∀ j, c' (68 + 2 * (4 * s + e)) j = c (68 + 2 * (4 * s + e)) j ∧ c' (69 + 2 * (4 * s + e)) j = c (69 + 2 * (4 * s + e)) j)
    (g1 : d' 110 12 = d 110 12) (g2 : ∀ a j, (a = 114 ∨ a = 130 ∨ a = 132 ∨ a = 133) → d' a j = d a j) (g3 : ∀ a i, 121 ≤ a → a ≤ 128 → i < vw d 0 0 → d' a i = d a i) (g4 : ∀ j, j < 4 * vw d 0 0 → d' 129 j = d 129 j)
    (g5 : ∀ s, s < 4 → ∀ e, e < vw d 114 s → d' 116 (4 * s + e) = d 116 (4 * s + e) ∧ ∀ a k, 117 ≤ a → a ≤ 120 → 6 * (4 * s + e) ≤ k → k < 6 * (4 * s + e) + 6 → d' a k = d a k) : TdJ c' d' := by
  obtain ⟨⟨n1, n2, n3⟩, hE, hSy, hEd, hKp, hQu, hTr, hHo⟩ := h
  have v0 := vw_0 g1
  have v4 : ∀ s, vw d' 114 s = vw d 114 s := fun s => vw_eq (g2 114 s (by omega)) (by omega)
  have v3 : ∀ s, vw d' 133 s = vw d 133 s := fun s => vw_eq (g2 133 s (by omega)) (by omega)
  have J1 : ∀ i, i < vw d 0 0 → SyJ c' d i := fun i hi => SyJ_fr (hSy i hi) (h2 i hi) (fun _ _ _ => rfl) (fun _ _ => rfl)
  have J2 : ∀ i, i < vw d 0 0 → SyJ c' d' i := fun i hi => SyJ_fr (hSy i hi) (h2 i hi) (fun a q1 q2 => g3 a i q1 q2 hi) (fun j hj => g4 _ (by omega))
  have K1 : ∀ s, s < 4 → ∀ e, e < vw d 114 s → EdJ c' d (4 * s + e) := fun s hs e he => EdJ_fr (hEd s hs e he) (fun j => (h3 s hs e he j).2) rfl (fun _ _ _ _ _ _ => rfl)
  have K2 : ∀ s, s < 4 → ∀ e, e < vw d 114 s → EdJ c' d' (4 * s + e) := fun s hs e he => EdJ_fr (hEd s hs e he) (fun j => (h3 s hs e he j).2) (g5 s hs e he).1 (g5 s hs e he).2
  have c4 : c' 40 4 = nI (vw d 0 0) := by rw [h1 40 4 (by omega) (by omega)]; exact n2
  have S1 := SyN_of n3 c4 J1
  have S2 := SyN_of n3 c4 J2
  refine ⟨⟨?_, ?_, ?_⟩, fun s hs => ?_, fun i hi => ?_, fun s hs e he => ?_, fun s hs e he => ?_, fun g hg => ?_, fun k hk => ?_, fun s hs => ?_⟩
  · rw [v0, g1]; exact n1
  · rw [v0]; exact c4
  · rw [v0]; exact n3
  · rw [v4, g2 114 s (by omega), h1 41 s (by omega) (by omega)]; exact hE s hs
  · rw [v0] at hi; exact J2 i hi
  · rw [v4] at he; exact K2 s hs e he
  · rw [v4] at he
    have h4 := (hE s hs).2.2
    have k1 := g_keptBy S1 hs (show e < 4 by omega) (K1 s hs e he).2.2
    have k2 := g_keptBy S2 hs (show e < 4 by omega) (K2 s hs e he).2.2
    rw [k1] at k2
    rw [v0, (h3 s hs e he 1).1, hKp s hs e he]
    exact Option.some.inj k2
  · have k1 := g_leastQuarrel S1 hg
    have k2 := g_leastQuarrel (M := vw d') (by rw [v0]; exact S2) hg
    rw [k1] at k2
    rw [h1 47 g (by omega) (by omega), hQu g hg]
    exact Option.some.inj k2
  · rw [h1 42 k (by omega) (by omega), g2 130 k (by omega)]; exact hTr k hk
  · rw [v3, h1 43 s (by omega) (by omega), h1 44 s (by omega) (by omega), g2 132 s (by omega), g2 133 s (by omega)]; exact hHo s hs
theorem sk_101 : sk 101 = (12, 5) := by decide +kernel
theorem sk_40 : sk 40 = (12, 5) := by decide +kernel
def lawK (f33 : pd_M) : Option (Int32 × pd_M) :=
  if (f33 110 37) ≤ 0 then
  ob1 (lp_X9_laws_170 5000 0 (pi_up f33 110 12 (f33 110 13))) fun f42 =>
  ob1 (lp_X9_laws_196 5000 0 f42) fun f55 =>
  some ((f55 110 12), f55)
  else
  some (((-1000100) - ((pi_up f33 110 31 (f33 110 37)) 110 38)), (pi_up f33 110 31 (f33 110 37)))
theorem Pc_of {N : Nat} {E : Nat → Nat} {a : Nat} (h : a < 48 ∨ 106 ≤ a) : Pc N E a := ⟨by omega, by omega, by omega, fun s hs e he h4 => by omega⟩
theorem Pd_of {N : Nat} {E : Nat → Nat} {a j : Nat} (h : a < 110 ∨ (a = 110 ∧ j ≠ 13 ∧ ¬ (33 ≤ j ∧ j ≤ 38)) ∨ (111 ≤ a ∧ a ≤ 114) ∨ a = 130 ∨ a = 132 ∨ a = 133 ∨ 136 ≤ a) : Pd N E a j := ⟨by omega, by omega, by omega, by omega, by omega, by omega, by omega, fun s hs e he h4 => by omega⟩
/-- what laws may change -/
def LwC (f f1 : pd_M) : Prop := ∀ a j, (a < 17 ∨ (a = 17 ∧ j ≠ 7) ∨ (18 ≤ a ∧ a < 35) ∨ 106 ≤ a) → f1 a j = f a j
def LwD (g f2 : pd_M) : Prop := ∀ a j, (a < 110 ∨ (a = 110 ∧ j ≠ 0 ∧ j ≠ 12 ∧ j ≠ 13 ∧ ¬ (30 ≤ j ∧ j ≤ 38)) ∨ (111 ≤ a ∧ a ≤ 113) ∨ 136 ≤ a) → f2 a j = g a j
set_option maxHeartbeats 1000000 in
theorem laws_both {f g : pd_M} (hT : Td f) (hTa : Ta f) (hW : Wd f) (hg : ∀ a j, 110 ≤ a → g a j = f a j) :
    ∃ r f1 f2, fn_X8_laws f = some (r, f1) ∧ fn_X9_laws g = some (r, f2) ∧ TdJ f1 f2 ∧ (f1 35 3 = 0 ∧ f2 110 30 = 0) ∧ (f 17 7 = f 110 31 → f1 17 7 = f2 110 31) ∧ LwC f f1 ∧ LwD g f2 := by
  obtain ⟨L, hL, t1, t2, t3⟩ := hTa
  obtain ⟨B, hB⟩ : ∃ B : Nat → Nat, ∀ k, k < L → f 36 k = sg (B k) ∧ f 136 k = nI (B k) ∧ B k < 256 := ⟨fun k => (f 136 k).toNatClampNeg, fun k hk => by
    obtain ⟨b, b1, b2, b3⟩ := t3 k hk
    have e : (f 136 k).toNatClampNeg = b := by rw [b3, nI_clamp (by omega)]
    simp only [e]
    exact ⟨b2, b3, b1⟩⟩
  have hTc : Tc L B f := ⟨hL, t1, fun k hk => ⟨(hB k hk).1, (hB k hk).2.2⟩, hW⟩
  obtain ⟨m, c1, s1, s2, s3⟩ := c_split hTc
  obtain ⟨⟨n1, n2, n3⟩, hE, hSy, hEd, hKp, hQu, hTr, hHo⟩ := id hT
  -- the class ahead of its loop
  obtain ⟨c3, b1, b2, b3, b4, b5, b6, b7⟩ := become_st (a0 := 101) (p1 := 40) (pi_up c1 35 3 0) sk_101 sk_40 (Or.inl (by omega))
  have b2 : ∀ k, k < 4 → c3 102 k = f 41 k := fun k hk => by
    have e : c3 102 k = (pi_up c1 35 3 0) 41 k := b2 k hk
    rw [e, pu_n (by omega), s3 41 k (by omega) (by omega)]
  have b3 : ∀ k, k < 16 → c3 103 k = f 42 k := fun k hk => by
    have e : c3 103 k = (pi_up c1 35 3 0) 42 k := b3 k hk
    rw [e, pu_n (by omega), s3 42 k (by omega) (by omega)]
  have b4 : ∀ k, k < 4 → c3 104 k = f 43 k := fun k hk => by
    have e : c3 104 k = (pi_up c1 35 3 0) 43 k := b4 k hk
    rw [e, pu_n (by omega), s3 43 k (by omega) (by omega)]
  have b5 : ∀ k, k < 4 → c3 105 k = f 44 k := fun k hk => by
    have e : c3 105 k = (pi_up c1 35 3 0) 44 k := b5 k hk
    rw [e, pu_n (by omega), s3 44 k (by omega) (by omega)]
  have b6 : c3 101 4 = f 40 4 := by rw [b6, pu_n (by omega), s3 40 4 (by omega) (by omega)]
  have c3f : ∀ a j, a ≠ 35 → a ≠ 37 → a ≠ 38 → ¬ (101 ≤ a ∧ a ≤ 105) → c3 a j = f a j := fun a j q1 q2 q3 q4 => by
    rw [b7 a j (by omega) (by omega), pu_n (by omega), s3 a j q2 q3]
  obtain ⟨c4, hc4⟩ : ∃ c4, c4 = pi_up (pi_up c3 100 3 0) 100 4 0 := ⟨_, rfl⟩
  have c4f : ∀ a j, a ≠ 100 → c4 a j = c3 a j := fun a j q => by rw [hc4, pu_n (by omega), pu_n (by omega)]
  have c4_3 : c4 100 3 = nI 0 := by rw [hc4, pu_n (by omega), pu_s]; rfl
  have c4_4 : c4 100 4 = nI 0 := by rw [hc4, pu_s]; rfl
  -- the reference ahead of its loop
  obtain ⟨d0, hd0⟩ : ∃ d0, d0 = pi_up (pi_up (pi_up (pi_up (pi_up (pi_up g 110 0 0) 110 32 (nI L)) 110 30 0) 110 33 0) 110 37 0) 110 13 (nI (vw f 0 0)) := ⟨_, rfl⟩
  have d0f : ∀ a j, ¬ (a = 110 ∧ (j = 0 ∨ j = 32 ∨ j = 30 ∨ j = 33 ∨ j = 37 ∨ j = 13)) → d0 a j = g a j := fun a j q => by
    rw [hd0, pu_n (by omega), pu_n (by omega), pu_n (by omega), pu_n (by omega), pu_n (by omega), pu_n (by omega)]
  obtain ⟨d1, x1, x2, x3⟩ := l_38 16 5000 0 d0 (by omega) (by omega)
  have x1 : lp_X9_laws_38 5000 0 d0 = some d1 := x1
  obtain ⟨d2, y1, y2, y3⟩ := l_64 4 5000 0 d1 (by omega) (by omega)
  have y1 : lp_X9_laws_64 5000 0 d1 = some d2 := y1
  have d2o : ∀ j, d2 110 j = d0 110 j := fun j => by rw [y2 110 j (by omega), x2 110 j (by omega)]
  have d2f : ∀ a j, a ≠ 110 → a ≠ 131 → a ≠ 115 → a ≠ 134 → a ≠ 135 → d2 a j = g a j := fun a j q1 q2 q3 q4 q5 => by
    rw [y2 a j (by omega), x2 a j (by omega), d0f a j (by omega)]
  have o32 : d2 110 32 = nI L := by rw [d2o, hd0, pu_n (by omega), pu_n (by omega), pu_n (by omega), pu_n (by omega), pu_s]
  have o33 : d2 110 33 = nI 0 := by rw [d2o, hd0, pu_n (by omega), pu_n (by omega), pu_s]; rfl
  have o37 : d2 110 37 = nI 0 := by rw [d2o, hd0, pu_n (by omega), pu_s]; rfl
  have o13 : d2 110 13 = nI (vw f 0 0) := by rw [d2o, hd0, pu_s]
  have o30 : d2 110 30 = 0 := by rw [d2o, hd0, pu_n (by omega), pu_n (by omega), pu_n (by omega), pu_s]
  have hTp : Tp L B d2 := ⟨hL, o32, fun k hk => ⟨by rw [d2f 136 k (by omega) (by omega) (by omega) (by omega) (by omega), hg 136 k (by omega)]; exact (hB k hk).2.1, (hB k hk).2.2⟩⟩
  obtain ⟨d3, z1, z2, z3⟩ := m_next (e := 0) hTp (by omega) o33
  have hQ0 : Q L B m 0 0 c4 d3 := by
    refine ⟨⟨Tk_c s2 (fun j => ?_) (fun j => ?_), Tp_fx hTp (Fx_wide z3 (by omega) (by omega))⟩, Nat.zero_le _, c4_3, ⟨by omega, c4_4, ?_, fun z => absurd rfl z⟩, z2⟩
    · rw [c4f 37 j (by omega), b7 37 j (by omega) (by omega), pu_n (by omega)]
    · rw [c4f 38 j (by omega), b7 38 j (by omega) (by omega), pu_n (by omega)]
    · rw [z3 110 37 (by omega)]; exact o37
  have d3f : ∀ a j, a ≠ 110 → a ≠ 131 → a ≠ 115 → a ≠ 134 → a ≠ 135 → d3 a j = g a j := fun a j q1 q2 q3 q4 q5 => by
    rw [z3 a j (by omega), d2f a j q1 q2 q3 q4 q5]
  have hD0 : Dr (vw f 0 0) (vw f 114) c4 d3 := by
    refine ⟨⟨n3, ?_, ?_⟩, fun s hs => ?_, fun k hk => ?_, fun s hs => ?_, fun i hi => ?_, fun s hs e he => ?_⟩
    · rw [c4f 101 4 (by omega), b6]; exact n2
    · rw [z3 110 13 (by omega)]; exact o13
    · rw [c4f 102 s (by omega), b2 s hs, z3 115 s (by omega), (y3 s (by omega) hs).1, x2 114 s (by omega), d0f 114 s (by omega), hg 114 s (by omega)]
      exact ⟨(hE s hs).2.2, (hE s hs).2.1, (hE s hs).1⟩
    · rw [c4f 103 k (by omega), b3 k hk, z3 131 k (by omega), y2 131 k (by omega), x3 k (by omega) hk, d0f 130 k (by omega), hg 130 k (by omega)]
      exact hTr k hk
    · obtain ⟨u1, u2, u3, u4, u5⟩ := hHo s hs
      have e1 : d3 134 s = f 132 s := by rw [z3 134 s (by omega), (y3 s (by omega) hs).2.1, x2 132 s (by omega), d0f 132 s (by omega), hg 132 s (by omega)]
      have e2 : d3 135 s = f 133 s := by rw [z3 135 s (by omega), (y3 s (by omega) hs).2.2, x2 133 s (by omega), d0f 133 s (by omega), hg 133 s (by omega)]
      rw [c4f 104 s (by omega), b4 s hs, c4f 105 s (by omega), b5 s hs, e1, e2]
      exact ⟨u1, u2, u3, vw f 133 s, u5, u4⟩
    · refine SyJ_fr (SyJ_of (hSy i hi)) (fun j => ?_) (fun a q1 q2 => ?_) (fun j hj => ?_)
      · rw [c4f _ j (by omega), c3f _ j (by omega) (by omega) (by omega) (by omega)]
      · rw [d3f a i (by omega) (by omega) (by omega) (by omega) (by omega), hg a i (by omega)]
      · rw [d3f 129 _ (by omega) (by omega) (by omega) (by omega) (by omega), hg 129 _ (by omega)]
    · have h4 := (hE s hs).2.2
      have hEJ : EdJ f f (4 * s + e) := hEd s hs e he
      refine EdJ_fr hEJ (fun j => ?_) ?_ (fun a k q1 q2 q3 q4 => ?_)
      · rw [c4f _ j (by omega), c3f _ j (by omega) (by omega) (by omega) (by omega)]
      · rw [d3f 116 _ (by omega) (by omega) (by omega) (by omega) (by omega), hg 116 _ (by omega)]
      · rw [d3f a k (by omega) (by omega) (by omega) (by omega) (by omega), hg a k (by omega)]
  -- both loops
  have hm5 : m ≤ 500 := by have := s2.1; have := s2.2.1; omega
  obtain ⟨i', k', c5, d5, p1, p2, hQ5, hFC, hFD, hok⟩ := TX_all (L := L) (B := B) (m := m) m 0 5000 5000 0 (vw f 0 0) (vw f 114) c4 d3 (by omega) (by omega) (by omega) (by omega) hQ0 hD0
  have p1 : lp_X3_readText_26 5000 0 c4 = some c5 := p1
  have cR : fn_X3_readText (pi_up c1 35 3 0) = some c5 := by
    unfold fn_X3_readText
    rw [b1]
    simp only [o1s, pn]
    rw [← hc4, p1, o1s]
  have cL : fn_X8_laws f = if (c5 100 4) = 0 then ob1 (fn_X7_settle 101 c5) (fun f7 => some ((f7 40 4), f7)) else ob1 (fn_X3_place (pi_up c5 17 7 (c5 100 4))) fun r10 => some (((-1000100) - r10), pi_up c5 17 7 (c5 100 4)) := by
    unfold fn_X8_laws
    rw [s1, o1s]
    simp only [pn]
    rw [cR, o1s]
  have dL : fn_X9_laws g = lawK d5 := by
    unfold fn_X9_laws
    simp only [pn]
    rw [show (pi_up g 110 0 0) 110 30 = nI L by rw [pu_n (by omega), hg 110 30 (by omega)]; exact t2]
    rw [show (pi_up (pi_up (pi_up (pi_up (pi_up g 110 0 0) 110 32 (nI L)) 110 30 0) 110 33 0) 110 37 0) 110 12 = nI (vw f 0 0) by rw [pu_n (by omega), pu_n (by omega), pu_n (by omega), pu_n (by omega), pu_n (by omega), hg 110 12 (by omega)]; exact n1]
    rw [← hd0, x1, o1s, y1, o1s, z1, o1s, p2, o1s]
    rfl
  have F1 : ∀ a j, Pc (vw f 0 0) (vw f 114) a → a ≠ 35 → a ≠ 37 → a ≠ 38 → c5 a j = f a j := fun a j q q1 q2 q3 => by
    rw [hFC a j q, c4f a j q.1, c3f a j q1 q2 q3 (by have := q.2.1; omega)]
  have F2 : ∀ a j, Pd (vw f 0 0) (vw f 114) a j → a ≠ 110 → d5 a j = g a j := fun a j q q1 => by
    rw [hFD a j q, d3f a j q1 q.2.2.1 q.2.1 q.2.2.2.1 q.2.2.2.2.1]
  have F3 : ∀ j, j ≠ 0 → j ≠ 13 → j ≠ 30 → j ≠ 32 → ¬ (33 ≤ j ∧ j ≤ 38) → d5 110 j = g 110 j := fun j q1 q2 q3 q4 q5 => by
    rw [hFD 110 j (Pd_of (by omega)), z3 110 j (by omega), d2o, d0f 110 j (by omega)]
  have e35 : c5 35 3 = 0 := by
    rw [hFC 35 3 (Pc_of (by omega)), c4f 35 3 (by omega), b7 35 3 (by omega) (by omega), pu_s]
  have e30 : d5 110 30 = 0 := by
    rw [hFD 110 30 (Pd_of (by omega)), z3 110 30 (by omega)]; exact o30
  have k3 := hQ5.2.2.2.1.1
  by_cases hk : k' = 0
  · subst hk
    obtain ⟨N', E', w1, w2, D1, D2, D3, D4, D5, D6⟩ := hok rfl
    obtain ⟨c6, r1, r2, r3, r4, r5, r6, r7⟩ := become_st (a0 := 40) (p1 := 101) c5 sk_40 sk_101 (Or.inr (by omega))
    have r2 : ∀ k, k < 4 → c6 41 k = c5 102 k := r2
    have r3 : ∀ k, k < 16 → c6 42 k = c5 103 k := r3
    have r4 : ∀ k, k < 4 → c6 43 k = c5 104 k := r4
    have r5 : ∀ k, k < 4 → c6 44 k = c5 105 k := r5
    obtain ⟨d6, u1, u2, u3⟩ := l_170 16 5000 0 (pi_up d5 110 12 (nI N')) (by omega) (by omega)
    have u1 : lp_X9_laws_170 5000 0 (pi_up d5 110 12 (nI N')) = some d6 := u1
    obtain ⟨d8, v1, v2, v3⟩ := l_196 4 5000 0 d6 (by omega) (by omega)
    have v1 : lp_X9_laws_196 5000 0 d6 = some d8 := v1
    have d8f : ∀ a j, ¬ (a = 110 ∧ j = 12) → a ≠ 130 → a ≠ 114 → a ≠ 132 → a ≠ 133 → d8 a j = d5 a j := fun a j q1 q2 q3 q4 q5 => by
      rw [v2 a j (by omega), u2 a j (by omega), pu_n (by omega)]
    have e12 : d8 110 12 = nI N' := by rw [v2 110 12 (by omega), u2 110 12 (by omega), pu_s]
    have e114 : ∀ s, s < 4 → d8 114 s = nI (E' s) := fun s hs => by
      rw [(v3 s (by omega) hs).1, u2 115 s (by omega), pu_n (by omega)]; exact (D2 s hs).2.2
    have V0 : vw d8 0 0 = N' := by
      unfold vw
      rw [if_pos rfl, e12, nI_clamp (by have := D1.1; omega)]
    have V4 : ∀ s, s < 4 → vw d8 114 s = E' s := fun s hs => vw_of (e114 s hs) (by have := (D2 s hs).1; omega) (by omega)
    have J6 : ∀ i, i < N' → SyJ c6 d8 i := fun i hi => by
      have := D1.1
      exact SyJ_fr (D5 i hi) (fun j => r7 _ j (by omega) (by omega)) (fun a q1 q2 => d8f a i (by omega) (by omega) (by omega) (by omega) (by omega)) (fun j hj => d8f 129 _ (by omega) (by omega) (by omega) (by omega) (by omega))
    have K6 : ∀ s, s < 4 → ∀ e, e < E' s → EdJ c6 d8 (4 * s + e) := fun s hs e he => by
      have := (D2 s hs).1
      exact EdJ_fr (D6 s hs e he) (fun j => r7 _ j (by omega) (by omega)) (d8f 116 _ (by omega) (by omega) (by omega) (by omega) (by omega)) (fun a k q1 q2 q3 q4 => d8f a k (by omega) (by omega) (by omega) (by omega) (by omega))
    have e40 : c6 40 4 = nI N' := by rw [r6]; exact D1.2.1
    have e41 : ∀ s, s < 4 → c6 41 s = nI (E' s) := fun s hs => by rw [r2 s hs]; exact (D2 s hs).2.1
    have S6 : SyN c6 (vw d8) (vw d8 0 0) := by rw [V0]; exact SyN_of D1.1 e40 J6
    obtain ⟨c7, q1, q2, q3⟩ := ls_10 (M := vw d8) (E := E') (fun s hs => (D2 s hs).1) 4 5000 0 c6 (by omega) (by omega) S6 e41 (fun s hs x hx => (K6 s hs x hx).2.2)
    have q1 : lp_X7_settle_10 5000 0 c6 = some c7 := q1
    have c7f : ∀ a j, ¬ (68 ≤ a ∧ a < 100) → a ≠ 47 → c7 a j = c6 a j := fun a j h1 h2 => q2 a j (by omega) (by omega)
    have e740 : c7 40 4 = nI N' := by rw [c7f 40 4 (by omega) (by omega)]; exact e40
    have cS : fn_X7_settle 101 c5 = some c7 := by
      unfold fn_X7_settle
      rw [if_pos sk_101, r1, o1s, q1, o1s]
    refine ⟨nI N', c7, d8, ?_, ?_, ⟨⟨?_, ?_, ?_⟩, fun s hs => ?_, fun i hi => ?_, fun s hs e he => ?_, fun s hs e he => ?_, fun g hg => ?_, fun k hk => ?_, fun s hs => ?_⟩, ⟨?_, ?_⟩, fun z => ?_, fun a j q => ?_, fun a j q => ?_⟩
    · rw [cL, if_pos (show c5 100 4 = 0 from hQ5.2.2.2.1.2.1), cS, o1s, e740]
    · rw [dL]
      unfold lawK
      rw [if_pos (show d5 110 37 ≤ 0 by rw [hQ5.2.2.2.1.2.2.1]; decide), D1.2.2, u1, o1s, v1, o1s, e12]
    · rw [V0]; exact e12
    · rw [V0]; exact e740
    · rw [V0]; exact D1.1
    · rw [V4 s hs, c7f 41 s (by omega) (by omega)]; exact ⟨e114 s hs, e41 s hs, (D2 s hs).1⟩
    · rw [V0] at hi
      have := D1.1
      exact SyJ_fr (J6 i hi) (fun j => c7f _ j (by omega) (by omega)) (fun _ _ _ => rfl) (fun _ _ => rfl)
    · rw [V4 s hs] at he
      have := (D2 s hs).1
      exact EdJ_fr (K6 s hs e he) (fun j => q2 _ j (by omega) (by omega)) rfl (fun _ _ _ _ _ _ => rfl)
    · rw [V4 s hs] at he
      exact (q3 s (by omega) hs).2 e he
    · exact (q3 g (by omega) hg).1
    · rw [c7f 42 k (by omega) (by omega), r3 k hk, v2 130 k (by omega), u3 k (by omega) hk, pu_n (by omega)]
      exact D3 k hk
    · obtain ⟨a1, a2, a3, v, a4, a5⟩ := D4 s hs
      have x2 : d8 132 s = d5 134 s := by rw [(v3 s (by omega) hs).2.1, u2 134 s (by omega), pu_n (by omega)]
      have x3 : d8 133 s = d5 135 s := by rw [(v3 s (by omega) hs).2.2, u2 135 s (by omega), pu_n (by omega)]
      have V3 : vw d8 133 s = v := vw_of (by rw [x3, a5]) (by omega) (by omega)
      rw [c7f 43 s (by omega) (by omega), r4 s hs, c7f 44 s (by omega) (by omega), r5 s hs, x2, x3, V3]
      exact ⟨a1, a2, a3, a5, a4⟩
    · rw [c7f 35 3 (by omega) (by omega), r7 35 3 (by omega) (by omega)]; exact e35
    · rw [d8f 110 30 (by omega) (by omega) (by omega) (by omega) (by omega)]; exact e30
    · rw [c7f 17 7 (by omega) (by omega), r7 17 7 (by omega) (by omega), F1 17 7 (Pc_of (by omega)) (by omega) (by omega) (by omega), d8f 110 31 (by omega) (by omega) (by omega) (by omega) (by omega), F3 31 (by omega) (by omega) (by omega) (by omega) (by omega), hg 110 31 (by omega)]
      exact z
    · rw [c7f a j (by omega) (by omega), r7 a j (by omega) (by omega), F1 a j (Pc_of (by omega)) (by omega) (by omega) (by omega)]
    · rw [d8f a j (by omega) (by omega) (by omega) (by omega) (by omega)]
      by_cases h0 : a = 110
      · subst h0
        exact F3 j (by omega) (by omega) (by omega) (by omega) (by omega)
      · exact F2 a j (Pd_of (by omega)) h0
  · have e4 : c5 100 4 = nI k' := hQ5.2.2.2.1.2.1
    have e37 : d5 110 37 = nI k' := hQ5.2.2.2.1.2.2.1
    have e38 : d5 110 38 = nI (Pp L B i') := hQ5.2.2.2.1.2.2.2 hk
    obtain ⟨p3, -, p4⟩ := c_tok hQ5
    refine ⟨-1000100 - nI (Pp L B i'), pi_up c5 17 7 (nI k'), pi_up d5 110 31 (nI k'), ?_, ?_, TdJ_fr (TdJ_of hT) (fun a j q1 q2 => ?_) (fun i hi j => ?_) (fun s hs e he j => ⟨?_, ?_⟩) ?_ (fun a j q => ?_) (fun a i q1 q2 q3 => ?_) (fun j hj => ?_) (fun s hs e he => ⟨?_, fun a k q1 q2 q3 q4 => ?_⟩), ⟨?_, ?_⟩, fun _ => ?_, fun a j q => ?_, fun a j q => ?_⟩
    · rw [cL, e4, if_neg (nk hk k3)]
      unfold fn_X3_place
      rw [pu_n (by omega), if_pos p3, pu_n (by omega), p4, o1s]
    · rw [dL]
      unfold lawK
      rw [e37, if_neg (show ¬ nI k' ≤ 0 by rw [zd (by omega)]; exact hk), pu_n (by omega), e38]
    · rw [pu_n (by omega), F1 a j (Pc_of (by omega)) (by omega) (by omega) (by omega)]
    · rw [pu_n (by omega), F1 _ j ⟨by omega, by omega, by omega, fun s hs e he h4 => by omega⟩ (by omega) (by omega) (by omega)]
    · have h4 := (hE s hs).2.2
      rw [pu_n (by omega), F1 _ j ⟨by omega, by omega, by omega, fun s hs e he h4 => by omega⟩ (by omega) (by omega) (by omega)]
    · have h4 := (hE s hs).2.2
      rw [pu_n (by omega), F1 _ j ⟨by omega, by omega, by omega, fun s' hs' e' he' h4' z => ?_⟩ (by omega) (by omega) (by omega)]
      have : s' = s := by omega
      subst this
      omega
    · rw [pu_n (by omega), F3 12 (by omega) (by omega) (by omega) (by omega) (by omega), hg 110 12 (by omega)]
    · rw [pu_n (by omega), F2 a j (Pd_of (by omega)) (by omega), hg a j (by omega)]
    · rw [pu_n (by omega), F2 a i ⟨by omega, by omega, by omega, by omega, by omega, fun _ => q3, by omega, fun s hs e he h4 => by omega⟩ (by omega), hg a i (by omega)]
    · rw [pu_n (by omega), F2 129 j ⟨by omega, by omega, by omega, by omega, by omega, by omega, fun _ => hj, fun s hs e he h4 => by omega⟩ (by omega), hg 129 j (by omega)]
    · have h4 := (hE s hs).2.2
      rw [pu_n (by omega), F2 116 _ ⟨by omega, by omega, by omega, by omega, by omega, by omega, by omega, fun s' hs' e' he' h4' => ⟨fun z => ?_, by omega⟩⟩ (by omega), hg 116 _ (by omega)]
      have : s' = s := by omega
      subst this
      omega
    · have h4 := (hE s hs).2.2
      rw [pu_n (by omega), F2 a k ⟨by omega, by omega, by omega, by omega, by omega, by omega, by omega, fun s' hs' e' he' h4' => ⟨by omega, fun z => ?_⟩⟩ (by omega), hg a k (by omega)]
      have : s' = s := by omega
      subst this
      omega
    · rw [pu_n (by omega)]; exact e35
    · rw [pu_n (by omega)]; exact e30
    · rw [pu_s, pu_s]
    · rw [pu_n (by omega), F1 a j (Pc_of (by omega)) (by omega) (by omega) (by omega)]
    · by_cases h0 : a = 110
      · subst h0
        rw [pu_n (by omega)]
        exact F3 j (by omega) (by omega) (by omega) (by omega) (by omega)
      · rw [pu_n (by omega)]
        exact F2 a j (Pd_of (by omega)) h0
theorem op_laws {f : pd_M} (hT : Td f) (hTa : Ta f) (hW : Wd f) (hF : f 17 7 = f 110 31) : ∃ r f1 f2, fn_X8_laws f = some (r, f1) ∧ fn_X9_laws f1 = some (r, f2) ∧ Td f2 ∧ Ta f2 ∧ f2 17 7 = f2 110 31 ∧
    (∀ a j, (a < 17 ∨ (a = 17 ∧ j ≠ 7) ∨ (18 ≤ a ∧ a < 35) ∨ (106 ≤ a ∧ a < 110) ∨ (a = 110 ∧ j ≠ 0 ∧ j ≠ 12 ∧ j ≠ 13 ∧ ¬ (30 ≤ j ∧ j ≤ 38)) ∨ (111 ≤ a ∧ a ≤ 113) ∨ 136 ≤ a) → f2 a j = f a j) := by
  obtain ⟨r, f1, f2, e1, -, -, -, -, e2, -⟩ := laws_both hT hTa hW (g := f) (fun _ _ _ => rfl)
  obtain ⟨r', f1', f2', a1, a2, a3, a4, a5, a6, a7⟩ := laws_both hT hTa hW (g := f1) (fun a j q => e2 a j (by omega))
  rw [e1] at a1
  obtain ⟨rfl, rfl⟩ := Prod.mk.inj (Option.some.inj a1)
  have cl : ∀ a j, a < 110 → f2' a j = f1 a j := fun a j q => a7 a j (by omega)
  refine ⟨r, f1, f2', e1, a2, Td_of ?_, ⟨0, by omega, ?_, ?_, fun k hk => absurd hk (by omega)⟩, ?_, fun a j q => ?_⟩
  · refine TdJ_fr a3 (fun a j q1 q2 => cl a j (by omega)) (fun i hi j => cl _ j ?_) (fun s hs e he j => ⟨cl _ j ?_, cl _ j ?_⟩) rfl (fun _ _ _ => rfl) (fun _ _ _ _ _ => rfl) (fun _ _ => rfl) (fun _ _ _ _ => ⟨rfl, fun _ _ _ _ _ _ => rfl⟩)
    · have := a3.1.2.2; omega
    · have := (a3.2.1 s hs).2.2; omega
    · have := (a3.2.1 s hs).2.2; omega
  · rw [cl 35 3 (by omega), a4.1]; rfl
  · rw [a4.2]; rfl
  · rw [cl 17 7 (by omega)]; exact a5 hF
  · by_cases h : a < 110
    · rw [cl a j h]
      exact e2 a j (by omega)
    · rw [a7 a j (by omega)]
      exact e2 a j (by omega)
