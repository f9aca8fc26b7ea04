/-! PURE: the draft, in the class and in the reference -/
def SyD (d : pd_M) (i : Nat) : Prop := d 121 i = nI (vw d 121 i) ∧ d 122 i = nI (vw d 122 i) ∧ d 123 i = nI (vw d 123 i) ∧ d 124 i = nI (vw d 124 i) ∧ d 125 i = nI (vw d 125 i) ∧ d 126 i = nI (vw d 126 i) ∧ d 127 i = nI (vw d 127 i) ∧ d 128 i = nI (vw d 128 i) ∧ ∀ j, j < 4 → d 129 (4 * i + j) = nI (vw d 129 (4 * i + j))
def SyJ (c d : pd_M) (i : Nat) : Prop := SyR (vw d) i ∧ SyC c (vw d) i ∧ SyD d i
def EdJ (c d : pd_M) (e : Nat) : Prop :=
  (d 116 e = nI (vw d 116 e) ∧ vw d 116 e ≤ 6) ∧
  (∀ k, 6 * e ≤ k → k < 6 * e + vw d 116 e → d 117 k = nI (vw d 117 k) ∧ vw d 117 k < 8 ∧ d 118 k = nI (vw d 118 k) ∧ vw d 118 k < 8 ∧ d 119 k = nI (vw d 119 k) ∧ vw d 119 k < 4 ∧ d 120 k = nI (vw d 120 k) ∧ vw d 120 k < 2402) ∧
  EdC c (vw d) e
theorem SyJ_fr {c c' d d' : pd_M} {i : Nat} (h : SyJ c d i) (h1 : ∀ j, c' (48 + i) j = c (48 + i) j) (h2 : ∀ a, 121 ≤ a → a ≤ 128 → d' a i = d a i) (h3 : ∀ j, j < 4 → d' 129 (4 * i + j) = d 129 (4 * i + j)) : SyJ c' d' i := by
  have v : ∀ a, 121 ≤ a → a ≤ 128 → vw d' a i = vw d a i := fun a q1 q2 => vw_eq (h2 a q1 q2) (by omega)
  have v9 : ∀ j, j < 4 → vw d' 129 (4 * i + j) = vw d 129 (4 * i + j) := fun j hj => vw_eq (h3 j hj) (by omega)
  have v90 := v9 0 (by omega)
  rw [Nat.add_zero] at v90
  have eab : ab (vw d') i = ab (vw d) i := by
    unfold ab
    rw [v 124 (by omega) (by omega), v 125 (by omega) (by omega), v 126 (by omega) (by omega)]
  have eal : al (vw d') i = al (vw d) i := by
    unfold al
    rw [v 127 (by omega) (by omega), v90, v9 1 (by omega), v9 2 (by omega), v9 3 (by omega)]
  obtain ⟨hR, hC, hD⟩ := h
  refine ⟨?_, ?_, ?_⟩
  · unfold SyR Fo at hR ⊢
    rw [v 121 (by omega) (by omega), v 122 (by omega) (by omega), v 123 (by omega) (by omega), v 124 (by omega) (by omega), v 125 (by omega) (by omega), v 126 (by omega) (by omega), v 127 (by omega) (by omega), v 128 (by omega) (by omega)]
    obtain ⟨r1, r2, r3, r4, r5, r6, r7, r8, r9⟩ := hR
    exact ⟨r1, r2, r3, r4, r5, r6, r7, r8, fun j hj => by rw [v9 j hj]; exact r9 j hj⟩
  · unfold SyC at hC ⊢
    rw [v 121 (by omega) (by omega), v 122 (by omega) (by omega), v 123 (by omega) (by omega), v 124 (by omega) (by omega), v 125 (by omega) (by omega), v 126 (by omega) (by omega), v 128 (by omega) (by omega), eab, eal]
    simp only [h1]
    exact hC
  · unfold SyD at hD ⊢
    rw [v 121 (by omega) (by omega), v 122 (by omega) (by omega), v 123 (by omega) (by omega), v 124 (by omega) (by omega), v 125 (by omega) (by omega), v 126 (by omega) (by omega), v 127 (by omega) (by omega), v 128 (by omega) (by omega)]
    rw [h2 121 (by omega) (by omega), h2 122 (by omega) (by omega), h2 123 (by omega) (by omega), h2 124 (by omega) (by omega), h2 125 (by omega) (by omega), h2 126 (by omega) (by omega), h2 127 (by omega) (by omega), h2 128 (by omega) (by omega)]
    obtain ⟨r1, r2, r3, r4, r5, r6, r7, r8, r9⟩ := hD
    exact ⟨r1, r2, r3, r4, r5, r6, r7, r8, fun j hj => by rw [v9 j hj, h3 j hj]; exact r9 j hj⟩
theorem EdJ_fr {c c' d d' : pd_M} {e : Nat} (h : EdJ c d e) (h1 : ∀ j, c' (69 + 2 * e) j = c (69 + 2 * e) j) (h2 : d' 116 e = d 116 e) (h3 : ∀ a k, 117 ≤ a → a ≤ 120 → 6 * e ≤ k → k < 6 * e + 6 → d' a k = d a k) : EdJ c' d' e := by
  obtain ⟨⟨a1, a2⟩, b, q⟩ := h
  have v6 : vw d' 116 e = vw d 116 e := vw_eq h2 (by omega)
  refine ⟨⟨by rw [h2, v6]; exact a1, by rw [v6]; exact a2⟩, fun k k1 k2 => ?_, fun j hj => ?_⟩
  · rw [v6] at k2
    rw [vw_eq (h3 117 k (by omega) (by omega) k1 (by omega)) (by omega), vw_eq (h3 118 k (by omega) (by omega) k1 (by omega)) (by omega), vw_eq (h3 119 k (by omega) (by omega) k1 (by omega)) (by omega), vw_eq (h3 120 k (by omega) (by omega) k1 (by omega)) (by omega), h3 117 k (by omega) (by omega) k1 (by omega), h3 118 k (by omega) (by omega) k1 (by omega), h3 119 k (by omega) (by omega) k1 (by omega), h3 120 k (by omega) (by omega) k1 (by omega)]
    exact b k k1 k2
  · rw [h1, q j hj]
    unfold sAns
    rw [v6]
    have ef : ff (sRu (vw d') (j / 3) (j % 3)) (vw d 116 e) (6 * e) = ff (sRu (vw d) (j / 3) (j % 3)) (vw d 116 e) (6 * e) := ff_cong (fun k k1 k2 => by
      unfold sRu
      rw [vw_eq (h3 117 k (by omega) (by omega) k1 (by omega)) (by omega), vw_eq (h3 118 k (by omega) (by omega) k1 (by omega)) (by omega), vw_eq (h3 119 k (by omega) (by omega) k1 (by omega)) (by omega)])
    have hl := ff_le (sRu (vw d) (j / 3) (j % 3)) (vw d 116 e) (6 * e)
    rw [ef]
    by_cases z : ff (sRu (vw d) (j / 3) (j % 3)) (vw d 116 e) (6 * e) = 6 * e + vw d 116 e
    · rw [if_pos z, if_pos z]
    · rw [if_neg z, if_neg z, vw_eq (h3 120 _ (by omega) (by omega) hl.1 (by omega)) (by omega)]
/-- an EDITION whose rules are read, and whose other cases are refused -/
theorem EdJ_of {c c' d d' : pd_M} {e r : Nat} (h : EdP c d e r) (h2 : d' 116 e = d 116 e) (h3 : ∀ a k, 117 ≤ a → a ≤ 120 → 6 * e ≤ k → k < 6 * e + 6 → d' a k = d a k)
    (h1 : ∀ j, j < 24 → c' (69 + 2 * e) j = if (16777215 : Nat).testBit j = true ∧ c (69 + 2 * e) j = 0 then 268435456 else c (69 + 2 * e) j) : EdJ c' d' e := by
  have hP := EdP_fr (c' := c) h (fun _ => rfl) h2 h3
  obtain ⟨⟨a1, a2⟩, b, q⟩ := hP
  have v6 : vw d' 116 e = r := vw_of a1 (by omega) (by omega)
  refine ⟨⟨by rw [v6]; exact a1, by rw [v6]; exact a2⟩, fun k k1 k2 => b k k1 (by rw [v6] at k2; exact k2), fun j hj => ?_⟩
  have hb : (16777215 : Nat).testBit j = true := by
    have : ∀ j, j < 24 → (16777215 : Nat).testBit j = true := by decide +kernel
    exact this j hj
  rw [h1 j hj, q j hj]
  unfold sAns
  rw [v6]
  by_cases z : ff (sRu (vw d') (j / 3) (j % 3)) r (6 * e) = 6 * e + r
  · simp only [if_pos z]
    rw [if_pos ⟨hb, trivial⟩]
    rfl
  · simp only [if_neg z]
    rw [if_neg (fun x => nI_ne0 (en_pos _) (en_31 _) x.2)]
/-- what is drafted: N sayings, E editions -/
def Dr (N : Nat) (E : Nat → Nat) (c d : pd_M) : Prop :=
  (N ≤ 20 ∧ c 101 4 = nI N ∧ d 110 13 = nI N) ∧
  (∀ s, s < 4 → E s ≤ 4 ∧ c 102 s = nI (E s) ∧ d 115 s = nI (E s)) ∧
  (∀ k, k < 16 → c 103 k = d 131 k) ∧
  (∀ s, s < 4 → c 104 s = d 134 s ∧ (d 134 s = -1000000 ∨ ∃ h, h < 100 ∧ d 134 s = nI h) ∧ c 105 s = d 135 s ∧ ∃ v, v < 16 ∧ d 135 s = nI v) ∧
  (∀ i, i < N → SyJ c d i) ∧
  (∀ s, s < 4 → ∀ e, e < E s → EdJ c d (4 * s + e))
def Pc (N : Nat) (E : Nat → Nat) (a : Nat) : Prop := a ≠ 100 ∧ ¬ (101 ≤ a ∧ a ≤ 105) ∧ ¬ (48 + N ≤ a ∧ a < 68) ∧ ∀ s, s < 4 → ∀ e, E s ≤ e → e < 4 → a ≠ 69 + 2 * (4 * s + e)
def Pd (N : Nat) (E : Nat → Nat) (a j : Nat) : Prop := (a = 110 → j ≠ 13 ∧ ¬ (33 ≤ j ∧ j ≤ 38)) ∧ a ≠ 115 ∧ a ≠ 131 ∧ a ≠ 134 ∧ a ≠ 135 ∧ (121 ≤ a ∧ a ≤ 128 → j < N) ∧ (a = 129 → j < 4 * N) ∧ ∀ s, s < 4 → ∀ e, E s ≤ e → e < 4 → ¬ (a = 116 ∧ j = 4 * s + e) ∧ ¬ (117 ≤ a ∧ a ≤ 120 ∧ 6 * (4 * s + e) ≤ j ∧ j < 6 * (4 * s + e) + 6)
def FC (N : Nat) (E : Nat → Nat) (c c' : pd_M) : Prop := ∀ a j, Pc N E a → c' a j = c a j
def FD (N : Nat) (E : Nat → Nat) (d d' : pd_M) : Prop := ∀ a j, Pd N E a j → d' a j = d a j
theorem Pc_mono {N N' : Nat} {E E' : Nat → Nat} (h1 : N ≤ N') (h2 : ∀ s, E s ≤ E' s) {a : Nat} (h : Pc N E a) : Pc N' E' a :=
  ⟨h.1, h.2.1, by have := h.2.2.1; omega, fun s hs e he h4 => h.2.2.2 s hs e (Nat.le_trans (h2 s) he) h4⟩
theorem Pd_mono {N N' : Nat} {E E' : Nat → Nat} (h1 : N ≤ N') (h2 : ∀ s, E s ≤ E' s) {a j : Nat} (h : Pd N E a j) : Pd N' E' a j :=
  ⟨h.1, h.2.1, h.2.2.1, h.2.2.2.1, h.2.2.2.2.1, fun z => Nat.lt_of_lt_of_le (h.2.2.2.2.2.1 z) h1, fun z => Nat.lt_of_lt_of_le (h.2.2.2.2.2.2.1 z) (by omega), fun s hs e he h4 => h.2.2.2.2.2.2.2 s hs e (Nat.le_trans (h2 s) he) h4⟩
/-- what one statement of a text does on both sides -/
def St (L : Nat) (B : Nat → Nat) (m i N : Nat) (E : Nat → Nat) (c d : pd_M) (x y : Option pd_M) : Prop :=
  ∃ i' k' c' d', x = some c' ∧ y = some d' ∧ Q L B m i' k' c' d' ∧ FC N E c c' ∧ FD N E d d' ∧ (k' = 0 → i + 1 ≤ i' ∧ ∃ N' E', N ≤ N' ∧ (∀ s, E s ≤ E' s) ∧ Dr N' E' c' d')
def tryM (f13 : pd_M) : Option pd_M :=
  ob2 (fn_X9_numberIn 0 3 0 f13) fun r22 f23 =>
  ob2 (fn_X9_numberIn 0 3 0 f23) fun r25 f26 =>
  ob2 (fn_X9_numberIn 0 15 0 f26) fun r28 f29 =>
  ob1 (if (f29 110 37) = 0 then
  if pa_in ((4 * r22) + r25) 16 = true then
  if pa_in ((4 * r22) + r25) 16 = true then
  pn ((pi_up f29 131 (((4 * r22) + r25).toNatClampNeg) ((f29 131 ((4 * r22) + r25).toNatClampNeg) ||| r28))) fun f35 =>
  some (f35)
  else none
  else none
  else
  some (f29)) fun (f32 : pd_M) =>
  some (f32)
def sgn (d : pd_M) : Option pd_M := if (d 110 37) = 0 then ob1 (if (d 110 34) = 4 then some (1) else some (0)) fun (v42 : Int32) => ob1 (fn_X9_must v42 d) fun f43 => some f43 else some d
def oneM (t : Nat) (d : pd_M) : Option pd_M := if t = 102 then fn_X9_readEdition d else if t = 103 then fn_X9_readSaying d else if t = 104 then tryM d else fn_X9_readWithin d
theorem ob1_id {α : Type} (x : Option α) : (ob1 x fun f => some f) = x := by cases x <;> rfl
theorem one_pre {L : Nat} {B : Nat → Nat} {m i t : Nat} {c d : pd_M} (h : Q L B m i 0 c d) (ht : cod L B (Pp L B i) = t) (h4 : t = 102 ∨ t = 103 ∨ t = 104 ∨ t = 105) (h20 : t = 103 → ¬ d 110 13 = 20) :
    ∃ d1, Q L B m (i + 1) 0 (pi_up c 100 3 (nI (i + 1))) d1 ∧ Fx 33 38 d d1 ∧ fn_X9_readOne d = ob1 (oneM t d1) sgn := by
  have him : i < m := by
    have := (cod_end h.1.1 h.2.1)
    have h2 := h.2.1
    omega
  obtain ⟨d1, e1, h1, g1⟩ := m_must1 h him (v := 1) (by decide)
  refine ⟨d1, h1, g1, ?_⟩
  obtain ⟨-, -, -, w3, w2, w4, w5⟩ := m_cmp h.1.2 (Pp_le L B i)
  rw [ht] at w2 w3 w4 w5
  have hw := m_word h.1.2 h.2.2.2.2 (Pp_le L B i)
  have z37 : d1 110 37 ≤ 0 := by rw [show d1 110 37 = 0 from h1.2.2.2.1.2.2.1]; decide
  have es : sgn = fun (f17 : pd_M) => if (f17 110 37) = 0 then ob1 (if (f17 110 34) = 4 then some (1) else some (0)) fun (v42 : Int32) => ob1 (fn_X9_must v42 f17) fun f43 => some f43 else some f17 := rfl
  unfold fn_X9_readOne
  rw [hw, es]
  simp only [o1s, w2, w3, w4, w5]
  rcases h4 with rfl | rfl | rfl | rfl
  · simp only [Nat.reduceEqDiff, if_true, if_false, o1s, e1, z37, oneM, ob1_id]
  · simp only [Nat.reduceEqDiff, if_true, if_false, o1s, h20 rfl, e1, z37, oneM, ob1_id]
  · simp only [Nat.reduceEqDiff, if_true, if_false, o1s, e1, z37, oneM]
    rfl
  · simp only [Nat.reduceEqDiff, if_true, if_false, o1s, e1, z37, oneM, ob1_id]
theorem sgn_st {L : Nat} {B : Nat → Nat} {m i k : Nat} {c d : pd_M} (h : Q L B m i k c d) :
    ∃ i' k' c' d', fn_X3_take 101 c = some c' ∧ sgn d = some d' ∧ Q L B m i' k' c' d' ∧ Fc c c' ∧ Fx 33 38 d d' ∧ i ≤ i' ∧ (k' = 0 → k = 0) := sign_st h
theorem SE_fr {c c' d d' : pd_M} {N : Nat} {E : Nat → Nat} (hN : N ≤ 20) (hE : ∀ s, s < 4 → E s ≤ 4) (h1 : ∀ a j, 48 ≤ a → a < 100 → c' a j = c a j) (h2 : ∀ a j, 116 ≤ a → a ≤ 129 → d' a j = d a j) (hS : ∀ i, i < N → SyJ c d i) (hEd : ∀ s, s < 4 → ∀ e, e < E s → EdJ c d (4 * s + e)) : (∀ i, i < N → SyJ c' d' i) ∧ (∀ s, s < 4 → ∀ e, e < E s → EdJ c' d' (4 * s + e)) := by
  refine ⟨fun i hi => SyJ_fr (hS i hi) (fun j => h1 _ j (by omega) (by omega)) (fun a q1 q2 => h2 a i (by omega) (by omega)) (fun j hj => h2 129 _ (by omega) (by omega)), fun s hs e he => ?_⟩
  have := hE s hs
  exact EdJ_fr (hEd s hs e he) (fun j => h1 _ j (by omega) (by omega)) (h2 116 _ (by omega) (by omega)) (fun a k q1 q2 q3 q4 => h2 a k (by omega) (by omega))
