/-! PURE: hours -/
def oI (x : Option Nat) : Int32 := match x with
  | none => -1000000
  | some h => nI h
def hL (R : Nat → Option Nat) (c : Nat) : Nat → Nat → Nat → Option Nat
  | 0, _, x => some x
  | r + 1, t, x => if c.testBit t = true then ob1 (R t) fun y => hL R c r (t + 1) (x + y) else hL R c r (t + 1) x
def hN (O : Nat → Option Nat) (C : Nat → Nat) (H : Nat → Option Nat) (s : Nat) : Option Nat := ob1 (O s) fun h => hL H (C s) 4 0 h
def hC (O : Nat → Option Nat) (C : Nat → Nat) : Nat → Nat → Option Nat
  | 0, _ => none
  | k + 1, s => hN O C (hC O C k) s
theorem hL_mono {R R' : Nat → Option Nat} {c : Nat} : ∀ (r t x v : Nat), (∀ u y, t ≤ u → u < t + r → R u = some y → R' u = some y) → hL R c r t x = some v → hL R' c r t x = some v := by
  intro r
  induction r with
  | zero => intro t x v _ h; exact h
  | succ r ih =>
    intro t x v h0 h
    unfold hL at h ⊢
    by_cases b : c.testBit t = true
    · rw [if_pos b] at h ⊢
      cases hR : R t with
      | none => rw [hR] at h; cases h
      | some y =>
        rw [hR, o1s] at h
        rw [h0 t y (by omega) (by omega) hR, o1s]
        exact ih (t + 1) (x + y) v (fun u y q1 q2 => h0 u y (by omega) (by omega)) h
    · rw [if_neg b] at h ⊢
      exact ih (t + 1) x v (fun u y q1 q2 => h0 u y (by omega) (by omega)) h
theorem hL_is {R : Nat → Option Nat} {c : Nat} : ∀ (r t x : Nat), (hL R c r t x).isSome = true ↔ ∀ u, t ≤ u → u < t + r → c.testBit u = true → (R u).isSome = true := by
  intro r
  induction r with
  | zero => intro t x; exact ⟨fun _ u q1 q2 => absurd q2 (by omega), fun _ => rfl⟩
  | succ r ih =>
    intro t x
    unfold hL
    by_cases b : c.testBit t = true
    · rw [if_pos b]
      cases hR : R t with
      | none =>
        refine ⟨fun h => absurd (show false = true from h) Bool.false_ne_true, fun h => ?_⟩
        have := h t (by omega) (by omega) b
        rw [hR] at this
        exact absurd (show false = true from this) Bool.false_ne_true
      | some y =>
        rw [o1s, ih (t + 1) (x + y)]
        refine ⟨fun h u q1 q2 q3 => ?_, fun h u q1 q2 q3 => h u (by omega) (by omega) q3⟩
        by_cases e : u = t
        · subst e; rw [hR]; rfl
        · exact h u (by omega) (by omega) q3
    · rw [if_neg b, ih (t + 1) x]
      refine ⟨fun h u q1 q2 q3 => ?_, fun h u q1 q2 q3 => h u (by omega) (by omega) q3⟩
      by_cases e : u = t
      · subst e; exact absurd q3 b
      · exact h u (by omega) (by omega) q3
theorem hL_le {R : Nat → Option Nat} {c B : Nat} : ∀ (r t x v : Nat), (∀ u y, t ≤ u → u < t + r → R u = some y → y ≤ B) → hL R c r t x = some v → v ≤ x + r * B := by
  intro r
  induction r with
  | zero => intro t x v _ h; cases h; omega
  | succ r ih =>
    intro t x v h0 h
    unfold hL at h
    rw [Nat.succ_mul]
    by_cases b : c.testBit t = true
    · rw [if_pos b] at h
      cases hR : R t with
      | none => rw [hR] at h; cases h
      | some y =>
        rw [hR, o1s] at h
        have := ih (t + 1) (x + y) v (fun u y q1 q2 => h0 u y (by omega) (by omega)) h
        have := h0 t y (by omega) (by omega) hR
        omega
    · rw [if_neg b] at h
      have := ih (t + 1) x v (fun u y q1 q2 => h0 u y (by omega) (by omega)) h
      omega
section
variable {O : Nat → Option Nat} {C : Nat → Nat}
theorem hC_mono : ∀ (k s v : Nat), hC O C k s = some v → hC O C (k + 1) s = some v := by
  intro k
  induction k with
  | zero => intro s v h; cases h
  | succ k ih =>
    intro s v h
    have h : hN O C (hC O C k) s = some v := h
    show hN O C (hC O C (k + 1)) s = some v
    unfold hN at h ⊢
    cases hO : O s with
    | none => rw [hO] at h; cases h
    | some x =>
      rw [hO, o1s] at h
      rw [o1s]
      exact hL_mono 4 0 x v (fun u y _ _ q => ih u y q) h
theorem hC_up (j : Nat) : ∀ (k s v : Nat), hC O C k s = some v → hC O C (k + j) s = some v := by
  induction j with
  | zero => intro k s v h; exact h
  | succ j ih => intro k s v h; exact hC_mono (k + j) s v (ih k s v h)
theorem hC_le (hO : ∀ s h, O s = some h → h < 100) : ∀ (k s v : Nat), hC O C k s = some v → v ≤ 100 * 5 ^ k := by
  intro k
  induction k with
  | zero => intro s v h; cases h
  | succ k ih =>
    intro s v h
    have h : hN O C (hC O C k) s = some v := h
    unfold hN at h
    cases hs : O s with
    | none => rw [hs] at h; cases h
    | some x =>
      rw [hs, o1s] at h
      have h1 := hL_le (B := 100 * 5 ^ k) 4 0 x v (fun u y _ _ q => ih u y q) h
      have h2 := hO s x hs
      have h3 : 0 < 5 ^ k := Nat.pow_pos (by decide)
      rw [Nat.pow_succ]
      omega
def hX (O : Nat → Option Nat) (C : Nat → Nat) (k : Nat) : Nat := orF (fun s => (hC O C k s).isSome) 4
theorem hX_lt (k : Nat) : hX O C k < 16 := orF_lt _ 4
theorem hX_bit {k s : Nat} (hs : s < 4) : (hX O C k).testBit s = (hC O C k s).isSome := by
  unfold hX
  rw [orF_bit, decide_eq_true hs, Bool.true_and]
theorem hX_sub (k : Nat) : hX O C k &&& hX O C (k + 1) = hX O C k := by
  refine Nat.eq_of_testBit_eq fun s => ?_
  rw [Nat.testBit_and]
  by_cases hs : s < 4
  · rw [hX_bit hs, hX_bit hs]
    cases h : hC O C k s with
    | none => rfl
    | some v => rw [hC_mono k s v h]; rfl
  · rw [tb_hi (k := 4) (hX_lt k) (by omega), Bool.false_and]
theorem hX_next {k : Nat} (h : hX O C k = hX O C (k + 1)) : hX O C (k + 1) = hX O C (k + 2) := by
  have hb : ∀ u, u < 4 → (hC O C k u).isSome = (hC O C (k + 1) u).isSome := fun u hu => by rw [← hX_bit hu, ← hX_bit hu, h]
  refine Nat.eq_of_testBit_eq fun s => ?_
  by_cases hs : s < 4
  · rw [hX_bit hs, hX_bit hs]
    show (hN O C (hC O C k) s).isSome = (hN O C (hC O C (k + 1)) s).isSome
    unfold hN
    cases O s with
    | none => rfl
    | some x =>
      rw [o1s, o1s, Bool.eq_iff_iff, hL_is, hL_is]
      refine ⟨fun q u q1 q2 q3 => ?_, fun q u q1 q2 q3 => ?_⟩
      · rw [← hb u (by omega)]; exact q u q1 q2 q3
      · rw [hb u (by omega)]; exact q u q1 q2 q3
  · rw [tb_hi (k := 4) (hX_lt _) (by omega), tb_hi (k := 4) (hX_lt _) (by omega)]
theorem pc_sub : ∀ x, x < 16 → ∀ y, y < 16 → x &&& y = x → x ≠ y → pc x < pc y := by decide +kernel
theorem hX_4 : hX O C 4 = hX O C 5 := by
  refine Decidable.byContradiction fun h4 => ?_
  have h3 : hX O C 3 ≠ hX O C 4 := fun z => h4 (hX_next z)
  have h2 : hX O C 2 ≠ hX O C 3 := fun z => h3 (hX_next z)
  have h1 : hX O C 1 ≠ hX O C 2 := fun z => h2 (hX_next z)
  have h0 : hX O C 0 ≠ hX O C 1 := fun z => h1 (hX_next z)
  have p0 := pc_sub _ (hX_lt 0) _ (hX_lt 1) (hX_sub (O := O) (C := C) 0) h0
  have p1 := pc_sub _ (hX_lt 1) _ (hX_lt 2) (hX_sub (O := O) (C := C) 1) h1
  have p2 := pc_sub _ (hX_lt 2) _ (hX_lt 3) (hX_sub (O := O) (C := C) 2) h2
  have p3 := pc_sub _ (hX_lt 3) _ (hX_lt 4) (hX_sub (O := O) (C := C) 3) h3
  have p4 := pc_sub _ (hX_lt 4) _ (hX_lt 5) (hX_sub (O := O) (C := C) 4) h4
  have p5 := pc_16 _ (hX_lt (O := O) (C := C) 5)
  omega
theorem hX_all (j : Nat) : hX O C (4 + j) = hX O C (4 + j + 1) := by
  induction j with
  | zero => exact hX_4
  | succ j ih => exact hX_next ih
theorem hX_one (j : Nat) : hX O C (4 + j) = hX O C 4 := by
  induction j with
  | zero => rfl
  | succ j ih => rw [← ih]; exact (hX_all j).symm
theorem hC_stab {k s v : Nat} (hs : s < 4) (h : hC O C k s = some v) : hC O C 4 s = some v := by
  by_cases hk : k ≤ 4
  · have := hC_up (4 - k) k s v h
    rw [show k + (4 - k) = 4 by omega] at this
    exact this
  · have hb : (hX O C 4).testBit s = true := by
      rw [← hX_one (k - 4), show 4 + (k - 4) = k by omega, hX_bit hs, h]
      rfl
    rw [hX_bit hs] at hb
    cases h4 : hC O C 4 s with
    | none => rw [h4] at hb; cases hb
    | some w =>
      have := hC_up (k - 4) 4 s w h4
      rw [show 4 + (k - 4) = k by omega, h] at this
      exact this.symm
/-- the reference's row on its way -/
def HS (O : Nat → Option Nat) (C : Nat → Nat) (r s : Nat) (H : Nat → Option Nat) : Prop :=
  (∀ u, u < 4 → ∀ v, H u = some v → hC O C 4 u = some v) ∧ (∀ u, u < 4 → ∀ v, hC O C r u = some v → H u = some v) ∧ ∀ u, u < s → u < 4 → ∀ v, hC O C (r + 1) u = some v → H u = some v
def hU (O : Nat → Option Nat) (C : Nat → Nat) (s : Nat) (H : Nat → Option Nat) : Nat → Option Nat := fun u => if u = s then (if H s = none then hN O C H s else H s) else H u
theorem HS_step {r s : Nat} {H : Nat → Option Nat} (hs : s < 4) (h : HS O C r s H) : HS O C r (s + 1) (hU O C s H) := by
  obtain ⟨h1, h2, h3⟩ := h
  have key : ∀ v, hN O C H s = some v → hC O C 4 s = some v := by
    intro v hv
    refine hC_stab (k := 5) hs ?_
    show hN O C (hC O C 4) s = some v
    unfold hN at hv ⊢
    cases hO : O s with
    | none => rw [hO] at hv; cases hv
    | some x =>
      rw [hO, o1s] at hv
      rw [o1s]
      exact hL_mono 4 0 x v (fun u y _ q2 q => h1 u (by omega) y q) hv
  have grow : ∀ u, u < 4 → ∀ v, H u = some v → hU O C s H u = some v := by
    intro u hu v hv
    unfold hU
    by_cases e : u = s
    · subst e
      rw [if_pos rfl, if_neg (by rw [hv]; exact Option.some_ne_none v), hv]
    · rw [if_neg e]; exact hv
  refine ⟨fun u hu v hv => ?_, fun u hu v hv => grow u hu v (h2 u hu v hv), fun u hu hu4 v hv => ?_⟩
  · unfold hU at hv
    by_cases e : u = s
    · subst e
      rw [if_pos rfl] at hv
      by_cases hn : H u = none
      · rw [if_pos hn] at hv; exact key v hv
      · rw [if_neg hn] at hv; exact h1 u hu v hv
    · rw [if_neg e] at hv; exact h1 u hu v hv
  · by_cases e : u = s
    · subst e
      by_cases hn : H u = none
      · unfold hU
        rw [if_pos rfl, if_pos hn]
        have hv : hN O C (hC O C r) u = some v := hv
        unfold hN at hv ⊢
        cases hO : O u with
        | none => rw [hO] at hv; cases hv
        | some x =>
          rw [hO, o1s] at hv
          rw [o1s]
          exact hL_mono 4 0 x v (fun w y _ q2 q => h2 w (by omega) y q) hv
      · cases hw : H u with
        | none => exact absurd hw hn
        | some w =>
          have a1 := h1 u hu4 w hw
          have a2 := hC_stab hu4 hv
          rw [a1] at a2
          rw [← Option.some.inj a2]
          exact grow u hu4 w hw
    · exact grow u hu4 v (h3 u (by omega) hu4 v hv)
theorem HS_round {r : Nat} {H : Nat → Option Nat} (h : HS O C r 4 H) : HS O C (r + 1) 0 H := ⟨h.1, fun u hu v hv => h.2.2 u hu hu v hv, fun u hu => absurd hu (by omega)⟩
/-- both sides' memory -/
def HM (f : pd_M) (O : Nat → Option Nat) (C : Nat → Nat) : Prop := (∀ s, s < 4 → f 43 s = oI (O s) ∧ f 44 s = nI (C s) ∧ f 132 s = oI (O s) ∧ f 133 s = nI (C s)) ∧ (∀ s h, O s = some h → h < 100) ∧ ∀ s, C s < 16
def hE (x : Option Nat) : Int32 ⊕ Int32 := match x with
  | none => .inl (-1000000)
  | some v => .inr (nI v)
theorem oI_N {x : Option Nat} (h : ∀ v, x = some v → v < 2 ^ 31) : (oI x = -1000000) = (x = none) := by
  cases x with
  | none => exact propext ⟨fun _ => rfl, fun _ => rfl⟩
  | some v => exact propext ⟨fun z => by rw [show oI (some v) = nI v from rfl, zj (h v rfl)] at z; exact z.elim, fun z => by cases z⟩
theorem ah_1 {f : pd_M} {s : Nat} (hM : HM f O C) (hs : s < 4) : fn_X8_addHours_1 40 (nI s) (nI 4) f = some (oI (hC O C 0 s)) := by
  unfold fn_X8_addHours_1
  rw [if_pos sk_40, if_pos (show (4 : Int32) ≤ nI 4 by decide)]
  rfl
theorem ah_2l {f : pd_M} (hM : HM f O C) {s : Nat} (hs : s < 4) : ∀ (r n t x : Nat), t + r = 4 → r < n → lp_X8_addHours_2_29 n 40 (nI s) (nI 3) (nI x) (nI t) f = some (hE (hL (hC O C 0) (C s) r t x)) := by
  have hc := (hM.1 s hs).2.1
  have hc16 := hM.2.2 s
  intro r
  induction r with
  | zero =>
    intro n t x h1 h2
    obtain ⟨n, rfl⟩ : ∃ k, n = k + 1 := ⟨n - 1, by omega⟩
    unfold lp_X8_addHours_2_29 hL
    simp (disch := omega) only [sk_40, l4, ly, show 4 ≤ t by omega, if_true, if_false, ↓reduceIte, Bool.false_eq_true, reduceCtorEq]
    rfl
  | succ r ih =>
    intro n t x h1 h2
    obtain ⟨n, rfl⟩ : ∃ k, n = k + 1 := ⟨n - 1, by omega⟩
    have hq := ah_1 hM (show t < 4 by omega)
    unfold lp_X8_addHours_2_29 hL
    simp (disch := omega) only [sk_40, l4, ly, show ¬ 4 ≤ t by omega, zp, nI_clamp, Nat.reduceAdd, hc, q_bit0, pn, nI_1, hq, o1s, if_true, if_false, ↓reduceIte, Bool.false_eq_true, reduceCtorEq]
    cases b : (C s).testBit t
    · simp only [Bool.false_eq_true, if_false, if_true]
      exact ih n (t + 1) x (by omega) (by omega)
    · simp only [Bool.true_eq_false, if_false, if_true]
      cases hR : hC O C 0 t with
      | none =>
        rw [if_pos (show oI none = -1000000 from rfl)]
        rfl
      | some y =>
        have hy := hC_le hM.2.1 0 t y hR
        rw [if_neg (show ¬ oI (some y) = -1000000 by rw [show oI (some y) = nI y from rfl, zj (by omega)]; exact id), o1s, show oI (some y) = nI y from rfl, nI_add]
        exact ih n (t + 1) (x + y) (by omega) (by omega)
theorem ah_2 {f : pd_M} (hM : HM f O C) {s : Nat} (hs : s < 4) : fn_X8_addHours_2 40 (nI s) (nI 3) f = some (oI (hC O C 1 s)) := by
  have ho := (hM.1 s hs).1
  unfold fn_X8_addHours_2
  simp (disch := omega) only [sk_40, l4, ly, Nat.reduceLeDiff, zp, nI_clamp, Nat.reduceAdd, ho, pn, if_true, if_false, ↓reduceIte, Bool.false_eq_true, reduceCtorEq]
  show _ = some (oI (hN O C (hC O C 0) s))
  unfold hN
  cases hO : O s with
  | none =>
    rw [if_pos (show oI none = -1000000 from rfl)]
    rfl
  | some x =>
    have hx := hM.2.1 s x hO
    have hl := ah_2l hM hs 4 5000 0 x (by omega) (by omega)
    rw [if_neg (show ¬ oI (some x) = -1000000 by rw [show oI (some x) = nI x from rfl, zj (by omega)]; exact id), show oI (some x) = nI x from rfl, o1s, show (0 : Int32) = nI 0 from rfl, hl]
    cases hL (hC O C 0) (C s) 4 0 x <;> rfl
theorem ah_3l {f : pd_M} (hM : HM f O C) {s : Nat} (hs : s < 4) : ∀ (r n t x : Nat), t + r = 4 → r < n → lp_X8_addHours_3_29 n 40 (nI s) (nI 2) (nI x) (nI t) f = some (hE (hL (hC O C 1) (C s) r t x)) := by
  have hc := (hM.1 s hs).2.1
  have hc16 := hM.2.2 s
  intro r
  induction r with
  | zero =>
    intro n t x h1 h2
    obtain ⟨n, rfl⟩ : ∃ k, n = k + 1 := ⟨n - 1, by omega⟩
    unfold lp_X8_addHours_3_29 hL
    simp (disch := omega) only [sk_40, l4, ly, show 4 ≤ t by omega, if_true, if_false, ↓reduceIte, Bool.false_eq_true, reduceCtorEq]
    rfl
  | succ r ih =>
    intro n t x h1 h2
    obtain ⟨n, rfl⟩ : ∃ k, n = k + 1 := ⟨n - 1, by omega⟩
    have hq := ah_2 hM (show t < 4 by omega)
    unfold lp_X8_addHours_3_29 hL
    simp (disch := omega) only [sk_40, l4, ly, show ¬ 4 ≤ t by omega, zp, nI_clamp, Nat.reduceAdd, hc, q_bit0, pn, nI_1, hq, o1s, if_true, if_false, ↓reduceIte, Bool.false_eq_true, reduceCtorEq]
    cases b : (C s).testBit t
    · simp only [Bool.false_eq_true, if_false, if_true]
      exact ih n (t + 1) x (by omega) (by omega)
    · simp only [Bool.true_eq_false, if_false, if_true]
      cases hR : hC O C 1 t with
      | none =>
        rw [if_pos (show oI none = -1000000 from rfl)]
        rfl
      | some y =>
        have hy := hC_le hM.2.1 1 t y hR
        rw [if_neg (show ¬ oI (some y) = -1000000 by rw [show oI (some y) = nI y from rfl, zj (by omega)]; exact id), o1s, show oI (some y) = nI y from rfl, nI_add]
        exact ih n (t + 1) (x + y) (by omega) (by omega)
theorem ah_3 {f : pd_M} (hM : HM f O C) {s : Nat} (hs : s < 4) : fn_X8_addHours_3 40 (nI s) (nI 2) f = some (oI (hC O C 2 s)) := by
  have ho := (hM.1 s hs).1
  unfold fn_X8_addHours_3
  simp (disch := omega) only [sk_40, l4, ly, Nat.reduceLeDiff, zp, nI_clamp, Nat.reduceAdd, ho, pn, if_true, if_false, ↓reduceIte, Bool.false_eq_true, reduceCtorEq]
  show _ = some (oI (hN O C (hC O C 1) s))
  unfold hN
  cases hO : O s with
  | none =>
    rw [if_pos (show oI none = -1000000 from rfl)]
    rfl
  | some x =>
    have hx := hM.2.1 s x hO
    have hl := ah_3l hM hs 4 5000 0 x (by omega) (by omega)
    rw [if_neg (show ¬ oI (some x) = -1000000 by rw [show oI (some x) = nI x from rfl, zj (by omega)]; exact id), show oI (some x) = nI x from rfl, o1s, show (0 : Int32) = nI 0 from rfl, hl]
    cases hL (hC O C 1) (C s) 4 0 x <;> rfl
theorem ah_4l {f : pd_M} (hM : HM f O C) {s : Nat} (hs : s < 4) : ∀ (r n t x : Nat), t + r = 4 → r < n → lp_X8_addHours_4_29 n 40 (nI s) (nI 1) (nI x) (nI t) f = some (hE (hL (hC O C 2) (C s) r t x)) := by
  have hc := (hM.1 s hs).2.1
  have hc16 := hM.2.2 s
  intro r
  induction r with
  | zero =>
    intro n t x h1 h2
    obtain ⟨n, rfl⟩ : ∃ k, n = k + 1 := ⟨n - 1, by omega⟩
    unfold lp_X8_addHours_4_29 hL
    simp (disch := omega) only [sk_40, l4, ly, show 4 ≤ t by omega, if_true, if_false, ↓reduceIte, Bool.false_eq_true, reduceCtorEq]
    rfl
  | succ r ih =>
    intro n t x h1 h2
    obtain ⟨n, rfl⟩ : ∃ k, n = k + 1 := ⟨n - 1, by omega⟩
    have hq := ah_3 hM (show t < 4 by omega)
    unfold lp_X8_addHours_4_29 hL
    simp (disch := omega) only [sk_40, l4, ly, show ¬ 4 ≤ t by omega, zp, nI_clamp, Nat.reduceAdd, hc, q_bit0, pn, nI_1, hq, o1s, if_true, if_false, ↓reduceIte, Bool.false_eq_true, reduceCtorEq]
    cases b : (C s).testBit t
    · simp only [Bool.false_eq_true, if_false, if_true]
      exact ih n (t + 1) x (by omega) (by omega)
    · simp only [Bool.true_eq_false, if_false, if_true]
      cases hR : hC O C 2 t with
      | none =>
        rw [if_pos (show oI none = -1000000 from rfl)]
        rfl
      | some y =>
        have hy := hC_le hM.2.1 2 t y hR
        rw [if_neg (show ¬ oI (some y) = -1000000 by rw [show oI (some y) = nI y from rfl, zj (by omega)]; exact id), o1s, show oI (some y) = nI y from rfl, nI_add]
        exact ih n (t + 1) (x + y) (by omega) (by omega)
theorem ah_4 {f : pd_M} (hM : HM f O C) {s : Nat} (hs : s < 4) : fn_X8_addHours_4 40 (nI s) (nI 1) f = some (oI (hC O C 3 s)) := by
  have ho := (hM.1 s hs).1
  unfold fn_X8_addHours_4
  simp (disch := omega) only [sk_40, l4, ly, Nat.reduceLeDiff, zp, nI_clamp, Nat.reduceAdd, ho, pn, if_true, if_false, ↓reduceIte, Bool.false_eq_true, reduceCtorEq]
  show _ = some (oI (hN O C (hC O C 2) s))
  unfold hN
  cases hO : O s with
  | none =>
    rw [if_pos (show oI none = -1000000 from rfl)]
    rfl
  | some x =>
    have hx := hM.2.1 s x hO
    have hl := ah_4l hM hs 4 5000 0 x (by omega) (by omega)
    rw [if_neg (show ¬ oI (some x) = -1000000 by rw [show oI (some x) = nI x from rfl, zj (by omega)]; exact id), show oI (some x) = nI x from rfl, o1s, show (0 : Int32) = nI 0 from rfl, hl]
    cases hL (hC O C 2) (C s) 4 0 x <;> rfl
theorem ah_5l {f : pd_M} (hM : HM f O C) {s : Nat} (hs : s < 4) : ∀ (r n t x : Nat), t + r = 4 → r < n → lp_X8_addHours_5_29 n 40 (nI s) (nI 0) (nI x) (nI t) f = some (hE (hL (hC O C 3) (C s) r t x)) := by
  have hc := (hM.1 s hs).2.1
  have hc16 := hM.2.2 s
  intro r
  induction r with
  | zero =>
    intro n t x h1 h2
    obtain ⟨n, rfl⟩ : ∃ k, n = k + 1 := ⟨n - 1, by omega⟩
    unfold lp_X8_addHours_5_29 hL
    simp (disch := omega) only [sk_40, l4, ly, show 4 ≤ t by omega, if_true, if_false, ↓reduceIte, Bool.false_eq_true, reduceCtorEq]
    rfl
  | succ r ih =>
    intro n t x h1 h2
    obtain ⟨n, rfl⟩ : ∃ k, n = k + 1 := ⟨n - 1, by omega⟩
    have hq := ah_4 hM (show t < 4 by omega)
    unfold lp_X8_addHours_5_29 hL
    simp (disch := omega) only [sk_40, l4, ly, show ¬ 4 ≤ t by omega, zp, nI_clamp, Nat.reduceAdd, hc, q_bit0, pn, nI_1, hq, o1s, if_true, if_false, ↓reduceIte, Bool.false_eq_true, reduceCtorEq]
    cases b : (C s).testBit t
    · simp only [Bool.false_eq_true, if_false, if_true]
      exact ih n (t + 1) x (by omega) (by omega)
    · simp only [Bool.true_eq_false, if_false, if_true]
      cases hR : hC O C 3 t with
      | none =>
        rw [if_pos (show oI none = -1000000 from rfl)]
        rfl
      | some y =>
        have hy := hC_le hM.2.1 3 t y hR
        rw [if_neg (show ¬ oI (some y) = -1000000 by rw [show oI (some y) = nI y from rfl, zj (by omega)]; exact id), o1s, show oI (some y) = nI y from rfl, nI_add]
        exact ih n (t + 1) (x + y) (by omega) (by omega)
theorem ah_5 {f : pd_M} (hM : HM f O C) {s : Nat} (hs : s < 4) : fn_X8_addHours_5 40 (nI s) (nI 0) f = some (oI (hC O C 4 s)) := by
  have ho := (hM.1 s hs).1
  unfold fn_X8_addHours_5
  simp (disch := omega) only [sk_40, l4, ly, Nat.reduceLeDiff, zp, nI_clamp, Nat.reduceAdd, ho, pn, if_true, if_false, ↓reduceIte, Bool.false_eq_true, reduceCtorEq]
  show _ = some (oI (hN O C (hC O C 3) s))
  unfold hN
  cases hO : O s with
  | none =>
    rw [if_pos (show oI none = -1000000 from rfl)]
    rfl
  | some x =>
    have hx := hM.2.1 s x hO
    have hl := ah_5l hM hs 4 5000 0 x (by omega) (by omega)
    rw [if_neg (show ¬ oI (some x) = -1000000 by rw [show oI (some x) = nI x from rfl, zj (by omega)]; exact id), show oI (some x) = nI x from rfl, o1s, show (0 : Int32) = nI 0 from rfl, hl]
    cases hL (hC O C 3) (C s) 4 0 x <;> rfl
theorem m61n {f : pd_M} {s : Nat} (z1 z2 : Int32) (n t : Nat) (ht : t ≤ 4) : lp_X9_hours_61 (n + 1) z1 z2 (nI s) (-1000000) (nI t) f = some (-1000000) := by
  unfold lp_X9_hours_61
  rw [if_pos rfl]
  split <;> rfl
theorem m61 {f : pd_M} {H : Nat → Option Nat} {c s B : Nat} (hs : s < 4) (hc : f 133 s = nI c) (hc16 : c < 16) (hH : ∀ u, u < 4 → f 139 u = oI (H u)) (hb : ∀ u, u < 4 → ∀ v, H u = some v → v ≤ B) (z1 z2 : Int32) : ∀ (r n t x : Nat), t + r = 4 → r < n → x + r * B < 2 ^ 31 → lp_X9_hours_61 n z1 z2 (nI s) (nI x) (nI t) f = some (oI (hL H c r t x)) := by
  intro r
  induction r with
  | zero =>
    intro n t x h1 h2 h3
    obtain ⟨n, rfl⟩ : ∃ k, n = k + 1 := ⟨n - 1, by omega⟩
    unfold lp_X9_hours_61 hL
    simp (disch := omega) only [l4, ly, show 4 ≤ t by omega, if_true, if_false, ↓reduceIte, Bool.false_eq_true, reduceCtorEq]
    rfl
  | succ r ih =>
    intro n t x h1 h2 h3
    obtain ⟨n, rfl⟩ : ∃ k, n = k + 1 := ⟨n - 1, by omega⟩
    rw [Nat.succ_mul] at h3
    have ht := hH t (by omega)
    unfold lp_X9_hours_61 hL
    simp (disch := omega) only [l4, ly, show ¬ 4 ≤ t by omega, zj, zp, nI_clamp, hc, q_bit1, ht, pn, nI_1, if_true, if_false, ↓reduceIte, Bool.false_eq_true, reduceCtorEq]
    cases b : c.testBit t
    · simp only [Bool.false_eq_true, if_false, if_true, o1s]
      exact ih n (t + 1) x (by omega) (by omega) (by omega)
    · simp only [o10, if_false, if_true, o1s]
      cases hR : H t with
      | none =>
        rw [if_pos (show oI none = -1000000 from rfl), o1s]
        obtain ⟨n, rfl⟩ : ∃ k, n = k + 1 := ⟨n - 1, by omega⟩
        exact m61n z1 z2 n (t + 1) (by omega)
      | some y =>
        have hy := hb t (by omega) y hR
        rw [if_neg (show ¬ oI (some y) = -1000000 by rw [show oI (some y) = nI y from rfl, zj (by omega)]; exact id), o1s, show oI (some y) = nI y from rfl, nI_add, o1s]
        exact ih n (t + 1) (x + y) (by omega) (by omega) (by omega)
def F139 (f f' : pd_M) : Prop := ∀ a k, a ≠ 139 → f' a k = f a k
theorem HM_fr {f f' : pd_M} (h : HM f O C) (hf : F139 f f') : HM f' O C := by
  refine ⟨fun s hs => ?_, h.2⟩
  rw [hf 43 s (by omega), hf 44 s (by omega), hf 132 s (by omega), hf 133 s (by omega)]
  exact h.1 s hs
theorem m45 (z1 z2 : Int32) {rd : Nat} : ∀ (r n s : Nat) (f : pd_M) (H : Nat → Option Nat), s + r = 4 → r < n → HM f O C → (∀ u, u < 4 → f 139 u = oI (H u)) → HS O C rd s H → ∃ f' H', lp_X9_hours_45 n z1 z2 (nI s) f = some f' ∧ (∀ u, u < 4 → f' 139 u = oI (H' u)) ∧ HS O C rd 4 H' ∧ F139 f f' := by
  intro r
  induction r with
  | zero =>
    intro n s f H h1 h2 hM hH hS
    obtain ⟨n, rfl⟩ : ∃ k, n = k + 1 := ⟨n - 1, by omega⟩
    have : s = 4 := by omega
    subst this
    refine ⟨f, H, ?_, hH, hS, fun _ _ _ => rfl⟩
    unfold lp_X9_hours_45
    simp (disch := omega) only [l4, ly, Nat.le_refl, if_true, if_false, ↓reduceIte, Bool.false_eq_true, reduceCtorEq]
  | succ r ih =>
    intro n s f H h1 h2 hM hH hS
    obtain ⟨n, rfl⟩ : ∃ k, n = k + 1 := ⟨n - 1, by omega⟩
    obtain ⟨-, -, o1, o2⟩ := hM.1 s (by omega)
    have hb : ∀ u, u < 4 → ∀ v, H u = some v → v ≤ 62500 := fun u hu v hv => by
      have := hC_le hM.2.1 4 u v (hS.1 u hu v hv)
      omega
    have hl : lp_X9_hours_61 5000 z1 z2 (nI s) (oI (O s)) 0 f = some (oI (hN O C H s)) := by
      unfold hN
      cases hO : O s with
      | none => exact m61n z1 z2 4999 0 (by omega)
      | some x =>
        have hx := hM.2.1 s x hO
        exact m61 (B := 62500) (show s < 4 by omega) o2 (hM.2.2 s) hH hb z1 z2 4 5000 0 x (by omega) (by omega) (by omega)
    have hnb : ∀ v, H s = some v → v < 2 ^ 31 := fun v hv => by have := hb s (by omega) v hv; omega
    have hst := HS_step (show s < 4 by omega) hS
    have fr : F139 f (pi_up f 139 s (oI (hU O C s H s))) := fun a k q => pu_n (by omega)
    obtain ⟨f', H', e1, e2, e3, e4⟩ := ih n (s + 1) (pi_up f 139 s (oI (hU O C s H s))) (hU O C s H) (by omega) (by omega) (HM_fr hM fr) (fun u hu => by
      by_cases e : u = s
      · subst e; rw [pu_s]
      · rw [pu_n (by omega), hH u hu]
        unfold hU
        rw [if_neg e]) hst
    refine ⟨f', H', ?_, e2, e3, fun a k q => by rw [e4 a k q, fr a k q]⟩
    unfold lp_X9_hours_45
    simp (disch := omega) only [l4, ly, show ¬ 4 ≤ s by omega, zp, nI_clamp, o1, pn, hl, o1s, hH s, oI_N hnb, nI_1, if_true, if_false, ↓reduceIte, Bool.false_eq_true, reduceCtorEq]
    rw [show (if H s = none then some (oI (hN O C H s)) else some (oI (H s))) = some (oI (hU O C s H s)) by
      unfold hU
      rw [if_pos rfl]
      split <;> rfl, o1s]
    exact e1
theorem m38 (z1 : Int32) : ∀ (r n k : Nat) (f : pd_M) (H : Nat → Option Nat), k + r = 4 → r < n → HM f O C → (∀ u, u < 4 → f 139 u = oI (H u)) → HS O C k 0 H → ∃ f' H', lp_X9_hours_38 n z1 (nI k) f = some f' ∧ (∀ u, u < 4 → f' 139 u = oI (H' u)) ∧ HS O C 4 0 H' ∧ F139 f f' := by
  intro r
  induction r with
  | zero =>
    intro n k f H h1 h2 hM hH hS
    obtain ⟨n, rfl⟩ : ∃ k, n = k + 1 := ⟨n - 1, by omega⟩
    have : k = 4 := by omega
    subst this
    refine ⟨f, H, ?_, hH, hS, fun _ _ _ => rfl⟩
    unfold lp_X9_hours_38
    simp (disch := omega) only [l4, ly, Nat.le_refl, if_true, if_false, ↓reduceIte, Bool.false_eq_true, reduceCtorEq]
  | succ r ih =>
    intro n k f H h1 h2 hM hH hS
    obtain ⟨n, rfl⟩ : ∃ k, n = k + 1 := ⟨n - 1, by omega⟩
    obtain ⟨f1, H1, a1, a2, a3, a4⟩ := m45 z1 (nI k) 4 5000 0 f H (by omega) (by omega) hM hH hS
    have a1 : lp_X9_hours_45 5000 z1 (nI k) 0 f = some f1 := a1
    obtain ⟨f', H', e1, e2, e3, e4⟩ := ih n (k + 1) f1 H1 (by omega) (by omega) (HM_fr hM a4) a2 (HS_round a3)
    refine ⟨f', H', ?_, e2, e3, fun a j q => by rw [e4 a j q, a4 a j q]⟩
    unfold lp_X9_hours_38
    simp (disch := omega) only [l4, ly, show ¬ 4 ≤ k by omega, a1, o1s, pn, nI_1, if_true, if_false, ↓reduceIte, Bool.false_eq_true, reduceCtorEq]
    exact e1
theorem m17 (z1 : Int32) : ∀ (r n k : Nat) (f : pd_M), k + r = 4 → r < n → ∃ f', lp_X9_hours_17 n z1 (nI k) f = some f' ∧ (∀ u, k ≤ u → u < 4 → f' 139 u = -1000000) ∧ (∀ a j, ¬ (a = 139 ∧ k ≤ j) → f' a j = f a j) := by
  intro r
  induction r with
  | zero =>
    intro n k f h1 h2
    obtain ⟨n, rfl⟩ : ∃ k, n = k + 1 := ⟨n - 1, by omega⟩
    refine ⟨f, ?_, fun u q1 q2 => absurd q2 (by omega), fun _ _ _ => rfl⟩
    unfold lp_X9_hours_17
    simp (disch := omega) only [l4, ly, show 4 ≤ k by omega, if_true, if_false, ↓reduceIte, Bool.false_eq_true, reduceCtorEq]
  | succ r ih =>
    intro n k f h1 h2
    obtain ⟨n, rfl⟩ : ∃ k, n = k + 1 := ⟨n - 1, by omega⟩
    obtain ⟨f', e1, e2, e3⟩ := ih n (k + 1) (pi_up f 139 k (-1000000)) (by omega) (by omega)
    refine ⟨f', ?_, fun u q1 q2 => ?_, fun a j q => by rw [e3 a j (by omega), pu_n (by omega)]⟩
    · unfold lp_X9_hours_17
      simp (disch := omega) only [l4, ly, show ¬ 4 ≤ k by omega, zp, nI_clamp, pn, nI_1, if_true, if_false, ↓reduceIte, Bool.false_eq_true, reduceCtorEq]
      exact e1
    · by_cases e : u = k
      · subst e
        rw [e3 139 u (by omega), pu_s]
      · exact e2 u (by omega) q2
end
theorem op_hours {f : pd_M} (hT : Td f) (p : Int32) : ∃ r f2, fn_X8_hours p f = some r ∧ fn_X9_hours p f = some (r, f2) ∧ ∀ a k, a ≠ 139 → ¬ (a = 110 ∧ k = 0) → f2 a k = f a k := by
  rcases q_ix p (n := 4) (by decide) with h | ⟨s, hs, rfl⟩
  · refine ⟨-1000001, pi_up f 110 0 0, ?_, ?_, fun a k q1 q2 => pu_n (by omega)⟩
    · unfold fn_X8_hours
      rw [if_pos (show fn_X8_isBelow p 4 = 0 from qB_out (n := 4) (by decide) h)]
    · unfold fn_X9_hours
      simp only [pn, ser_out h, o1s, if_true]
  have hB : fn_X8_isBelow (nI s) 4 = 1 := qB_in (n := 4) hs (by decide)
  obtain ⟨O, C, hM⟩ : ∃ O C, HM f O C := by
    refine ⟨fun s => if s < 4 then (if f 132 s = -1000000 then none else some (f 132 s).toNatClampNeg) else none, fun s => if s < 4 then vw f 133 s else 0, fun s hs => ?_, fun s h e => ?_, fun s => ?_⟩
    · obtain ⟨a1, a2, a3, a4, a5⟩ := hT.2.2.2.2.2.2.2 s hs
      simp only [if_pos hs]
      have eo : f 132 s = oI (if f 132 s = -1000000 then none else some (f 132 s).toNatClampNeg) := by
        rcases a2 with z | ⟨h, h1, h2⟩
        · rw [if_pos z]; exact z
        · rw [h2, if_neg (by rw [zj (by omega)]; exact id), nI_clamp (by omega)]
          rfl
      exact ⟨by rw [a1]; exact eo, by rw [a3]; exact a4, eo, a4⟩
    · by_cases hs : s < 4
      · obtain ⟨a1, a2, -⟩ := hT.2.2.2.2.2.2.2 s hs
        simp only [if_pos hs] at e
        rcases a2 with z | ⟨x, h1, h2⟩
        · rw [if_pos z] at e; cases e
        · rw [h2, if_neg (by rw [zj (by omega)]; exact id), nI_clamp (by omega)] at e
          cases e
          exact h1
      · simp only [if_neg hs] at e
        cases e
    · by_cases hs : s < 4
      · simp only [if_pos hs]
        exact (hT.2.2.2.2.2.2.2 s hs).2.2.2.2
      · simp only [if_neg hs]
        omega
  have c1 := ah_5 hM hs
  have c1 : fn_X8_addHours_5 40 (nI s) 0 f = some (oI (hC O C 4 s)) := c1
  obtain ⟨f1, a1, a2, a3⟩ := m17 (nI s) 4 5000 0 (pi_up f 110 0 0) (by omega) (by omega)
  have a1 : lp_X9_hours_17 5000 (nI s) 0 (pi_up f 110 0 0) = some f1 := a1
  have hM1 : HM f1 O C := by
    refine ⟨fun s hs => ?_, hM.2⟩
    rw [a3 43 s (by omega), a3 44 s (by omega), a3 132 s (by omega), a3 133 s (by omega), pu_n (by omega), pu_n (by omega), pu_n (by omega), pu_n (by omega)]
    exact hM.1 s hs
  obtain ⟨f2, H, b1, b2, b3, b4⟩ := m38 (O := O) (C := C) (nI s) 4 5000 0 f1 (fun _ => none) (by omega) (by omega) hM1 (fun u hu => a2 u (by omega) hu) ⟨fun u hu v hv => (by cases hv), fun u hu v hv => (by cases hv), fun u hu => absurd hu (by omega)⟩
  have b1 : lp_X9_hours_38 5000 (nI s) 0 f1 = some f2 := b1
  have hH : H s = hC O C 4 s := by
    cases h : hC O C 4 s with
    | some v => exact b3.2.1 s hs v h
    | none =>
      cases h2 : H s with
      | none => rfl
      | some v => rw [b3.1 s hs v h2] at h; cases h
  refine ⟨oI (hC O C 4 s), f2, ?_, ?_, fun a k q1 q2 => by rw [b4 a k q1, a3 a k (by omega), pu_n (by omega)]⟩
  · unfold fn_X8_hours
    rw [hB, if_neg o10.mp, c1, o1s]
  · unfold fn_X9_hours
    simp (disch := omega) only [pn, ser_in hs, o1s, o10, a1, b1, zp, nI_clamp, b2 s hs, hH, if_true, if_false, ↓reduceIte, Bool.false_eq_true, reduceCtorEq]
