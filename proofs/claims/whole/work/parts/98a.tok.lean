/-! PURE: tokens (rows wb_ are pasted from kit/laws) -/
def isL (b : Nat) : Bool := decide (97 ≤ b ∧ b ≤ 122)
def isF (b : Nat) : Bool := decide (48 ≤ b ∧ b ≤ 57)
def isW (b : Nat) : Bool := decide (b = 32 ∨ b = 10)
def sg (b : Nat) : Int32 := (nI b).toInt8.toInt32
theorem sg_L : ∀ b, b < 256 → fn_X6_isLetter (sg b) = if isL b = true then 1 else 0 := by decide +kernel
theorem sg_F : ∀ b, b < 256 → fn_X6_isFigure (sg b) = if isF b = true then 1 else 0 := by decide +kernel
theorem mb_L : ∀ b, b < 256 → fn_X9_isLetter (nI b) = if isL b = true then 1 else 0 := by decide +kernel
theorem mb_F : ∀ b, b < 256 → fn_X9_isFigure (nI b) = if isF b = true then 1 else 0 := by decide +kernel
theorem sg_32 : ∀ b, b < 256 → (sg b = 32 ↔ b = 32) := by decide +kernel
theorem sg_10 : ∀ b, b < 256 → (sg b = 10 ↔ b = 10) := by decide +kernel
theorem sg_59 : ∀ b, b < 256 → (sg b = 59 ↔ b = 59) := by decide +kernel
theorem sg_is : ∀ b, b < 256 → (isL b = true ∨ isF b = true) → sg b = nI b := by decide +kernel
theorem sg_fi : ∀ b, b < 256 → isF b = true → sg b - 48 = nI (b - 48) ∧ b - 48 < 10 := by decide +kernel
theorem t8 : ∀ v, v < 128 → (nI v).toInt8.toInt32.toInt8.toInt32 = nI v := by decide +kernel
theorem t16 : ∀ v, v < 501 → (nI v).toInt16.toInt32.toInt16.toInt32 = nI v := by decide +kernel
theorem c255 : ∀ v, v < 128 → ((nI v &&& 255).toUInt32 % 65536).toInt32 = nI v := by decide +kernel
theorem o1s {α δ : Type} (a : α) (k : α → Option δ) : ob1 (some a) k = k a := rfl
theorem o2s {α β δ : Type} (a : α) (b : β) (k : α → β → Option δ) : ob2 (some (a, b)) k = k a b := rfl
theorem o3s {α β γ δ : Type} (a : α) (b : β) (x : γ) (k : α → β → γ → Option δ) : ob3 (some (a, b, x)) k = k a b x := rfl
theorem l32 : (32 : Int32) = nI 32 := rfl
theorem l10 : (10 : Int32) = nI 10 := rfl
theorem l48 : (48 : Int32) = nI 48 := rfl
theorem l59 : (59 : Int32) = nI 59 := rfl
theorem l100 : (100 : Int32) = nI 100 := rfl
theorem l101 : (101 : Int32) = nI 101 := rfl
theorem l102 : (102 : Int32) = nI 102 := rfl
theorem l103 : (103 : Int32) = nI 103 := rfl
theorem l104 : (104 : Int32) = nI 104 := rfl
theorem l105 : (105 : Int32) = nI 105 := rfl
theorem l106 : (106 : Int32) = nI 106 := rfl
theorem l107 : (107 : Int32) = nI 107 := rfl
theorem l108 : (108 : Int32) = nI 108 := rfl
theorem l109 : (109 : Int32) = nI 109 := rfl
theorem l31 : (31 : Int32) = nI 31 := rfl
theorem l1_ : (1 : Int32) = nI 1 := rfl
/-- white space is passed over -/
def skp (L : Nat) (B : Nat → Nat) (c : Nat) : Nat := ff (fun i => !isW (B i)) (L - c) c
def tke (L : Nat) (B : Nat → Nat) (s : Nat) : Nat := if L ≤ s then s else if isL (B s) = true then ff (fun i => !isL (B i)) (L - s) s else if isF (B s) = true then ff (fun i => !isF (B i)) (L - s) s else s + 1
def wv (B : Nat → Nat) : Nat → Nat → Nat → Nat
  | _, 0, v => v
  | k, r + 1, v => wv B (k + 1) r (v * 256 + B k)
def wcd (v : Nat) : Nat := if v = 2003330414 then 106 else if v = 1734964837 then 108 else if v = 125779836236645 then 107 else if v = 126862485974631 then 103 else if v = 28539376735186798 then 102 else if v = 7631481 then 104 else if v = 131294808271214 then 105 else 109
def kd (L : Nat) (B : Nat → Nat) (s : Nat) : Nat := if L ≤ s then 1 else if isL (B s) = true then 2 else if isF (B s) = true then (if tke L B s - s ≤ 2 then 3 else 0) else if B s = 59 then 4 else 0
def wvs (L : Nat) (B : Nat → Nat) (s : Nat) : Nat := if kd L B s = 2 ∧ tke L B s - s < 8 then wv B s (tke L B s - s) 0 else 0
def cod (L : Nat) (B : Nat → Nat) (s : Nat) : Nat := if L ≤ s then 100 else if isL (B s) = true then wcd (wvs L B s) else if isF (B s) = true then (if tke L B s - s = 1 then B s - 48 else if tke L B s - s = 2 then 10 * (B s - 48) + (B (s + 1) - 48) else 109) else if B s = 59 then 101 else 109
/-- where the tokens begin -/
def Pp (L : Nat) (B : Nat → Nat) : Nat → Nat
  | 0 => skp L B 0
  | i + 1 => skp L B (tke L B (Pp L B i))
theorem ff_step {p : Nat → Bool} {r k : Nat} (h : p k = false) : ff p (r + 1) k = ff p r (k + 1) := by
  rw [ff, if_neg (by rw [h]; decide)]
theorem ff_here {p : Nat → Bool} {r k : Nat} (h : p k = true) : ff p (r + 1) k = k := by
  rw [ff, if_pos h]
theorem skp_le (L : Nat) (B : Nat → Nat) {c : Nat} (h : c ≤ L) : c ≤ skp L B c ∧ skp L B c ≤ L := by
  have := ff_le (fun i => !isW (B i)) (L - c) c
  unfold skp
  omega
theorem skp_no {L : Nat} {B : Nat → Nat} {c : Nat} (h : skp L B c < L) (hc : c ≤ L) : isW (B (skp L B c)) = false := by
  have := ff_yes (fun i => !isW (B i)) (L - c) c (by unfold skp at h; omega)
  simpa [skp] using this
theorem tke_le {L : Nat} {B : Nat → Nat} {s : Nat} (h : s < L) : s + 1 ≤ tke L B s ∧ tke L B s ≤ L := by
  unfold tke
  rw [if_neg (by omega)]
  by_cases h1 : isL (B s) = true
  · rw [if_pos h1, show L - s = (L - (s + 1)) + 1 by omega, ff_step (by simp [h1])]
    have := ff_le (fun i => !isL (B i)) (L - (s + 1)) (s + 1)
    omega
  · rw [if_neg h1]
    by_cases h2 : isF (B s) = true
    · rw [if_pos h2, show L - s = (L - (s + 1)) + 1 by omega, ff_step (by simp [h2])]
      have := ff_le (fun i => !isF (B i)) (L - (s + 1)) (s + 1)
      omega
    · rw [if_neg h2]
      omega
theorem tke_L {L : Nat} {B : Nat → Nat} {s : Nat} (h : s ≤ L) : tke L B s ≤ L := by
  by_cases e : s < L
  · exact (tke_le e).2
  · unfold tke
    rw [if_pos (by omega)]
    exact h
theorem Pp_le (L : Nat) (B : Nat → Nat) : ∀ i, Pp L B i ≤ L
  | 0 => (skp_le L B (Nat.zero_le _)).2
  | i + 1 => (skp_le L B (tke_L (Pp_le L B i))).2
theorem wcd_lt (v : Nat) : 102 ≤ wcd v ∧ wcd v ≤ 109 := by
  unfold wcd
  repeat' split
  all_goals omega
theorem isF_b {b : Nat} (h : isF b = true) : 48 ≤ b ∧ b ≤ 57 := of_decide_eq_true h
theorem isL_b {b : Nat} (h : isL b = true) : 97 ≤ b ∧ b ≤ 122 := of_decide_eq_true h
theorem fig2 {L : Nat} {B : Nat → Nat} {s : Nat} (h : s < L) (h1 : isL (B s) = false) (h2 : isF (B s) = true) (e : tke L B s - s = 2) : isF (B (s + 1)) = true := by
  unfold tke at e
  rw [if_neg (by omega), if_neg (by rw [h1]; decide), if_pos h2] at e
  have := ff_no (fun i => !isF (B i)) (L - s) s (s + 1) (by omega) (by omega)
  simpa using this
theorem cod_lt (L : Nat) (B : Nat → Nat) (s : Nat) : cod L B s ≤ 109 ∧ (cod L B s ≤ 99 ↔ kd L B s = 3) ∧ (cod L B s = 100 ↔ kd L B s = 1) ∧ (cod L B s = 101 ↔ kd L B s = 4) := by
  unfold cod kd
  by_cases h0 : L ≤ s
  · simp only [h0, if_true]
    decide
  · rw [if_neg h0, if_neg h0]
    by_cases h1 : isL (B s) = true
    · rw [if_pos h1, if_pos h1]
      have := wcd_lt (wvs L B s)
      omega
    · rw [if_neg h1, if_neg h1]
      have h1 := Bool.eq_false_iff.mpr h1
      by_cases h2 : isF (B s) = true
      · rw [if_pos h2, if_pos h2]
        have t := tke_le (B := B) (show s < L by omega)
        have a := isF_b h2
        by_cases e1 : tke L B s - s = 1
        · rw [if_pos e1, if_pos (by omega)]
          omega
        · rw [if_neg e1]
          by_cases e2 : tke L B s - s = 2
          · have b := isF_b (fig2 (by omega) h1 h2 e2)
            rw [if_pos e2, if_pos (by omega)]
            omega
          · rw [if_neg e2, if_neg (by omega)]
            omega
      · rw [if_neg h2, if_neg h2]
        by_cases e : B s = 59
        · rw [if_pos e, if_pos e]
          omega
        · rw [if_neg e, if_neg e]
          omega
/-- the words -/
theorem cod_w {L : Nat} {B : Nat → Nat} {s : Nat} : (wvs L B s = 2003330414 ↔ cod L B s = 106) ∧ (wvs L B s = 1734964837 ↔ cod L B s = 108) ∧ (wvs L B s = 125779836236645 ↔ cod L B s = 107) ∧ (wvs L B s = 126862485974631 ↔ cod L B s = 103) ∧ (wvs L B s = 28539376735186798 ↔ cod L B s = 102) ∧ (wvs L B s = 7631481 ↔ cod L B s = 104) ∧ (wvs L B s = 131294808271214 ↔ cod L B s = 105) := by
  by_cases k : kd L B s = 2
  · have e : cod L B s = wcd (wvs L B s) := by
      unfold kd at k
      unfold cod
      by_cases h0 : L ≤ s
      · rw [if_pos h0] at k; omega
      · rw [if_neg h0] at k ⊢
        by_cases h1 : isL (B s) = true
        · rw [if_pos h1]
        · rw [if_neg h1] at k
          repeat' split at k
          all_goals omega
    rw [e]
    generalize wvs L B s = v
    unfold wcd
    repeat' split
    all_goals omega
  · have e : wvs L B s = 0 := by
      unfold wvs
      rw [if_neg (fun z => k z.1)]
    have e2 : cod L B s ≤ 101 ∨ cod L B s = 109 := by
      unfold kd at k
      unfold cod
      by_cases h0 : L ≤ s
      · rw [if_pos h0]; omega
      · rw [if_neg h0] at k ⊢
        by_cases h1 : isL (B s) = true
        · rw [if_pos h1] at k; omega
        · rw [if_neg h1]
          have h1 := Bool.eq_false_iff.mpr h1
          by_cases h2 : isF (B s) = true
          · rw [if_pos h2]
            have a := isF_b h2
            by_cases e1 : tke L B s - s = 1
            · rw [if_pos e1]; omega
            · rw [if_neg e1]
              by_cases e2 : tke L B s - s = 2
              · have b := isF_b (fig2 (by omega) h1 h2 e2)
                rw [if_pos e2]; omega
              · rw [if_neg e2]; omega
          · rw [if_neg h2]
            split <;> omega
    rw [e]
    omega
theorem wb_tb (n : Nat) : (lN n).toBitVec = BitVec.ofNat 64 n := rfl
theorem wb_inj {a b : Int64} (h : a.toBitVec = b.toBitVec) : a = b := Int64.toBitVec_inj.mp h
theorem wb_c : ∀ k, k < 64 → ((nI k).toInt64 &&& 63) = lN k := by decide +kernel
theorem wb_sm : ∀ k, k < 64 → (BitVec.ofNat 64 k).smod 64 = BitVec.ofNat 64 k := by decide +kernel
theorem wb_shl (n : Nat) {k : Nat} (hk : k < 64) : lN n <<< ((nI k).toInt64 &&& 63) = lN (n * 2 ^ k) := by
  rw [wb_c k hk]
  apply wb_inj
  rw [Int64.toBitVec_shiftLeft, wb_tb, wb_tb, wb_tb, wb_sm k hk]
  apply BitVec.eq_of_toNat_eq
  rw [BitVec.shiftLeft_eq', BitVec.toNat_shiftLeft, BitVec.toNat_ofNat, BitVec.toNat_ofNat, BitVec.toNat_ofNat, Nat.mod_eq_of_lt (show k < 2 ^ 64 by omega), Nat.shiftLeft_eq, Nat.mul_mod, Nat.mod_mod, ← Nat.mul_mod]
theorem fb_orL (a b : Nat) : lN a ||| lN b = lN (a ||| b) := by
  apply Int64.toBitVec_inj.1
  show BitVec.ofNat 64 a ||| BitVec.ofNat 64 b = BitVec.ofNat 64 (a ||| b)
  apply BitVec.eq_of_getLsbD_eq
  intro i hi
  simp [hi]
theorem q_push (v b : Nat) (hb : b < 256) : (lN v <<< ((8 : Int32).toInt64 &&& 63)) ||| (nI b).toInt64 = lN (v * 256 + b) := by
  rw [l8, wb_shl v (by decide), nI_l (by omega), fb_orL, ← Nat.shiftLeft_eq, ← Nat.shiftLeft_add_eq_or_of_lt (show b < 2 ^ 8 by omega), Nat.shiftLeft_eq]
theorem q_cmp0 (a b : Nat) (ha : a < 2 ^ 63) (hb : b < 2 ^ 63) : (lg_cmp (lN a) (lN b) = 0) = (a = b) := by
  unfold lg_cmp
  by_cases h1 : lN a > lN b
  · rw [if_pos h1]
    have := (pk_lLT hb ha).mp h1
    exact propext ⟨fun z => absurd z (by decide), fun z => by omega⟩
  · rw [if_neg h1]
    have h2 := fun z => h1 ((pk_lLT hb ha).mpr z)
    by_cases h3 : lN a = lN b
    · rw [if_pos h3]
      exact propext ⟨fun _ => (pk_lEQ ha hb).mp h3, fun _ => rfl⟩
    · rw [if_neg h3]
      exact propext ⟨fun z => absurd z (by decide), fun z => absurd ((pk_lEQ ha hb).mpr z) h3⟩
