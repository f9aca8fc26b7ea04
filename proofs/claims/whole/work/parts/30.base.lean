/-! THE HEAP BEHIND THE CONSTRUCTORS: its cells and references never change any more, only the ints do. -/
abbrev pd_M : Type := Nat → Nat → Int32
def SH : List (Nat × Nat) := [(18, 9), (4, 8), (15, 4), (0, 40), (15, 4), (0, 40), (15, 4), (0, 40), (15, 4), (0, 40), (15, 4), (0, 40), (15, 4), (0, 40), (15, 4), (0, 40), (15, 4), (0, 40), (16, 4), (1, 500), (1, 501), (2, 501), (17, 4), (12, 5), (0, 4), (0, 16), (0, 4), (0, 4), (5, 20), (6, 16), (0, 4), (14, 9), (14, 9), (14, 9), (14, 9), (14, 9), (14, 9), (14, 9), (14, 9), (14, 9), (14, 9), (14, 9), (14, 9), (14, 9), (14, 9), (14, 9), (14, 9), (14, 9), (14, 9), (14, 9), (14, 9), (10, 2), (0, 24), (10, 2), (0, 24), (10, 2), (0, 24), (10, 2), (0, 24), (10, 2), (0, 24), (10, 2), (0, 24), (10, 2), (0, 24), (10, 2), (0, 24), (10, 2), (0, 24), (10, 2), (0, 24), (10, 2), (0, 24), (10, 2), (0, 24), (10, 2), (0, 24), (10, 2), (0, 24), (10, 2), (0, 24), (10, 2), (0, 24), (13, 5), (12, 5), (0, 4), (0, 16), (0, 4), (0, 4), (11, 4), (0, 625), (0, 625), (0, 16), (19, 44), (0, 8), (0, 8), (0, 320), (0, 4), (0, 4), (0, 16), (0, 96), (0, 96), (0, 96), (0, 96), (0, 20), (0, 20), (0, 20), (0, 20), (0, 20), (0, 20), (3, 20), (0, 20), (0, 80), (0, 16), (0, 16), (0, 4), (0, 4), (0, 4), (0, 4), (0, 500), (0, 625), (0, 625), (0, 4), (0, 16)]
def MRL : List (List Nat) := [[19, 36, 40, 101, 107, 110], [20, 22, 24, 26, 28, 30, 32, 34], [21], [], [23], [], [25], [], [27], [], [29], [], [31], [], [33], [], [35], [], [37, 38, 39], [], [], [], [41, 46, 47, 48], [42, 43, 44, 45], [], [], [], [], [49, 50, 51, 52, 53, 54, 55, 56, 57, 58, 59, 60, 61, 62, 63, 64, 65, 66, 67, 68], [69, 71, 73, 75, 77, 79, 81, 83, 85, 87, 89, 91, 93, 95, 97, 99], [], [], [], [], [], [], [], [], [], [], [], [], [], [], [], [], [], [], [], [], [], [70], [], [72], [], [74], [], [76], [], [78], [], [80], [], [82], [], [84], [], [86], [], [88], [], [90], [], [92], [], [94], [], [96], [], [98], [], [100], [], [36, 40, 102], [103, 104, 105, 106], [], [], [], [], [40, 108, 109], [], [], [], [0, 0, 112, 113, 114, 115, 116, 117, 118, 119, 120, 121, 0, 0, 122, 123, 124, 125, 126, 127, 128, 129, 130, 131, 132, 133, 134, 135, 136, 137, 0, 0, 0, 0, 0, 0, 0, 0, 0, 138, 139, 140, 141], [], [], [], [], [], [], [], [], [], [], [], [], [], [], [], [], [], [], [], [], [], [], [], [], [], [], [], [], [], []]
def MR (a k : Nat) : Nat := (MRL.getD (a - 17) []).getD k 0
abbrev hH (f : pd_M) : ph_T := (SH, MR, f)
def sk (a : Nat) : Nat × Nat := SH.getD (a - 17) (99, 0)
theorem ge_of {a k n : Nat} (h : sk a = (k, n)) (hk : k ≠ 18) : 17 ≤ a := by
  by_cases ha : a < 17
  · exfalso
    unfold sk at h
    rw [show a - 17 = 0 by omega] at h
    have : (18, 9) = (k, n) := h
    cases this
    exact hk rfl
  · omega
theorem sh_of {L : Nat} {f : pd_M} {a k n : Nat} (h : sk a = (k, n)) (hk : k ≠ 18) : ps_sh L (hH f) a = (k, n) := by
  have := ge_of h hk
  unfold ps_sh
  rw [if_neg (by omega)]
  exact h
theorem sh_str {L : Nat} {f : pd_M} {a : Nat} (h : 3 ≤ a ∧ a < 10) : ps_sh L (hH f) a = (20, 2) := by
  unfold ps_sh
  rw [if_pos (by omega)]
  rcases (by omega : a = 3 ∨ a = 4 ∨ a = 5 ∨ a = 6 ∨ a = 7 ∨ a = 8 ∨ a = 9) with rfl | rfl | rfl | rfl | rfl | rfl | rfl <;> rfl
theorem str_lt {a : Nat} (h : 3 ≤ a ∧ a < 10) : a < 17 := by omega
theorem lt_of_in {i : Int32} {n : Nat} (h : pa_in i n = true) : i.toNatClampNeg < n := by
  have := pa_in_iff.mp h
  unfold vp_in at this
  omega
theorem sh_ge {L : Nat} {f : pd_M} {a k n : Nat} (h : ps_sh L (hH f) a = (k, n)) (h1 : 10 ≤ k) (h2 : k < 20) : 17 ≤ a := by
  by_cases ha : a < 17
  · exfalso
    rw [ps_sh_ext ha] at h
    have h3 : (px_sh L a).1 = k := by rw [h]
    rcases px_kinds a ha L with z | z | z <;> omega
  · omega
theorem fr_15_0 : ∀ a, a < 141 → sk a = (15, 4) → MR a 0 = a + 1 + 1 ∧ sk (a + 1) = (0, 40) := by decide +kernel
theorem fr_10_0 : ∀ a, a < 141 → sk a = (10, 2) → MR a 0 = a + 1 + 1 ∧ sk (a + 1) = (0, 24) := by decide +kernel
theorem fr_12_0 : ∀ a, a < 141 → sk a = (12, 5) → MR a 0 = a + 1 + 1 ∧ sk (a + 1) = (0, 4) := by decide +kernel
theorem fr_12_1 : ∀ a, a < 141 → sk a = (12, 5) → MR a 1 = a + 2 + 1 ∧ sk (a + 2) = (0, 16) := by decide +kernel
theorem fr_12_2 : ∀ a, a < 141 → sk a = (12, 5) → MR a 2 = a + 3 + 1 ∧ sk (a + 3) = (0, 4) := by decide +kernel
theorem fr_12_3 : ∀ a, a < 141 → sk a = (12, 5) → MR a 3 = a + 4 + 1 ∧ sk (a + 4) = (0, 4) := by decide +kernel
theorem sk_lt {a k n : Nat} (h : sk a = (k, n)) (hk : k ≠ 99) : a < 141 := by
  by_cases ha : a < 141
  · exact ha
  · exfalso
    unfold sk at h
    rw [List.getD_eq_getElem?_getD, List.getElem?_eq_none (by show 124 ≤ a - 17; omega)] at h
    cases h
    exact hk rfl
theorem ref_15_0 {a : Nat} (h : sk a = (15, 4)) : MR a 0 = a + 1 + 1 := (fr_15_0 a (sk_lt h (by decide)) h).1
theorem fam_15_0 {a : Nat} (h : sk a = (15, 4)) : sk (a + 1) = (0, 40) := (fr_15_0 a (sk_lt h (by decide)) h).2
theorem ref_10_0 {a : Nat} (h : sk a = (10, 2)) : MR a 0 = a + 1 + 1 := (fr_10_0 a (sk_lt h (by decide)) h).1
theorem fam_10_0 {a : Nat} (h : sk a = (10, 2)) : sk (a + 1) = (0, 24) := (fr_10_0 a (sk_lt h (by decide)) h).2
theorem ref_12_0 {a : Nat} (h : sk a = (12, 5)) : MR a 0 = a + 1 + 1 := (fr_12_0 a (sk_lt h (by decide)) h).1
theorem fam_12_0 {a : Nat} (h : sk a = (12, 5)) : sk (a + 1) = (0, 4) := (fr_12_0 a (sk_lt h (by decide)) h).2
theorem ref_12_1 {a : Nat} (h : sk a = (12, 5)) : MR a 1 = a + 2 + 1 := (fr_12_1 a (sk_lt h (by decide)) h).1
theorem fam_12_1 {a : Nat} (h : sk a = (12, 5)) : sk (a + 2) = (0, 16) := (fr_12_1 a (sk_lt h (by decide)) h).2
theorem ref_12_2 {a : Nat} (h : sk a = (12, 5)) : MR a 2 = a + 3 + 1 := (fr_12_2 a (sk_lt h (by decide)) h).1
theorem fam_12_2 {a : Nat} (h : sk a = (12, 5)) : sk (a + 3) = (0, 4) := (fr_12_2 a (sk_lt h (by decide)) h).2
theorem ref_12_3 {a : Nat} (h : sk a = (12, 5)) : MR a 3 = a + 4 + 1 := (fr_12_3 a (sk_lt h (by decide)) h).1
theorem fam_12_3 {a : Nat} (h : sk a = (12, 5)) : sk (a + 4) = (0, 4) := (fr_12_3 a (sk_lt h (by decide)) h).2
theorem arr_18 : ∀ j, j < 8 → sk (19 + 2 * j) = (15, 4) ∧ MR 18 j = 19 + 2 * j + 1 := by decide +kernel
theorem arr_sh_18 {j : Nat} (h : j < 8) : sk (19 + 2 * j) = (15, 4) := (arr_18 j h).1
theorem arr_rf_18 {j : Nat} (h : j < 8) : MR 18 j = 19 + 2 * j + 1 := (arr_18 j h).2
theorem arr_45 : ∀ j, j < 20 → sk (48 + j) = (14, 9) ∧ MR 45 j = 48 + j + 1 := by decide +kernel
theorem arr_sh_45 {j : Nat} (h : j < 20) : sk (48 + j) = (14, 9) := (arr_45 j h).1
theorem arr_rf_45 {j : Nat} (h : j < 20) : MR 45 j = 48 + j + 1 := (arr_45 j h).2
theorem arr_46 : ∀ j, j < 16 → sk (68 + 2 * j) = (10, 2) ∧ MR 46 j = 68 + 2 * j + 1 := by decide +kernel
theorem arr_sh_46 {j : Nat} (h : j < 16) : sk (68 + 2 * j) = (10, 2) := (arr_46 j h).1
theorem arr_rf_46 {j : Nat} (h : j < 16) : MR 46 j = 68 + 2 * j + 1 := (arr_46 j h).2
def pd_oki (kind n k : Nat) : Bool := decide (10 ≤ kind ∧ kind < 20 ∧ k < n) && decide (pf_ty (kind - 10) k ≠ 1)
def pd_okr (kind n k : Nat) : Bool := decide (10 ≤ kind ∧ kind < 20 ∧ k < n) && decide (pf_ty (kind - 10) k = 1)
def pd_okp (t kind n k : Nat) : Bool := decide (10 ≤ kind ∧ kind < 20 ∧ k < n) && decide (pf_ty (kind - 10) k = t)
section DG
variable {L : Nat} {f : pd_M} {a b k kind n j : Nat} {i x : Int32}
theorem gd_i (hsh : ps_sh L (hH f) a = (kind, n)) (hk : pd_oki kind n k = true) : pg_get L (hH f) a k kind = some (.int (f a k)) := by
  unfold pd_oki at hk
  simp only [Bool.and_eq_true, decide_eq_true_eq] at hk
  unfold pg_get
  rw [hsh]
  rw [if_pos rfl, if_neg (by omega), if_pos ⟨hk.1.1, hk.1.2.1, hk.1.2.2⟩, if_neg hk.2]
theorem gd_r (hsh : ps_sh L (hH f) a = (kind, n)) (hk : pd_okr kind n k = true) (hr : MR a k = b + 1) : pg_get L (hH f) a k kind = some (.ref b) := by
  unfold pd_okr at hk
  simp only [Bool.and_eq_true, decide_eq_true_eq] at hk
  unfold pg_get
  rw [hsh]
  rw [if_pos rfl, if_neg (by omega), if_pos ⟨hk.1.1, hk.1.2.1, hk.1.2.2⟩, if_pos hk.2]
  show (if MR a k = 0 then none else some (Value.ref (MR a k - 1))) = _
  rw [hr, if_neg (by omega)]
  rfl
theorem gd_pi (hsh : ps_sh L (hH f) a = (kind, n)) (hk : pd_okp 0 kind n k = true) : pg_put L (hH f) a k kind (.int x) = some (hH (pi_up f a k x)) := by
  unfold pd_okp at hk
  simp only [Bool.and_eq_true, decide_eq_true_eq] at hk
  have h17 := sh_ge hsh hk.1.1 hk.1.2.1
  unfold pg_put
  rw [hsh, if_pos ⟨h17, rfl, hk.1.1, hk.1.2.1, hk.1.2.2⟩]
  show (if pf_ty (kind - 10) k = 0 ∨ _ then _ else _) = _
  rw [if_pos (Or.inl hk.2)]
theorem gd_pz (hsh : ps_sh L (hH f) a = (kind, n)) (hk : pd_okp 2 kind n k = true) (hx : x = 0 ∨ x = 1) : pg_put L (hH f) a k kind (.int x) = some (hH (pi_up f a k x)) := by
  unfold pd_okp at hk
  simp only [Bool.and_eq_true, decide_eq_true_eq] at hk
  have h17 := sh_ge hsh hk.1.1 hk.1.2.1
  unfold pg_put
  rw [hsh, if_pos ⟨h17, rfl, hk.1.1, hk.1.2.1, hk.1.2.2⟩]
  show (if pf_ty (kind - 10) k = 0 ∨ _ then _ else _) = _
  rw [if_pos (Or.inr ⟨hk.2, hx⟩)]
theorem gd_ld {ks : List Nat} (hsh : ps_sh L (hH f) a = (kind, n)) (hk : kind ∈ ks) (hin : pa_in i n = true) (hj : i.toNatClampNeg = j) : pa_ld L (hH f) ks a i = some (.int (f a j)) := by
  unfold pa_ld
  rw [hsh, if_pos ⟨hk, hin⟩, hj]
theorem gd_ia (hsh : ps_sh L (hH f) a = (0, n)) (hin : pa_in i n = true) (hj : i.toNatClampNeg = j) : pa_ld L (hH f) [0] a i = some (.int (f a j)) := gd_ld hsh (by simp) hin hj
theorem gd_ba (hsh : ps_sh L (hH f) a = (1, n)) (hin : pa_in i n = true) (hj : i.toNatClampNeg = j) : pa_ld L (hH f) [1, 3] a i = some (.int (f a j)) := gd_ld hsh (by simp) hin hj
theorem gd_za (hsh : ps_sh L (hH f) a = (3, n)) (hin : pa_in i n = true) (hj : i.toNatClampNeg = j) : pa_ld L (hH f) [1, 3] a i = some (.int (f a j)) := gd_ld hsh (by simp) hin hj
theorem gd_sa (hsh : ps_sh L (hH f) a = (2, n)) (hin : pa_in i n = true) (hj : i.toNatClampNeg = j) : pa_ld L (hH f) [2] a i = some (.int (f a j)) := gd_ld hsh (by simp) hin hj
theorem gd_aa (hsh : ps_sh L (hH f) a = (kind, n)) (h17 : 17 ≤ a) (hk : decide (kind ∈ [4, 5, 6]) = true) (hin : pa_in i n = true) (hj : i.toNatClampNeg = j) (hr : MR a j = b + 1) : pa_ldr L (hH f) a i = some (.ref b) := by
  unfold pa_ldr
  rw [hsh, hj]
  show (if 17 ≤ a ∧ kind ∈ [4, 5, 6] ∧ pa_in i n = true ∧ MR a j ≠ 0 then some (Value.ref (MR a j - 1)) else none) = _
  rw [hr, if_pos ⟨h17, of_decide_eq_true hk, hin, by omega⟩]
  rfl
theorem gd_st {ks : List Nat} (hsh : ps_sh L (hH f) a = (kind, n)) (h17 : 17 ≤ a) (hk : kind ∈ ks) (hin : pa_in i n = true) (hj : i.toNatClampNeg = j) : pa_st L (hH f) ks a i x = some (hH (pi_up f a j (pa_nar kind x))) := by
  unfold pa_st
  rw [hsh, if_pos ⟨h17, hk, hin⟩, hj]
theorem gd_si (hsh : ps_sh L (hH f) a = (0, n)) (h17 : 17 ≤ a) (hin : pa_in i n = true) (hj : i.toNatClampNeg = j) : pa_st L (hH f) [0] a i x = some (hH (pi_up f a j x)) := gd_st hsh h17 (by simp) hin hj
theorem gd_sb (hsh : ps_sh L (hH f) a = (1, n)) (h17 : 17 ≤ a) (hin : pa_in i n = true) (hj : i.toNatClampNeg = j) : pa_st L (hH f) [1, 3] a i x = some (hH (pi_up f a j x.toInt8.toInt32)) := by
  rw [← vp_nar_byte]
  exact gd_st hsh h17 (by simp) hin hj
theorem gd_ss (hsh : ps_sh L (hH f) a = (2, n)) (h17 : 17 ≤ a) (hin : pa_in i n = true) (hj : i.toNatClampNeg = j) : pa_st L (hH f) [2] a i x = some (hH (pi_up f a j x.toInt16.toInt32)) := by
  rw [← vp_nar_short]
  exact gd_st hsh h17 (by simp) hin hj
theorem gd_sz (hsh : ps_sh L (hH f) a = (3, n)) (h17 : 17 ≤ a) (hin : pa_in i n = true) (hj : i.toNatClampNeg = j) : pa_st L (hH f) [1, 3] a i x = some (hH (pi_up f a j (vp_nar .boolean x))) := gd_st hsh h17 (by simp) hin hj
theorem gd_len (hsh : ps_sh L (hH f) a = (kind, n)) (hk : Nat.ble kind 6 = true) (hx : Int32.ofNat n = x) : pa_len L (hH f) a = some (.int x) := by
  unfold pa_len
  rw [hsh, if_pos (Nat.le_of_ble_eq_true hk), hx]
def pd_cp (sp dp m : Int32) (n0 n1 : Nat) : Bool := decide (¬ sp < 0 ∧ ¬ dp < 0 ∧ ¬ m < 0 ∧ sp.toNatClampNeg + m.toNatClampNeg ≤ n0 ∧ dp.toNatClampNeg + m.toNatClampNeg ≤ n1)
theorem gd_cp {a0 a1 n0 n1 : Nat} {sp dp m : Int32} (h0 : ps_sh L (hH f) a0 = (0, n0)) (h1 : ps_sh L (hH f) a1 = (0, n1)) (g0 : 17 ≤ a0) (g1 : 17 ≤ a1) (hc : pd_cp sp dp m n0 n1 = true) : pa_cpy L (hH f) a0 sp a1 dp m = some (hH (pi_row f a1 (va_cpy (f a0) (f a1) sp.toNatClampNeg dp.toNatClampNeg m.toNatClampNeg))) := by
  unfold pa_cpy
  rw [h0, h1, if_pos ⟨⟨g0, g1, rfl, rfl⟩, of_decide_eq_true hc⟩]
end DG
def pn {α β : Type} (x : α) (k : α → β) : β := k x
theorem pn_some {α β : Type} {x : α} {k : α → β} {o : β} (h : pn x k = o) : ∃ y, y = x ∧ k y = o := ⟨x, rfl, h⟩
def ob1 {α δ : Type} (x : Option α) (k : α → Option δ) : Option δ := match x with
  | some a => k a
  | none => none
def ob2 {α β δ : Type} (x : Option (α × β)) (k : α → β → Option δ) : Option δ := match x with
  | some (a, b) => k a b
  | none => none
def ob3 {α β γ δ : Type} (x : Option (α × β × γ)) (k : α → β → γ → Option δ) : Option δ := match x with
  | some (a, b, c) => k a b c
  | none => none
def ob4 {α β γ ε δ : Type} (x : Option (α × β × γ × ε)) (k : α → β → γ → ε → Option δ) : Option δ := match x with
  | some (a, b, c, d) => k a b c d
  | none => none
def ob5 {α β γ ε ζ δ : Type} (x : Option (α × β × γ × ε × ζ)) (k : α → β → γ → ε → ζ → Option δ) : Option δ := match x with
  | some (a, b, c, d, e) => k a b c d e
  | none => none
def ob9 {α1 α2 α3 α4 α5 α6 α7 α8 α9 δ : Type} (x : Option (α1 × α2 × α3 × α4 × α5 × α6 × α7 × α8 × α9)) (k : α1 → α2 → α3 → α4 → α5 → α6 → α7 → α8 → α9 → Option δ) : Option δ := match x with
  | some (a1, a2, a3, a4, a5, a6, a7, a8, a9) => k a1 a2 a3 a4 a5 a6 a7 a8 a9
  | none => none
def obu {δ : Type} (x : Option Unit) (k : Unit → Option δ) : Option δ := match x with
  | some _ => k ()
  | none => none
theorem ob1_some {α δ : Type} {x : Option α} {k : α → Option δ} {o : δ} (h : ob1 x k = some o) : ∃ a, x = some a ∧ k a = some o := by
  cases x with
  | none => cases h
  | some a => exact ⟨a, rfl, h⟩
theorem ob2_some {α β δ : Type} {x : Option (α × β)} {k : α → β → Option δ} {o : δ} (h : ob2 x k = some o) : ∃ a b, x = some (a, b) ∧ k a b = some o := by
  cases x with
  | none => cases h
  | some a => exact ⟨a.1, a.2, rfl, h⟩
theorem ob3_some {α β γ δ : Type} {x : Option (α × β × γ)} {k : α → β → γ → Option δ} {o : δ} (h : ob3 x k = some o) : ∃ a b c, x = some (a, b, c) ∧ k a b c = some o := by
  cases x with
  | none => cases h
  | some a => exact ⟨a.1, a.2.1, a.2.2, rfl, h⟩
theorem ob4_some {α β γ ε δ : Type} {x : Option (α × β × γ × ε)} {k : α → β → γ → ε → Option δ} {o : δ} (h : ob4 x k = some o) : ∃ a b c d, x = some (a, b, c, d) ∧ k a b c d = some o := by
  cases x with
  | none => cases h
  | some a => exact ⟨a.1, a.2.1, a.2.2.1, a.2.2.2, rfl, h⟩
theorem ob5_some {α β γ ε ζ δ : Type} {x : Option (α × β × γ × ε × ζ)} {k : α → β → γ → ε → ζ → Option δ} {o : δ} (h : ob5 x k = some o) : ∃ a b c d e, x = some (a, b, c, d, e) ∧ k a b c d e = some o := by
  cases x with
  | none => cases h
  | some a => exact ⟨a.1, a.2.1, a.2.2.1, a.2.2.2.1, a.2.2.2.2, rfl, h⟩
theorem ob9_some {α1 α2 α3 α4 α5 α6 α7 α8 α9 δ : Type} {x : Option (α1 × α2 × α3 × α4 × α5 × α6 × α7 × α8 × α9)} {k : α1 → α2 → α3 → α4 → α5 → α6 → α7 → α8 → α9 → Option δ} {o : δ} (h : ob9 x k = some o) : ∃ a1 a2 a3 a4 a5 a6 a7 a8 a9, x = some (a1, a2, a3, a4, a5, a6, a7, a8, a9) ∧ k a1 a2 a3 a4 a5 a6 a7 a8 a9 = some o := by
  cases x with
  | none => cases h
  | some a => exact ⟨a.1, a.2.1, a.2.2.1, a.2.2.2.1, a.2.2.2.2.1, a.2.2.2.2.2.1, a.2.2.2.2.2.2.1, a.2.2.2.2.2.2.2.1, a.2.2.2.2.2.2.2.2, rfl, h⟩
theorem obu_some {δ : Type} {x : Option Unit} {k : Unit → Option δ} {o : δ} (h : obu x k = some o) : x = some () ∧ k () = some o := by
  cases x with
  | none => cases h
  | some a => exact ⟨rfl, h⟩
def os0 {ρ δ : Type} (x : Option (ρ ⊕ Unit)) (g : ρ → Option δ) (k : Option δ) : Option δ := match x with
  | some (.inl q) => g q
  | some (.inr _) => k
  | none => none
def os1 {ρ α δ : Type} (x : Option (ρ ⊕ α)) (g : ρ → Option δ) (k : α → Option δ) : Option δ := match x with
  | some (.inl q) => g q
  | some (.inr a) => k a
  | none => none
def os2 {ρ α β δ : Type} (x : Option (ρ ⊕ (α × β))) (g : ρ → Option δ) (k : α → β → Option δ) : Option δ := match x with
  | some (.inl q) => g q
  | some (.inr (a, b)) => k a b
  | none => none
theorem os0_some {ρ δ : Type} {x : Option (ρ ⊕ Unit)} {g : ρ → Option δ} {k : Option δ} {o : δ} (h : os0 x g k = some o) : (∃ q, x = some (.inl q) ∧ g q = some o) ∨ (x = some (.inr ()) ∧ k = some o) := by
  cases x with
  | none => cases h
  | some a =>
    cases a with
    | inl q => exact Or.inl ⟨q, rfl, h⟩
    | inr a => exact Or.inr ⟨rfl, h⟩
theorem os1_some {ρ α δ : Type} {x : Option (ρ ⊕ α)} {g : ρ → Option δ} {k : α → Option δ} {o : δ} (h : os1 x g k = some o) : (∃ q, x = some (.inl q) ∧ g q = some o) ∨ (∃ a, x = some (.inr a) ∧ k a = some o) := by
  cases x with
  | none => cases h
  | some a =>
    cases a with
    | inl q => exact Or.inl ⟨q, rfl, h⟩
    | inr a => exact Or.inr ⟨a, rfl, h⟩
theorem os2_some {ρ α β δ : Type} {x : Option (ρ ⊕ (α × β))} {g : ρ → Option δ} {k : α → β → Option δ} {o : δ} (h : os2 x g k = some o) : (∃ q, x = some (.inl q) ∧ g q = some o) ∨ (∃ a b, x = some (.inr (a, b)) ∧ k a b = some o) := by
  cases x with
  | none => cases h
  | some a =>
    cases a with
    | inl q => exact Or.inl ⟨q, rfl, h⟩
    | inr a => exact Or.inr ⟨a.1, a.2, rfl, h⟩
theorem inj1 {α : Type} {a b : α} (h : some a = some b) : a = b := Option.some.inj h
theorem inj2 {α β : Type} {a a1 : α} {b b1 : β} (h : some (a, b) = some (a1, b1)) : a = a1 ∧ b = b1 := Prod.mk.inj (Option.some.inj h)
theorem inj3 {α β γ : Type} {a a1 : α} {b b1 : β} {c c1 : γ} (h : some (a, b, c) = some (a1, b1, c1)) : a = a1 ∧ b = b1 ∧ c = c1 := by
  have h := Option.some.inj h
  exact ⟨congrArg (fun q => q.1) h, congrArg (fun q => q.2.1) h, congrArg (fun q => q.2.2) h⟩
theorem inj4 {α β γ δ : Type} {a a1 : α} {b b1 : β} {c c1 : γ} {d d1 : δ} (h : some (a, b, c, d) = some (a1, b1, c1, d1)) : a = a1 ∧ b = b1 ∧ c = c1 ∧ d = d1 := by
  have h := Option.some.inj h
  exact ⟨congrArg (fun q => q.1) h, congrArg (fun q => q.2.1) h, congrArg (fun q => q.2.2.1) h, congrArg (fun q => q.2.2.2) h⟩
theorem inj5 {α β γ δ ε : Type} {a a1 : α} {b b1 : β} {c c1 : γ} {d d1 : δ} {e e1 : ε} (h : some (a, b, c, d, e) = some (a1, b1, c1, d1, e1)) : a = a1 ∧ b = b1 ∧ c = c1 ∧ d = d1 ∧ e = e1 := by
  have h := Option.some.inj h
  exact ⟨congrArg (fun q => q.1) h, congrArg (fun q => q.2.1) h, congrArg (fun q => q.2.2.1) h, congrArg (fun q => q.2.2.2.1) h, congrArg (fun q => q.2.2.2.2) h⟩
theorem inj9 {t1 t2 t3 t4 t5 t6 t7 t8 t9 : Type} {a1 b1 : t1} {a2 b2 : t2} {a3 b3 : t3} {a4 b4 : t4} {a5 b5 : t5} {a6 b6 : t6} {a7 b7 : t7} {a8 b8 : t8} {a9 b9 : t9} (h : some (a1, a2, a3, a4, a5, a6, a7, a8, a9) = some (b1, b2, b3, b4, b5, b6, b7, b8, b9)) : a1 = b1 ∧ a2 = b2 ∧ a3 = b3 ∧ a4 = b4 ∧ a5 = b5 ∧ a6 = b6 ∧ a7 = b7 ∧ a8 = b8 ∧ a9 = b9 := by
  have h := Option.some.inj h
  exact ⟨congrArg (fun q => q.1) h, congrArg (fun q => q.2.1) h, congrArg (fun q => q.2.2.1) h, congrArg (fun q => q.2.2.2.1) h, congrArg (fun q => q.2.2.2.2.1) h, congrArg (fun q => q.2.2.2.2.2.1) h, congrArg (fun q => q.2.2.2.2.2.2.1) h, congrArg (fun q => q.2.2.2.2.2.2.2.1) h, congrArg (fun q => q.2.2.2.2.2.2.2.2) h⟩
theorem injl1 {α β : Type} {a b : α} (h : (some (.inl a) : Option (α ⊕ β)) = some (.inl b)) : a = b := Sum.inl.inj (Option.some.inj h)
theorem injl {α β : Type} {a b : α} (h : (some (.inl a) : Option (α ⊕ β)) = some (.inl b)) : a = b := Sum.inl.inj (Option.some.inj h)
theorem injr1 {α β : Type} {a b : β} (h : (some (.inr a) : Option (α ⊕ β)) = some (.inr b)) : a = b := Sum.inr.inj (Option.some.inj h)
theorem injr2 {α β γ : Type} {a a1 : β} {b b1 : γ} (h : (some (.inr (a, b)) : Option (α ⊕ (β × γ))) = some (.inr (a1, b1))) : a = a1 ∧ b = b1 := Prod.mk.inj (Sum.inr.inj (Option.some.inj h))
theorem nar_z {x : Int32} (h : x = 0 ∨ x = 1) : narrow .boolean (.int x) = .int x := by
  rcases h with rfl | rfl <;> decide
theorem sw_out {pc : Nat} {dd lo hi : Int} {offs : Array Int} {x : Int32} {t : Nat} (ht : pt_to pc dd = some t) (hk : ∀ k : Int, lo ≤ k ∧ k ≤ hi → ¬ x = Int32.ofInt k) (hb : -2147483648 ≤ lo ∧ hi ≤ 2147483647) : pt_sw pc dd lo hi offs x = some t := by
  unfold pt_sw
  rw [if_pos, ht]
  by_cases h : x.toInt < lo ∨ hi < x.toInt
  · exact h
  · exfalso
    refine hk x.toInt (by omega) ?_
    rw [Int32.ofInt_toInt]
section PG2
variable {L d : Nat} {G : pm_T} {r : Option Value} {h' h : ph_T} {pc nx k : Nat} {v : Int} {lv lv' : List (Nat × Value)} {st st1 : List Value} {x y : Int32}
theorem gs_topi (hx : y = x) (q : pr_G L d G (pc, lv, .int y :: st, h) r h') : pr_G L d G (pc, lv, .int x :: st, h) r h' := by subst hx; exact q
theorem gs_topl {x y : Int64} (hx : y = x) (q : pr_G L d G (pc, lv, .long y :: st, h) r h') : pr_G L d G (pc, lv, .long x :: st, h) r h' := by subst hx; exact q
theorem gs_heap {f g : pd_M} (hf : g = f) (q : pr_G L d G (pc, lv, st, hH g) r h') : pr_G L d G (pc, lv, st, hH f) r h' := by subst hf; exact q
theorem gs_iinc1 {j : Nat} {z : Int} {x1 c : Int32} (hf : pf G pc = some (pc, .iinc j z, nx, k, v)) (hx : pl_get lv j = some (.int x)) (hc : Int32.ofInt z = c) (h1 : x1 = x + c) (hg : pl_set lv j (.int x1) = lv') (q : pr_G L d G (nx, lv', st, h) r h') : pr_G L d G (pc, lv, st, h) r h' := by
  subst hc
  subst h1
  exact gs_iinc hf hx hg q
section CS
variable {As Bs : List Value} {h1 : ph_T} {j b : Nat}
theorem gs_callsI {w : Int32} (hf : pf G pc = some (pc, .invokestatic j, nx, k, v)) (hc : pr_C L d k As h (some (.int w)) h1) (hs : As.reverse ++ st = st1) (hn : As.length = (pm k).2.2.2.2.2.1) (hw : Nat.ble (pk_sum st) 8 = true) (hk : k < 193) (q : pr_G L d G (nx, lv, .int w :: st, h1) r h') : pr_G L d G (pc, lv, st1, h) r h' := gs_calls hf hc hs hn (Nat.le_of_ble_eq_true hw) hk q
theorem gs_callsL {w : Int64} (hf : pf G pc = some (pc, .invokestatic j, nx, k, v)) (hc : pr_C L d k As h (some (.long w)) h1) (hs : As.reverse ++ st = st1) (hn : As.length = (pm k).2.2.2.2.2.1) (hw : Nat.ble (pk_sum st) 8 = true) (hk : k < 193) (q : pr_G L d G (nx, lv, .long w :: st, h1) r h') : pr_G L d G (pc, lv, st1, h) r h' := gs_calls hf hc hs hn (Nat.le_of_ble_eq_true hw) hk q
theorem gs_callsV (hf : pf G pc = some (pc, .invokestatic j, nx, k, v)) (hc : pr_C L d k As h none h1) (hs : As.reverse ++ st = st1) (hn : As.length = (pm k).2.2.2.2.2.1) (hw : Nat.ble (pk_sum st) 8 = true) (hk : k < 193) (q : pr_G L d G (nx, lv, st, h1) r h') : pr_G L d G (pc, lv, st1, h) r h' := gs_calls hf hc hs hn (Nat.le_of_ble_eq_true hw) hk q
theorem gs_callvI {w : Int32} (hf : pf G pc = some (pc, .invokevirtual j, nx, k, v)) (hc : pr_C L d k (.ref b :: Bs) h (some (.int w)) h1) (hs : (.ref b :: Bs : List Value).reverse ++ st = st1) (hn : (.ref b :: Bs : List Value).length = (pm k).2.2.2.2.2.1) (hw : Nat.ble (pk_sum st) 8 = true) (hk : k < 193) (hb : (ps_sh L h b).1 = v.toNat) (hb2 : b < 17 ∨ v.toNat < 20) (q : pr_G L d G (nx, lv, .int w :: st, h1) r h') : pr_G L d G (pc, lv, st1, h) r h' := gs_callv hf hc hs hn (Nat.le_of_ble_eq_true hw) hk hb hb2 q
theorem gs_callvL {w : Int64} (hf : pf G pc = some (pc, .invokevirtual j, nx, k, v)) (hc : pr_C L d k (.ref b :: Bs) h (some (.long w)) h1) (hs : (.ref b :: Bs : List Value).reverse ++ st = st1) (hn : (.ref b :: Bs : List Value).length = (pm k).2.2.2.2.2.1) (hw : Nat.ble (pk_sum st) 8 = true) (hk : k < 193) (hb : (ps_sh L h b).1 = v.toNat) (hb2 : b < 17 ∨ v.toNat < 20) (q : pr_G L d G (nx, lv, .long w :: st, h1) r h') : pr_G L d G (pc, lv, st1, h) r h' := gs_callv hf hc hs hn (Nat.le_of_ble_eq_true hw) hk hb hb2 q
theorem gs_callvR {w : Nat} (hf : pf G pc = some (pc, .invokevirtual j, nx, k, v)) (hc : pr_C L d k (.ref b :: Bs) h (some (.ref w)) h1) (hs : (.ref b :: Bs : List Value).reverse ++ st = st1) (hn : (.ref b :: Bs : List Value).length = (pm k).2.2.2.2.2.1) (hw : Nat.ble (pk_sum st) 8 = true) (hk : k < 193) (hb : (ps_sh L h b).1 = v.toNat) (hb2 : b < 17 ∨ v.toNat < 20) (q : pr_G L d G (nx, lv, .ref w :: st, h1) r h') : pr_G L d G (pc, lv, st1, h) r h' := gs_callv hf hc hs hn (Nat.le_of_ble_eq_true hw) hk hb hb2 q
theorem gs_callvV (hf : pf G pc = some (pc, .invokevirtual j, nx, k, v)) (hc : pr_C L d k (.ref b :: Bs) h none h1) (hs : (.ref b :: Bs : List Value).reverse ++ st = st1) (hn : (.ref b :: Bs : List Value).length = (pm k).2.2.2.2.2.1) (hw : Nat.ble (pk_sum st) 8 = true) (hk : k < 193) (hb : (ps_sh L h b).1 = v.toNat) (hb2 : b < 17 ∨ v.toNat < 20) (q : pr_G L d G (nx, lv, st, h1) r h') : pr_G L d G (pc, lv, st1, h) r h' := gs_callv hf hc hs hn (Nat.le_of_ble_eq_true hw) hk hb hb2 q
end CS
end PG2
