/-! PURE: numbers and bits (rows that begin with b_, s_, fa_, fb_ are pasted from kit/laws) -/
def bt (x : Int32) (i : Nat) : Bool := x.toBitVec.getLsbD i
theorem b_ext {x y : Int32} (h : ∀ i, i < 32 → bt x i = bt y i) : x = y := Int32.toBitVec_inj.mp (BitVec.eq_of_getLsbD_eq (fun i hi => h i hi))
theorem b_or (x y : Int32) (i : Nat) : bt (x ||| y) i = (bt x i || bt y i) := by unfold bt; rw [Int32.toBitVec_or, BitVec.getLsbD_or]
theorem b_and (x y : Int32) (i : Nat) : bt (x &&& y) i = (bt x i && bt y i) := by unfold bt; rw [Int32.toBitVec_and, BitVec.getLsbD_and]
theorem b_xor (x y : Int32) (i : Nat) : bt (x ^^^ y) i = (bt x i ^^ bt y i) := by unfold bt; rw [Int32.toBitVec_xor, BitVec.getLsbD_xor]
theorem b_big {x : Int32} {i : Nat} (h : 32 ≤ i) : bt x i = false := BitVec.getLsbD_of_ge _ _ h
theorem b_m1 : ∀ i, i < 32 → bt (-1) i = true := by decide +kernel
theorem b_0 (i : Nat) : bt 0 i = false := BitVec.getLsbD_zero
theorem s_l : ∀ n, n < 32 → ((nI n &&& 31).toBitVec.smod 32).toNat = n := by decide +kernel
theorem s_u : ∀ n, n < 32 → (((nI n).toUInt32 &&& Int32.toUInt32 31).toBitVec % 32).toNat = n := by decide +kernel
theorem b_shl (n : Nat) (hn : n < 32) (x : Int32) {i : Nat} (hi : i < 32) : bt (x <<< (nI n &&& 31)) i = (decide (n ≤ i) && bt x (i - n)) := by
  unfold bt
  rw [Int32.toBitVec_shiftLeft]
  show (x.toBitVec <<< ((nI n &&& 31).toBitVec.smod 32).toNat).getLsbD i = _
  rw [s_l n hn, BitVec.getLsbD_shiftLeft]
  rcases Nat.lt_or_ge i n with h | h
  · simp [h, Nat.not_le.mpr h]
  · simp [hi, h, Nat.not_lt.mpr h]
theorem b_ushr (n : Nat) (hn : n < 32) (x : Int32) (i : Nat) : bt ((x.toUInt32 >>> ((nI n).toUInt32 &&& Int32.toUInt32 31)).toInt32) i = bt x (n + i) := by
  show (x.toUInt32 >>> ((nI n).toUInt32 &&& Int32.toUInt32 31)).toBitVec.getLsbD i = x.toUInt32.toBitVec.getLsbD (n + i)
  rw [UInt32.toBitVec_shiftRight]
  show (x.toUInt32.toBitVec >>> (((nI n).toUInt32 &&& Int32.toUInt32 31).toBitVec % 32).toNat).getLsbD i = _
  rw [s_u n hn, BitVec.getLsbD_ushiftRight]
theorem b_sshr (n : Nat) (hn : n < 32) (x : Int32) {i : Nat} (hi : i < 32) : bt (x >>> (nI n &&& 31)) i = if n + i < 32 then bt x (n + i) else bt x 31 := by
  unfold bt
  rw [Int32.toBitVec_shiftRight]
  show (x.toBitVec.sshiftRight ((nI n &&& 31).toBitVec.smod 32).toNat).getLsbD i = _
  rw [s_l n hn, BitVec.getLsbD_sshiftRight, BitVec.msb_eq_getLsbD_last]
  simp [hi]
theorem fa_and (a b : Nat) : nI a &&& nI b = nI (a &&& b) := by
  apply Int32.toBitVec_inj.1
  show BitVec.ofNat 32 a &&& BitVec.ofNat 32 b = BitVec.ofNat 32 (a &&& b)
  apply BitVec.eq_of_getLsbD_eq
  intro i hi
  simp [hi]
theorem fa_or (a b : Nat) : nI a ||| nI b = nI (a ||| b) := by
  apply Int32.toBitVec_inj.1
  show BitVec.ofNat 32 a ||| BitVec.ofNat 32 b = BitVec.ofNat 32 (a ||| b)
  apply BitVec.eq_of_getLsbD_eq
  intro i hi
  simp [hi]
theorem fb_holes : ∀ (m n : Nat) (f : Nat → Nat), (∀ i, i < n → f i < m) → (∀ i j, i < j → j < n → f i ≠ f j) → n ≤ m := by
  intro m
  induction m with
  | zero =>
    intro n f h1 _
    rcases Nat.eq_zero_or_pos n with h | h
    · omega
    · exact absurd (h1 0 h) (Nat.not_lt_zero _)
  | succ m ih =>
    intro n f h1 h2
    by_cases hx : ∃ i, i < n ∧ f i = m
    · obtain ⟨a, ha, hfa⟩ := hx
      have hg := ih (n - 1) (fun i => if i < a then f i else f (i + 1)) (by
        intro i hi
        by_cases q : i < a
        · simp only [if_pos q]
          have b1 := h1 i (by omega)
          have b2 := h2 i a q ha
          omega
        · simp only [if_neg q]
          have b1 := h1 (i + 1) (by omega)
          have b2 := h2 a (i + 1) (by omega) (by omega)
          omega) (by
        intro i j hij hj
        by_cases q : i < a
        · by_cases r : j < a
          · simp only [if_pos q, if_pos r]
            exact h2 i j hij (by omega)
          · simp only [if_pos q, if_neg r]
            exact h2 i (j + 1) (by omega) (by omega)
        · have r : ¬ j < a := by omega
          simp only [if_neg q, if_neg r]
          exact h2 (i + 1) (j + 1) (by omega) (by omega))
      omega
    · have hg := ih n f (fun i hi => by
        have b1 := h1 i hi
        have b2 : f i ≠ m := fun e => hx ⟨i, hi, e⟩
        omega) h2
      omega
def fb_ct (p : Nat → Bool) : Nat → Nat
  | 0 => 0
  | n + 1 => fb_ct p n + (if p n then 1 else 0)
theorem fb_ct_succ (p : Nat → Bool) (n : Nat) : fb_ct p (n + 1) = fb_ct p n + (if p n then 1 else 0) := rfl
theorem fb_ct_le (p : Nat → Bool) : ∀ n, fb_ct p n ≤ n
  | 0 => Nat.le_refl _
  | n + 1 => by
    have h := fb_ct_le p n
    rw [fb_ct_succ]
    split <;> omega
theorem fb_ct_step (p : Nat → Bool) (m : Nat) : ∀ n, fb_ct p m ≤ fb_ct p (m + n)
  | 0 => Nat.le_refl _
  | n + 1 => by
    have h := fb_ct_step p m n
    show fb_ct p m ≤ fb_ct p (m + n + 1)
    rw [fb_ct_succ]
    omega
theorem fb_ct_mono (p : Nat → Bool) {m n : Nat} (h : m ≤ n) : fb_ct p m ≤ fb_ct p n := by
  have := fb_ct_step p m (n - m)
  rwa [Nat.add_sub_cancel' h] at this
theorem fb_ct_cong {p q : Nat → Bool} : ∀ {n : Nat}, (∀ k, k < n → p k = q k) → fb_ct p n = fb_ct q n
  | 0, _ => rfl
  | n + 1, h => by
    rw [fb_ct_succ, fb_ct_succ, fb_ct_cong (fun k hk => h k (by omega)), h n (by omega)]
theorem fb_ct_split (p : Nat → Bool) (m : Nat) : ∀ n, fb_ct p (m + n) = fb_ct p m + fb_ct (fun k => p (m + k)) n
  | 0 => rfl
  | n + 1 => by
    have h := fb_ct_split p m n
    show fb_ct p (m + n + 1) = _
    rw [fb_ct_succ, fb_ct_succ, h, Nat.add_assoc]
theorem fb_ct_zero {p : Nat → Bool} : ∀ {n : Nat}, fb_ct p n = 0 ↔ ∀ k, k < n → p k = false
  | 0 => ⟨fun _ k hk => absurd hk (Nat.not_lt_zero k), fun _ => rfl⟩
  | n + 1 => by
    have h := fb_ct_zero (p := p) (n := n)
    rw [fb_ct_succ]
    constructor
    · intro e k hk
      have e1 : fb_ct p n = 0 := by omega
      rcases Nat.lt_or_ge k n with q | q
      · exact h.mp e1 k q
      · have ek : k = n := by omega
        subst ek
        cases hp : p k
        · rfl
        · simp [hp] at e
    · intro a
      rw [h.mpr (fun k hk => a k (by omega)), a n (by omega)]
      rfl
theorem fb_ct_kth {p : Nat → Bool} {k : Nat} : ∀ {n : Nat}, k < fb_ct p n → ∃ i, i < n ∧ p i = true ∧ fb_ct p i = k
  | 0, h => absurd h (Nat.not_lt_zero k)
  | n + 1, h => by
    rcases Nat.lt_or_ge k (fb_ct p n) with q | q
    · obtain ⟨i, h1, h2⟩ := fb_ct_kth q
      exact ⟨i, by omega, h2⟩
    · rw [fb_ct_succ] at h
      cases hp : p n
      · simp [hp] at h; omega
      · simp [hp] at h
        exact ⟨n, by omega, hp, by omega⟩
theorem fb_ct_kth_one {p : Nat → Bool} {i j : Nat} (hi : p i = true) (hj : p j = true) (e : fb_ct p i = fb_ct p j) : i = j := by
  have key : ∀ a b : Nat, a < b → p a = true → fb_ct p a < fb_ct p b := by
    intro a b hab ha
    have h := fb_ct_mono p (show a + 1 ≤ b from hab)
    rw [fb_ct_succ, ha] at h
    simp at h
    omega
  rcases Nat.lt_trichotomy i j with q | q | q
  · have := key i j q hi; omega
  · exact q
  · have := key j i q hj; omega
/-! PURE: mine -/
theorem za {i : Nat} (h : i < 2 ^ 31) : ((0 : Int32) ≤ nI i) = True := eq_true (nI_pos' h)
theorem zb {i : Nat} (h : i < 2 ^ 31) : (nI i < (0 : Int32)) = False := eq_false (nI_pos h)
theorem zc {i : Nat} (h : i < 2 ^ 31) : (nI i = (0 : Int32)) = (i = 0) := propext (nI_eq (b := 0) h (by decide))
theorem zd {i : Nat} (h : i < 2 ^ 31) : (nI i ≤ (0 : Int32)) = (i = 0) := propext ((nI_leI (b := 0) h (by decide)).trans (by omega))
theorem ze {i : Nat} (h : i < 2 ^ 31) : ((0 : Int32) < nI i) = (0 < i) := propext (nI_ltI (a := 0) (by decide) h)
theorem zf {i : Nat} (h : i < 2 ^ 31) : ((1 : Int32) ≤ nI i) = (1 ≤ i) := propext (nI_leI (a := 1) (by decide) h)
theorem zg {i : Nat} (h : i < 2 ^ 31) : (nI i < (1 : Int32)) = (i = 0) := propext ((nI_ltI (b := 1) h (by decide)).trans (by omega))
theorem zh {i : Nat} (h : i < 2 ^ 31) : (nI i = (1 : Int32)) = (i = 1) := propext (nI_eq (b := 1) h (by decide))
theorem zi {i : Nat} (h : 1 ≤ i) : nI i - 1 = nI (i - 1) := pk_sub (b := 1) h
theorem zj {i : Nat} (h : i < 2 ^ 31) : (nI i = (-1000000 : Int32)) = False := by
  refine eq_false fun e => ?_
  have := congrArg Int32.toInt e
  rw [nI_toInt h, show (-1000000 : Int32).toInt = -1000000 by decide] at this
  omega
theorem zk {i : Nat} (h : i < 2 ^ 31) : (nI i = (-1 : Int32)) = False := by
  refine eq_false fun e => ?_
  have := congrArg Int32.toInt e
  rw [nI_toInt h, show (-1 : Int32).toInt = -1 by decide] at this
  omega
theorem zl {i : Nat} (h : i < 2 ^ 31) : ((-1 : Int32) ≤ nI i) = True := by
  refine eq_true ?_
  rw [q_le, nI_toInt h, show (-1 : Int32).toInt = -1 by decide]
  omega
theorem zp {j n : Nat} (h : j < n) (hn : n < 2 ^ 31) : pa_in (nI j) n = true := qP_in h hn
theorem l2 : (2 : Int32) = nI 2 := rfl
theorem l3 : (3 : Int32) = nI 3 := rfl
theorem l4 : (4 : Int32) = nI 4 := rfl
theorem l5 : (5 : Int32) = nI 5 := rfl
theorem l6 : (6 : Int32) = nI 6 := rfl
theorem l7 : (7 : Int32) = nI 7 := rfl
theorem l8 : (8 : Int32) = nI 8 := rfl
theorem l16 : (16 : Int32) = nI 16 := rfl
theorem l20 : (20 : Int32) = nI 20 := rfl
theorem l24 : (24 : Int32) = nI 24 := rfl
theorem l25 : (25 : Int32) = nI 25 := rfl
theorem l40 : (40 : Int32) = nI 40 := rfl
theorem l64 : (64 : Int32) = nI 64 := rfl
theorem l99 : (99 : Int32) = nI 99 := rfl
theorem l125 : (125 : Int32) = nI 125 := rfl
theorem l500 : (500 : Int32) = nI 500 := rfl
theorem l625 : (625 : Int32) = nI 625 := rfl
theorem l2401 : (2401 : Int32) = nI 2401 := rfl
theorem l2402 : (2402 : Int32) = nI 2402 := rfl
theorem lr : (268435456 : Int32) = nI 268435456 := rfl
theorem ly {a b : Nat} (ha : a < 2 ^ 31) (hb : b < 2 ^ 31) : (nI a ≤ nI b) = (a ≤ b) := propext (nI_leI ha hb)
theorem lt_ {a b : Nat} (ha : a < 2 ^ 31) (hb : b < 2 ^ 31) : (nI a < nI b) = (a < b) := propext (nI_ltI ha hb)
theorem lq {a b : Nat} (ha : a < 2 ^ 31) (hb : b < 2 ^ 31) : (nI a = nI b) = (a = b) := propext (nI_eq ha hb)
theorem bt_nI (n i : Nat) : bt (nI n) i = (decide (i < 32) && n.testBit i) := by
  unfold bt
  show (BitVec.ofNat 32 n).getLsbD i = _
  rw [BitVec.getLsbD_ofNat]
theorem tb_hi {a i k : Nat} (h : a < 2 ^ k) (hi : k ≤ i) : a.testBit i = false := Nat.testBit_lt_two_pow (Nat.lt_of_lt_of_le h (Nat.pow_le_pow_right (by decide) hi))
theorem q_shl (a : Nat) {k : Nat} (hk : k < 32) : nI a <<< (nI k &&& 31) = nI (a * 2 ^ k) := by
  refine b_ext fun i hi => ?_
  rw [b_shl k hk _ hi, bt_nI, bt_nI, ← Nat.shiftLeft_eq, Nat.testBit_shiftLeft]
  by_cases h : k ≤ i
  · simp [h, hi, show i - k < 32 by omega]
  · simp [h]
theorem q_1shl {k : Nat} (hk : k < 32) : (1 : Int32) <<< (nI k &&& 31) = nI (2 ^ k) := by
  have := q_shl 1 hk
  rwa [Nat.one_mul] at this
theorem q_shr {a k : Nat} (ha : a < 2 ^ 31) (hk : k < 32) : nI a >>> (nI k &&& 31) = nI (a / 2 ^ k) := by
  refine b_ext fun i hi => ?_
  rw [b_sshr k hk _ hi, bt_nI, bt_nI, bt_nI, Nat.testBit_div_two_pow]
  by_cases h : k + i < 32
  · simp [h, hi, Nat.add_comm]
  · rw [if_neg h, tb_hi ha (by omega), tb_hi (i := i + k) ha (by omega)]
    simp
theorem q_bit {a k : Nat} (ha : a < 2 ^ 31) (hk : k < 32) : (nI a >>> (nI k &&& 31)) &&& 1 = if a.testBit k then 1 else 0 := by
  rw [q_shr ha hk, show (1 : Int32) = nI 1 from rfl, fa_and, Nat.and_one_is_mod, Nat.testBit_eq_decide_div_mod_eq]
  by_cases h : a / 2 ^ k % 2 = 1
  · simp [h]
  · rw [if_neg (by simp [h]), show a / 2 ^ k % 2 = 0 by omega]
    rfl
theorem q_bit0 {a k : Nat} (ha : a < 2 ^ 31) (hk : k < 32) : ((nI a >>> (nI k &&& 31)) &&& 1 = 0) = (a.testBit k = false) := by
  rw [q_bit ha hk]
  cases a.testBit k <;> simp
theorem q_bit1 {a k : Nat} (ha : a < 2 ^ 31) (hk : k < 32) : ((nI a >>> (nI k &&& 31)) &&& 1 = 1) = (a.testBit k = true) := by
  rw [q_bit ha hk]
  cases a.testBit k <;> simp
def nd (a b : Nat) : Nat := a &&& (b ^^^ (2 ^ 31 - 1))
theorem nd_bit {a b : Nat} (ha : a < 2 ^ 31) (i : Nat) : (nd a b).testBit i = (a.testBit i && !b.testBit i) := by
  unfold nd
  rw [Nat.testBit_and, Nat.testBit_xor, Nat.testBit_two_pow_sub_one]
  by_cases h : i < 31
  · simp [h]
  · rw [tb_hi ha (by omega)]
    simp
theorem nd_lt {a b : Nat} (ha : a < 2 ^ 31) : nd a b < 2 ^ 31 := Nat.lt_of_le_of_lt Nat.and_le_left ha
theorem q_nd {a b : Nat} (ha : a < 2 ^ 31) : nI a &&& (nI b ^^^ (-1)) = nI (nd a b) := by
  refine b_ext fun i hi => ?_
  rw [b_and, b_xor, bt_nI, bt_nI, bt_nI, b_m1 i hi, nd_bit ha]
  simp [hi]
theorem nd_0 {a b : Nat} (ha : a < 2 ^ 31) : nd a b = 0 ↔ ∀ k, a.testBit k = true → b.testBit k = true := by
  constructor
  · intro h k hk
    have := nd_bit (b := b) ha k
    rw [h, hk, Nat.zero_testBit] at this
    revert this
    cases b.testBit k <;> simp
  · intro h
    refine Nat.eq_of_testBit_eq fun i => ?_
    rw [nd_bit ha, Nat.zero_testBit]
    cases e : a.testBit i
    · rfl
    · rw [h i e]
      rfl
theorem q_within {a b : Nat} (ha : a < 2 ^ 31) : fn_X8_isWithin (nI a) (nI b) = if nd a b = 0 then 1 else 0 := by
  unfold fn_X8_isWithin
  simp only [q_nd ha, zc (nd_lt ha)]
theorem q_127 (x : Nat) : nI x &&& 127 = nI (x % 128) := by
  rw [show (127 : Int32) = nI (2 ^ 7 - 1) from rfl, fa_and, Nat.and_two_pow_sub_one_eq_mod]
def fi (x j : Nat) : Nat := x / 2 ^ (7 * j) % 128
theorem q_field {a j : Nat} (ha : a < 2 ^ 31) (hj : j < 4) : fn_X8_fieldOf (nI a) (nI j) = nI (fi a j) := by
  unfold fn_X8_fieldOf
  rw [l7, pk_mul, q_shr ha (by omega), q_127]
  rfl
theorem fi_lt (x j : Nat) : fi x j < 128 := Nat.mod_lt _ (by decide)
theorem fi_bit (x j v : Nat) : (fi x j).testBit v = (decide (v < 7) && x.testBit (7 * j + v)) := by
  unfold fi
  rw [show 128 = 2 ^ 7 from rfl, Nat.testBit_mod_two_pow, Nat.testBit_div_two_pow, Nat.add_comm]
theorem fi_and (x y j : Nat) : fi (x &&& y) j = fi x j &&& fi y j := by
  refine Nat.eq_of_testBit_eq fun v => ?_
  rw [Nat.testBit_and, fi_bit, fi_bit, fi_bit, Nat.testBit_and]
  cases decide (v < 7) <;> simp
def pc (v : Nat) : Nat := fb_ct (fun k => v.testBit k) 7
theorem q_bc : ∀ v, v < 128 → fn_J6_bitCount_0f7a4 (nI v) = nI (pc v) := by decide +kernel
theorem pc_0 : ∀ v, v < 128 → (pc v = 0 ↔ v = 0) := by decide +kernel
theorem pc_le (v : Nat) : pc v ≤ 7 := fb_ct_le _ 7
/-- the first of k, k + 1 .. k + r - 1 with p, or k + r -/
def ff (p : Nat → Bool) : Nat → Nat → Nat
  | 0, k => k
  | r + 1, k => if p k = true then k else ff p r (k + 1)
theorem ff_le (p : Nat → Bool) : ∀ r k, k ≤ ff p r k ∧ ff p r k ≤ k + r
  | 0, k => ⟨Nat.le_refl _, Nat.le_refl _⟩
  | r + 1, k => by
    unfold ff
    have := ff_le p r (k + 1)
    split <;> omega
theorem ff_cong {p q : Nat → Bool} : ∀ {r k : Nat}, (∀ i, k ≤ i → i < k + r → p i = q i) → ff p r k = ff q r k
  | 0, _, _ => rfl
  | r + 1, k, h => by
    unfold ff
    rw [h k (Nat.le_refl _) (by omega), ff_cong (fun i h1 h2 => h i (by omega) (by omega))]
theorem ff_yes (p : Nat → Bool) : ∀ r k, ff p r k < k + r → p (ff p r k) = true
  | 0, k, h => absurd h (Nat.lt_irrefl _)
  | r + 1, k, h => by
    unfold ff at h ⊢
    by_cases e : p k = true
    · rw [if_pos e]; exact e
    · rw [if_neg e] at h ⊢
      exact ff_yes p r (k + 1) (by omega)
theorem ff_no (p : Nat → Bool) : ∀ r k i, k ≤ i → i < ff p r k → p i = false
  | 0, k, i, h, h2 => by unfold ff at h2; omega
  | r + 1, k, i, h, h2 => by
    unfold ff at h2
    by_cases e : p k = true
    · rw [if_pos e] at h2; omega
    · rw [if_neg e] at h2
      by_cases e2 : i = k
      · subst e2; exact Bool.eq_false_iff.mpr e
      · exact ff_no p r (k + 1) i (by omega) h2
theorem ff_is {p : Nat → Bool} {r k i : Nat} (h1 : k ≤ i) (h2 : i ≤ k + r) (h3 : ∀ j, k ≤ j → j < i → p j = false) (h4 : i < k + r → p i = true) : ff p r k = i := by
  have a := ff_le p r k
  rcases Nat.lt_trichotomy (ff p r k) i with q | q | q
  · have := ff_yes p r k (by omega)
    rw [h3 _ a.1 q] at this
    exact absurd this (by decide)
  · exact q
  · have := ff_no p r k i h1 q
    rw [h4 (by omega)] at this
    exact absurd this (by decide)
/-- the set of the i below n with p -/
def orF (p : Nat → Bool) : Nat → Nat
  | 0 => 0
  | n + 1 => if p n = true then orF p n ||| 2 ^ n else orF p n
theorem orF_bit (p : Nat → Bool) : ∀ n i, (orF p n).testBit i = (decide (i < n) && p i)
  | 0, i => by simp [orF]
  | n + 1, i => by
    unfold orF
    by_cases h : p n = true
    · rw [if_pos h, Nat.testBit_or, orF_bit p n i, Nat.testBit_two_pow]
      by_cases e : n = i
      · subst e; simp [h]
      · have : (i < n + 1) = (i < n) := propext (by omega)
        simp [e, this]
    · rw [if_neg h, orF_bit p n i]
      by_cases e : n = i
      · subst e; simp [Bool.eq_false_iff.mpr h]
      · have : (i < n + 1) = (i < n) := propext (by omega)
        simp [this]
theorem orF_lt (p : Nat → Bool) : ∀ n, orF p n < 2 ^ n
  | 0 => by simp [orF]
  | n + 1 => by
    have := orF_lt p n
    unfold orF
    have e : (2 : Nat) ^ (n + 1) = 2 ^ n + 2 ^ n := by rw [Nat.pow_succ]; omega
    split
    · exact Nat.or_lt_two_pow (by omega) (by omega)
    · omega
theorem orF_31 (p : Nat → Bool) {n : Nat} (h : n ≤ 20) : orF p n < 2 ^ 31 := Nat.lt_of_lt_of_le (orF_lt p n) (Nat.pow_le_pow_right (by decide) (by omega))
