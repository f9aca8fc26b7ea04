/-! THE PICTURE AND THE HEAP: what a pure heap says of the machine's. Z: class numbers, array classes, the first new address, the addresses of what was there before, the formatter. -/
abbrev pz_T : Type := va_G × (Nat → ClassId) × Nat × (Nat → Nat) × Value
def pz_A (Z : pz_T) : Nat → Prop := fun q => Z.2.2.1 ≤ q
def pz_ad (Z : pz_T) (k : Nat) : Nat := if k < 17 then Z.2.2.2.1 k else Z.2.2.1 + (k - 17)
def pz_v (Z : pz_T) (v : Value) : Value := match v with
  | .ref k => .ref (pz_ad Z k)
  | .null => Z.2.2.2.2
  | x => x
def pz_tys (Z : pz_T) : List (ClassId × FieldType) := (List.range 7).map (fun k => (Z.2.1 k, pk_ft k))
def pz_rf (Z : pz_T) (n : Nat) : Option Nat := if n = 0 then none else some (pz_ad Z (n - 1))
def pz_fv (Z : pz_T) (h : ph_T) (a ci j : Nat) : Value := if pf_ty ci j = 1 then va_rf (pz_rf Z (h.2.1 a j)) else .int (h.2.2 a j)
def pz_cell (Z : pz_T) (h : ph_T) (a : Nat) (q : Nat × Nat) : va_E :=
  if q.1 < 4 then .inl (Z.2.1 q.1, q.2, .inl (h.2.2 a))
  else if q.1 < 7 then .inl (Z.2.1 q.1, q.2, .inr (.inr (.inr (.inr (fun j => pz_rf Z (h.2.1 a j))))))
  else .inr (q.1 - 10, (List.range q.2).map (fun j => pz_fv Z h a (q.1 - 10) j))
def pz_W (Z : pz_T) (h : ph_T) : va_W := (List.range h.1.length).map (fun k => (Z.2.2.1 + k, pz_cell Z h (17 + k) (h.1.getD k (99, 0))))
def pz_P (Z : pz_T) (h : ph_T) (H : Heap) : Prop := va_P Z.1 vwCl (pz_W Z h) H
def pz_tot (sh : List (Nat × Nat)) : Nat := (sh.map (fun q => q.2)).sum
theorem pz_W_at (Z : pz_T) (h : ph_T) {k : Nat} (hk : k < h.1.length) : (pz_W Z h)[k]? = some (Z.2.2.1 + k, pz_cell Z h (17 + k) (h.1.getD k (99, 0))) := by
  simp [pz_W, hk]
theorem pz_W_len (Z : pz_T) (h : ph_T) : (pz_W Z h).length = h.1.length := by simp [pz_W]
theorem pz_W_D (Z : pz_T) (h : ph_T) : va_D (pz_A Z) (pz_W Z h) := by
  have key : ∀ (k : Nat) (q : Nat × va_E), (pz_W Z h)[k]? = some q → q.1 = Z.2.2.1 + k := by
    intro k q hk
    have hl : k < h.1.length := by
      have := (List.getElem?_eq_some_iff.mp hk).1
      rwa [pz_W_len] at this
    rw [pz_W_at Z h hl] at hk
    cases hk
    rfl
  refine ⟨fun i j p q hi hj hpq => ?_, fun k q hk => ?_⟩
  · have h1 := key i p hi
    have h2 := key j q hj
    omega
  · show Z.2.2.1 ≤ q.1
    rw [key k q hk]
    omega
/-- kind and place of a new cell -/
theorem pz_sh_in {L : Nat} {h : ph_T} {a : Nat} {q : Nat × Nat} (ha : 17 ≤ a) (hq : ps_sh L h a = q) (hn : q.1 ≠ 99) : a - 17 < h.1.length ∧ h.1.getD (a - 17) (99, 0) = q ∧ 17 + (a - 17) = a := by
  unfold ps_sh at hq
  rw [if_neg (by omega)] at hq
  refine ⟨?_, hq, by omega⟩
  by_cases hl : a - 17 < h.1.length
  · exact hl
  · rw [List.getD_eq_getElem?_getD, List.getElem?_eq_none (by omega)] at hq
    subst hq
    exact absurd rfl hn
theorem pz_at {Z : pz_T} {L : Nat} {h : ph_T} {a : Nat} {q : Nat × Nat} (ha : 17 ≤ a) (hq : ps_sh L h a = q) (hn : q.1 ≠ 99) : (pz_W Z h)[a - 17]? = some (pz_ad Z a, pz_cell Z h a q) := by
  obtain ⟨h1, h2, h3⟩ := pz_sh_in ha hq hn
  rw [pz_W_at Z h h1, h2, h3]
  unfold pz_ad
  rw [if_neg (by omega)]
theorem pz_tys_at (Z : pz_T) {k : Nat} (hk : k < 7) : (pz_tys Z)[k]? = some (Z.2.1 k, pk_ft k) := by simp [pz_tys, hk]
theorem pz_v_cat {Z : pz_T} (hf : Z.2.2.2.2 = .null ∨ ∃ t, Z.2.2.2.2 = .ref t) (v : Value) : (pz_v Z v).category = v.category := by
  cases v <;> try rfl
  show Z.2.2.2.2.category = 1
  rcases hf with e | ⟨t, e⟩ <;> rw [e] <;> rfl
/-- two pictures of one world: the same cells -/
theorem pz_W_set {Z : pz_T} {h h1 : ph_T} (hl : h1.1 = h.1) {k : Nat} (hk : k < h.1.length) {e : va_E} (he : pz_cell Z h1 (17 + k) (h.1.getD k (99, 0)) = e) (ho : ∀ j, j < h.1.length → j ≠ k → pz_cell Z h1 (17 + j) (h.1.getD j (99, 0)) = pz_cell Z h (17 + j) (h.1.getD j (99, 0))) :
    (pz_W Z h).set k (Z.2.2.1 + k, e) = pz_W Z h1 := by
  apply List.ext_getElem?
  intro j
  by_cases hj : j < h.1.length
  · rw [pz_W_at Z h1 (by rw [hl]; exact hj), hl]
    by_cases hjk : j = k
    · subst hjk
      rw [List.getElem?_set_self (by rw [pz_W_len]; exact hj), he]
    · rw [List.getElem?_set_ne (fun z => hjk z.symm), pz_W_at Z h hj, ho j hj hjk]
  · rw [List.getElem?_eq_none (by rw [List.length_set, pz_W_len]; omega), List.getElem?_eq_none (by rw [pz_W_len, hl]; omega)]
theorem pi_up_row {f : Nat → Nat → Int32} {a i : Nat} {v : Int32} : pi_up f a i v a = upd (f a) i v := by
  funext j
  by_cases hj : j = i
  · subst hj
    rw [pk_us]
    unfold pi_up
    rw [if_pos ⟨rfl, rfl⟩]
  · rw [pk_un hj]
    unfold pi_up
    rw [if_neg (fun q => hj q.2)]
theorem pi_up_off {f : Nat → Nat → Int32} {a b i : Nat} {v : Int32} (hb : b ≠ a) : pi_up f a i v b = f b := by
  funext j
  unfold pi_up
  rw [if_neg (fun q => hb q.1)]
theorem pr_up_off {f : Nat → Nat → Nat} {a b i v : Nat} (hb : b ≠ a) : pr_up f a i v b = f b := by
  funext j
  unfold pr_up
  rw [if_neg (fun q => hb q.1)]
theorem pi_row_on {f : Nat → Nat → Int32} {a : Nat} {g : Nat → Int32} : pi_row f a g a = g := by
  funext j
  unfold pi_row
  rw [if_pos rfl]
theorem pi_row_off {f : Nat → Nat → Int32} {a b : Nat} {g : Nat → Int32} (hb : b ≠ a) : pi_row f a g b = f b := by
  funext j
  unfold pi_row
  rw [if_neg hb]
theorem pr_row_on {f : Nat → Nat → Nat} {a : Nat} {g : Nat → Nat} : pr_row f a g a = g := by
  funext j
  unfold pr_row
  rw [if_pos rfl]
theorem pr_row_off {f : Nat → Nat → Nat} {a b : Nat} {g : Nat → Nat} (hb : b ≠ a) : pr_row f a g b = f b := by
  funext j
  unfold pr_row
  rw [if_neg hb]
theorem pz_cell_congr {Z : pz_T} {h h1 : ph_T} {a : Nat} {q : Nat × Nat} (hr : h1.2.1 a = h.2.1 a) (hi : h1.2.2 a = h.2.2 a) : pz_cell Z h1 a q = pz_cell Z h a q := by
  unfold pz_cell pz_fv
  rw [hr, hi]
/-- a world with one cell more -/
theorem pz_W_push {Z : pz_T} {h : ph_T} {kind n : Nat} : pz_W Z (ph_new h kind n) = pz_W Z h ++ [(Z.2.2.1 + h.1.length, pz_cell Z (ph_new h kind n) (17 + h.1.length) (kind, n))] := by
  apply List.ext_getElem?
  intro j
  have hl : (ph_new h kind n).1.length = h.1.length + 1 := by simp [ph_new]
  by_cases hj : j < h.1.length
  · rw [pz_W_at Z _ (by omega), List.getElem?_append_left (by rw [pz_W_len]; exact hj), pz_W_at Z h hj]
    have e1 : (ph_new h kind n).1.getD j (99, 0) = h.1.getD j (99, 0) := by
      simp only [ph_new, List.getD_eq_getElem?_getD, List.getElem?_append_left hj]
    rw [e1, pz_cell_congr (h := h)]
    · exact pr_row_off (by omega)
    · exact pi_row_off (by omega)
  · by_cases hj2 : j = h.1.length
    · subst hj2
      rw [pz_W_at Z _ (by omega), List.getElem?_append_right (by rw [pz_W_len]; omega), pz_W_len, Nat.sub_self]
      have e1 : (ph_new h kind n).1.getD h.1.length (99, 0) = (kind, n) := by
        simp [ph_new, List.getD_eq_getElem?_getD]
      rw [e1]
      rfl
    · rw [List.getElem?_eq_none (by rw [pz_W_len]; omega), List.getElem?_eq_none (by simp [pz_W_len]; omega)]
theorem pz_tot_push (sh : List (Nat × Nat)) (q : Nat × Nat) : pz_tot (sh ++ [q]) = pz_tot sh + q.2 := by simp [pz_tot]
theorem pz_P_size {Z : pz_T} {h : ph_T} {H : Heap} (hP : pz_P Z h H) (hb : Z.2.2.1 ≤ H.size) : Z.2.2.1 + h.1.length ≤ H.size := by
  by_cases h0 : h.1.length = 0
  · omega
  · have := (hP (h.1.length - 1) _ (pz_W_at Z h (by omega))).lt
    have e : (Z.2.2.1 + (h.1.length - 1), pz_cell Z h (17 + (h.1.length - 1)) (h.1.getD (h.1.length - 1) (99, 0))).1 = Z.2.2.1 + (h.1.length - 1) := rfl
    omega
