/-! heaps only grow, what was there before stays -/
def pz_mono (h h' : ph_T) : Prop := h.1.length ≤ h'.1.length ∧ pz_tot h.1 ≤ pz_tot h'.1 ∧ ∀ a, a < 17 → h'.2.2 a = h.2.2 a
theorem pz_mono.rf {h : ph_T} : pz_mono h h := ⟨Nat.le_refl _, Nat.le_refl _, fun _ _ => rfl⟩
theorem pz_mono.tr {h h1 h2 : ph_T} (a : pz_mono h h1) (b : pz_mono h1 h2) : pz_mono h h2 := ⟨Nat.le_trans a.1 b.1, Nat.le_trans a.2.1 b.2.1, fun i hi => (b.2.2 i hi).trans (a.2.2 i hi)⟩
theorem pz_mono_up {h : ph_T} {a i : Nat} {x : Int32} (ha : 17 ≤ a) : pz_mono h (h.1, h.2.1, pi_up h.2.2 a i x) := ⟨Nat.le_refl _, Nat.le_refl _, fun b hb => pi_up_off (by omega)⟩
theorem pz_mono_row {h : ph_T} {a : Nat} {g : Nat → Int32} (ha : 17 ≤ a) : pz_mono h (h.1, h.2.1, pi_row h.2.2 a g) := ⟨Nat.le_refl _, Nat.le_refl _, fun b hb => pi_row_off (by omega)⟩
theorem pz_mono_new {h : ph_T} {kind n : Nat} : pz_mono h (ph_new h kind n) := ⟨by simp [ph_new], by rw [show (ph_new h kind n).1 = h.1 ++ [(kind, n)] from rfl, pz_tot_push]; omega, fun b hb => pi_row_off (by omega)⟩
theorem pg_put_mono {L : Nat} {h h1 : ph_T} {a k kind : Nat} {w : Value} (hg : pg_put L h a k kind w = some h1) : pz_mono h h1 := by
  unfold pg_put at hg
  split at hg
  next hk =>
    split at hg
    · split at hg
      · cases hg; exact pz_mono_up hk.1
      · cases hg
    · split at hg
      · cases hg; exact ⟨Nat.le_refl _, Nat.le_refl _, fun _ _ => rfl⟩
      · cases hg
    · cases hg
  next => cases hg
theorem pa_st_mono {L : Nat} {h h1 : ph_T} {ks : List Nat} {a : Nat} {i x : Int32} (hg : pa_st L h ks a i x = some h1) : pz_mono h h1 := by
  unfold pa_st at hg
  split at hg
  next hk => cases hg; exact pz_mono_up hk.1
  next => cases hg
theorem pa_str_mono {L : Nat} {h h1 : ph_T} {a b : Nat} {i : Int32} (hg : pa_str L h a i b = some h1) : pz_mono h h1 := by
  unfold pa_str at hg
  split at hg
  next hk => cases hg; exact ⟨Nat.le_refl _, Nat.le_refl _, fun _ _ => rfl⟩
  next => cases hg
theorem pa_new_mono {h h1 : ph_T} {k : Nat} {n : Int32} (hg : pa_new h k n = some h1) : pz_mono h h1 := by
  unfold pa_new at hg
  split at hg
  next hk => cases hg; exact pz_mono_new
  next => cases hg
theorem pa_cpy_mono {L : Nat} {h h1 : ph_T} {a0 a1 : Nat} {sp dp n : Int32} (hg : pa_cpy L h a0 sp a1 dp n = some h1) : pz_mono h h1 := by
  unfold pa_cpy at hg
  split at hg
  next hk => cases hg; exact pz_mono_row hk.1.2.1
  next => cases hg
set_option maxHeartbeats 4000000 in
theorem ps_mono {L : Nat} {en : pe_T} {x x1 : ps_T} (hs : ps_step L en x = some x1) : pz_mono x.2.2.2 x1.2.2.2 := by
  obtain ⟨pc, lv, st, h⟩ := x
  obtain ⟨pc', i, nx, k, v⟩ := en
  cases i with
  | putfield j =>
    simp only [ps_step] at hs
    split at hs
    · obtain ⟨w, hw, rfl⟩ := Option.map_eq_some_iff.mp hs
      exact pg_put_mono hw
    · cases hs
  | iastore =>
    simp only [ps_step] at hs
    split at hs
    · obtain ⟨w, hw, rfl⟩ := Option.map_eq_some_iff.mp hs
      exact pa_st_mono hw
    · cases hs
  | bastore =>
    simp only [ps_step] at hs
    split at hs
    · obtain ⟨w, hw, rfl⟩ := Option.map_eq_some_iff.mp hs
      exact pa_st_mono hw
    · cases hs
  | sastore =>
    simp only [ps_step] at hs
    split at hs
    · obtain ⟨w, hw, rfl⟩ := Option.map_eq_some_iff.mp hs
      exact pa_st_mono hw
    · cases hs
  | aastore =>
    simp only [ps_step] at hs
    split at hs
    · obtain ⟨w, hw, rfl⟩ := Option.map_eq_some_iff.mp hs
      exact pa_str_mono hw
    · cases hs
  | new j =>
    simp only [ps_step] at hs
    split at hs
    · cases hs; exact pz_mono_new
    · cases hs
  | newarray t =>
    simp only [ps_step] at hs
    split at hs
    · obtain ⟨w, hw, rfl⟩ := Option.map_eq_some_iff.mp hs
      exact pa_new_mono hw
    · cases hs
  | anewarray t =>
    simp only [ps_step] at hs
    split at hs
    · obtain ⟨w, hw, rfl⟩ := Option.map_eq_some_iff.mp hs
      exact pa_new_mono hw
    · cases hs
  | invokestatic j =>
    simp only [ps_step] at hs
    split at hs
    · split at hs
      · obtain ⟨w, hw, rfl⟩ := Option.map_eq_some_iff.mp hs
        exact pa_cpy_mono hw
      · cases hs
    · cases hs
  | _ =>
    simp only [ps_step] at hs
    first
      | (cases hs; done)
      | (cases hs; exact pz_mono.rf)
      | (obtain ⟨w, hw, rfl⟩ := Option.map_eq_some_iff.mp hs; exact pz_mono.rf)
      | (split at hs <;> first | (cases hs; done) | (cases hs; exact pz_mono.rf) | (obtain ⟨w, hw, rfl⟩ := Option.map_eq_some_iff.mp hs; exact pz_mono.rf) | (split at hs <;> first | (cases hs; done) | (cases hs; exact pz_mono.rf) | (split at hs <;> first | (cases hs; done) | (cases hs; exact pz_mono.rf))))
theorem pr_mono (L : Nat) : ∀ (d m : Nat) (As : List Value) (h : ph_T) (r : Option Value) (h' : ph_T), pr_C L d m As h r h' → pz_mono h h' := by
  intro d
  induction d with
  | zero => intro m As h r h' q; exact q.elim
  | succ d ih =>
    intro m As h r h' q
    obtain ⟨-, n, s', h1, -, rfl⟩ := q
    have key : ∀ (n : Nat) (x s' : ps_T), pr_N (pr_C L d) L (pm m) n x s' → pz_mono x.2.2.2 s'.2.2.2 := by
      intro n
      induction n with
      | zero => intro x s' q; cases q; exact pz_mono.rf
      | succ n ihn =>
        intro x s' q
        obtain ⟨s1, ⟨ks, rfl⟩ | ⟨en, he, hs⟩, h2⟩ := q
        · exact ihn (x.1, lv_pick x.2.1 ks, x.2.2.1, x.2.2.2) s' h2
        refine pz_mono.tr ?_ (ihn _ _ h2)
        rcases hs with hs | ⟨As, rest, r, h', a1, a2, a3, a4, a5, a6, rfl⟩
        · exact ps_mono hs
        · exact ih _ _ _ _ _ a6
    exact key n _ _ h1
theorem pr_mono_N {L d m : Nat} : ∀ (n : Nat) (x s' : ps_T), pr_N (pr_C L d) L (pm m) n x s' → pz_mono x.2.2.2 s'.2.2.2 := by
  intro n
  induction n with
  | zero => intro x s' q; cases q; exact pz_mono.rf
  | succ n ihn =>
    intro x s' q
    obtain ⟨s1, ⟨ks, rfl⟩ | ⟨en, he, hs⟩, h2⟩ := q
    · exact ihn (x.1, lv_pick x.2.1 ks, x.2.2.1, x.2.2.2) s' h2
    refine pz_mono.tr ?_ (ihn _ _ h2)
    rcases hs with hs | ⟨As, rest, r, h', a1, a2, a3, a4, a5, a6, rfl⟩
    · exact ps_mono hs
    · exact pr_mono L _ _ _ _ _ _ a6
