/-! ... and what the evaluation says of the machine, whatever was there before -/
def ov (X : Nat → Nat → Int32) (h : ph_T) : ph_T := (h.1, h.2.1, fun a j => if a < 17 then X a j else h.2.2 a j)
theorem ov_in {X : Nat → Nat → Int32} {h : ph_T} {a j : Nat} (ha : 17 ≤ a) : (ov X h).2.2 a j = h.2.2 a j := by
  show (if a < 17 then X a j else h.2.2 a j) = _
  rw [if_neg (by omega)]
theorem ov_sh {L : Nat} {X : Nat → Nat → Int32} {h : ph_T} {a : Nat} (ha : 17 ≤ a) : ps_sh L (ov X h) a = ps_sh 0 h a := by
  unfold ps_sh
  rw [if_neg (by omega), if_neg (by omega)]
  rfl
theorem ov_up {X : Nat → Nat → Int32} {h : ph_T} {a i : Nat} {x : Int32} (ha : 17 ≤ a) : ((ov X h).1, (ov X h).2.1, pi_up (ov X h).2.2 a i x) = ov X (h.1, h.2.1, pi_up h.2.2 a i x) := by
  unfold ov
  congr 2
  funext b j
  show (if b = a ∧ j = i then x else if b < 17 then X b j else h.2.2 b j) = if b < 17 then X b j else pi_up h.2.2 a i x b j
  unfold pi_up
  by_cases hb : b = a ∧ j = i
  · rw [if_pos hb, if_neg (by omega), if_pos hb]
  · rw [if_neg hb]
    by_cases h17 : b < 17
    · rw [if_pos h17, if_pos h17]
    · rw [if_neg h17, if_neg h17, if_neg hb]
theorem ov_new {X : Nat → Nat → Int32} {h : ph_T} {kind n : Nat} : ph_new (ov X h) kind n = ov X (ph_new h kind n) := by
  unfold ov ph_new
  congr 2
  funext b j
  show (if b = 17 + h.1.length then (0 : Int32) else if b < 17 then X b j else h.2.2 b j) = if b < 17 then X b j else if b = 17 + h.1.length then 0 else h.2.2 b j
  by_cases hb : b = 17 + h.1.length
  · rw [if_pos hb, if_neg (by omega), if_pos hb]
  · rw [if_neg hb]
    by_cases h17 : b < 17
    · rw [if_pos h17, if_pos h17]
    · rw [if_neg h17, if_neg h17, if_neg hb]
theorem ov_get {L : Nat} {X : Nat → Nat → Int32} {h : ph_T} {a k kind : Nat} {w : Value} (ha : 17 ≤ a) (hg : pg_get 0 h a k kind = some w) : pg_get L (ov X h) a k kind = some w := by
  unfold pg_get at hg ⊢
  rw [ov_sh ha, ov_in ha]
  exact hg
theorem ov_put {L : Nat} {X : Nat → Nat → Int32} {h h1 : ph_T} {a k kind : Nat} {w : Value} (ha : 17 ≤ a) (hg : pg_put 0 h a k kind w = some h1) : pg_put L (ov X h) a k kind w = some (ov X h1) := by
  unfold pg_put at hg ⊢
  rw [ov_sh ha]
  split at hg
  next hk =>
    rw [if_pos hk]
    cases w with
    | int x =>
      simp only at hg ⊢
      split at hg
      next ht =>
        rw [if_pos ht]
        cases hg
        exact congrArg some (ov_up ha)
      next => cases hg
    | ref b =>
      simp only at hg ⊢
      split at hg
      next ht =>
        rw [if_pos ht]
        cases hg
        rfl
      next => cases hg
    | _ => simp at hg
  next => cases hg
theorem ov_st {L : Nat} {X : Nat → Nat → Int32} {h h1 : ph_T} {ks : List Nat} {a : Nat} {i x : Int32} (ha : 17 ≤ a) (hg : pa_st 0 h ks a i x = some h1) : pa_st L (ov X h) ks a i x = some (ov X h1) := by
  unfold pa_st at hg ⊢
  rw [ov_sh ha]
  split at hg
  next hk =>
    rw [if_pos hk]
    cases hg
    exact congrArg some (ov_up ha)
  next => cases hg
theorem ov_str {L : Nat} {X : Nat → Nat → Int32} {h h1 : ph_T} {a b : Nat} {i : Int32} (ha : 17 ≤ a) (hb : 17 ≤ b) (hg : pa_str 0 h a i b = some h1) : pa_str L (ov X h) a i b = some (ov X h1) := by
  unfold pa_str at hg ⊢
  rw [ov_sh ha, ov_sh hb]
  split at hg
  next hk =>
    rw [if_pos hk]
    cases hg
    rfl
  next => cases hg
theorem ov_newa {X : Nat → Nat → Int32} {h h1 : ph_T} {k : Nat} {n : Int32} (hg : pa_new h k n = some h1) : pa_new (ov X h) k n = some (ov X h1) := by
  unfold pa_new at hg ⊢
  split at hg
  next hk =>
    rw [if_pos hk]
    cases hg
    exact congrArg some ov_new
  next => cases hg
theorem pv_nz_at {st : List Value} (h : pv_nz st = true) {a : Nat} (ha : Value.ref a ∈ st) : 17 ≤ a := by
  have := List.all_eq_true.mp h _ ha
  exact Nat.le_of_ble_eq_true this
theorem pv_step {L : Nat} {X : Nat → Nat → Int32} {e : pe_T} {pc pc1 : Nat} {lv lv1 : List (Nat × Value)} {st st1 : List Value} {h h1 : ph_T} (hw : pv_wl e.2.1 = true) (hn : pv_nz st = true) (hs : ps_step 0 e (pc, lv, st, h) = some (pc1, lv1, st1, h1)) : ps_step L e (pc, lv, st, ov X h) = some (pc1, lv1, st1, ov X h1) := by
  obtain ⟨pc', i, nx, k, v⟩ := e
  cases i <;> try (exact absurd (show false = true from hw) Bool.false_ne_true)
  all_goals simp only [ps_step] at hs ⊢
  case iconst z => cases hs; rfl
  case bipush z => cases hs; rfl
  case sipush z => cases hs; rfl
  case ldc j =>
    split at hs
    next hk => rw [if_pos hk]; cases hs; rfl
    next hk => rw [if_neg hk]; cases hs; rfl
  case ldc_w j => cases hs; rfl
  case iload_n j =>
    obtain ⟨w, hgg, hs⟩ := Option.map_eq_some_iff.mp hs
    cases hs
    rw [hgg]; rfl
  case aload_n j =>
    obtain ⟨w, hgg, hs⟩ := Option.map_eq_some_iff.mp hs
    cases hs
    rw [hgg]; rfl
  case istore_n j =>
    split at hs
    · cases hs; rfl
    · cases hs
  case iinc j z =>
    split at hs
    next hq => cases hs; rfl
    · cases hs
  case dup =>
    split at hs
    · split at hs
      next hc => rw [if_pos hc]; cases hs; rfl
      · cases hs
    · cases hs
  case if_icmp c o =>
    split at hs
    · cases hs; rfl
    · cases hs
  case goto o => cases hs; rfl
  case getfield j =>
    split at hs
    next a r =>
      obtain ⟨w, hgg, hs⟩ := Option.map_eq_some_iff.mp hs
      cases hs
      rw [ov_get (pv_nz_at hn (by simp)) hgg]; rfl
    · cases hs
  case putfield j =>
    split at hs
    next w a r =>
      obtain ⟨w, hgg, hs⟩ := Option.map_eq_some_iff.mp hs
      cases hs
      rw [ov_put (pv_nz_at hn (by simp)) hgg]; rfl
    · cases hs
  case iastore =>
    split at hs
    next x i a r =>
      obtain ⟨w, hgg, hs⟩ := Option.map_eq_some_iff.mp hs
      cases hs
      rw [ov_st (pv_nz_at hn (by simp)) hgg]; rfl
    · cases hs
  case aastore =>
    split at hs
    next b i a r =>
      obtain ⟨w, hgg, hs⟩ := Option.map_eq_some_iff.mp hs
      cases hs
      rw [ov_str (pv_nz_at hn (by simp)) (pv_nz_at hn (by simp)) hgg]; rfl
    · cases hs
  case new j =>
    split at hs
    next hk =>
      rw [if_pos hk, ov_new]
      cases hs
      rfl
    · cases hs
  case newarray t =>
    split at hs
    next n r =>
      obtain ⟨w, hgg, hs⟩ := Option.map_eq_some_iff.mp hs
      cases hs
      rw [ov_newa hgg]; rfl
    · cases hs
  case anewarray t =>
    split at hs
    next n r =>
      obtain ⟨w, hgg, hs⟩ := Option.map_eq_some_iff.mp hs
      cases hs
      rw [ov_newa hgg]; rfl
    · cases hs
  case invokespecial j =>
    split at hs
    · split at hs
      next hk => rw [if_pos hk]; cases hs; rfl
      · cases hs
    · cases hs
theorem pv_run_sound {L d : Nat} {X : Nat → Nat → Int32} {call : Nat → List Value → ph_T → Option ph_T} (hc : ∀ m As h h', call m As h = some h' → pr_C L d m As (ov X h) none (ov X h')) {G : pm_T} (hG : G.2.2.2.2.1 = none) : ∀ (n : Nat) (s : ps_T) (h' : ph_T), pv_run call G n s = some h' → pr_G L d G (s.1, s.2.1, s.2.2.1, ov X s.2.2.2) none (ov X h') := by
  intro n
  induction n with
  | zero => intro s h' e; cases e
  | succ n ih =>
    intro s h' e
    obtain ⟨pc, lv, st, h⟩ := s
    unfold pv_run at e
    split at e
    · cases e
    next en hf =>
      have hf : pf G pc = some en := hf
      split at e
      next hi hst =>
        cases e
        have hst : st = [] := hst
        subst hst
        exact ⟨0, _, rfl, ⟨en, hf, Or.inr (Or.inr (Or.inr ⟨hi, rfl, hG, rfl⟩))⟩, rfl⟩
      next =>
        split at e
        · cases e
        next hw =>
          rw [Bool.and_eq_true] at hw
          split at e
          next s1 hs =>
            obtain ⟨pc1, lv1, st1, h1⟩ := s1
            exact gs_step hf (pv_step hw.1 hw.2 hs) (ih _ _ e)
          next =>
            split at e
            next j hj =>
              split at e
              next hcond =>
                simp only [Bool.and_eq_true] at hcond
                obtain ⟨c1, c2, c3, c4⟩ := hcond
                split at e
                next b Bs hA =>
                  split at e
                  next h2 hcall =>
                    have hq := ih _ _ e
                    obtain ⟨n', s', g1, g2⟩ := hq
                    have hAs : st = (Value.ref b :: Bs).reverse ++ st.drop (pm en.2.2.2.1).2.2.2.2.2.1 := by
                      rw [← hA, List.reverse_reverse, List.take_append_drop]
                    have hlen : (Value.ref b :: Bs).length = (pm en.2.2.2.1).2.2.2.2.2.1 := by
                      rw [← hA, List.length_reverse, List.length_take]
                      show min _ st.length = _
                      have := Nat.le_of_ble_eq_true c2
                      omega
                    exact ⟨n' + 1, s', ⟨_, Or.inr ⟨en, hf, Or.inr ⟨Value.ref b :: Bs, st.drop (pm en.2.2.2.1).2.2.2.2.2.1, none, ov X h2, hAs, hlen, Nat.le_of_ble_eq_true c4, Nat.le_of_ble_eq_true c1, Or.inr (Or.inl ⟨j, b, Bs, hj, rfl⟩), hc _ _ _ _ hcall, rfl⟩⟩, g1⟩, g2⟩
                  · cases e
                · cases e
              · cases e
            · cases e
theorem pv_sound {L : Nat} {X : Nat → Nat → Int32} : ∀ (d m : Nat) (As : List Value) (h h' : ph_T), pv d m As h = some h' → pr_C L d m As (ov X h) none (ov X h') := by
  intro d
  induction d with
  | zero => intro m As h h' e; cases e
  | succ d ih =>
    intro m As h h' e
    unfold pv at e
    split at e
    next hc =>
      simp only [Bool.and_eq_true, decide_eq_true_eq] at hc
      exact ⟨Nat.le_of_ble_eq_true hc.1, pv_run_sound ih hc.2 _ _ _ e⟩
    · cases e
