/-! the JDK's own methods, over the seven words -/
def fn_J0_length_8abf5 (a : Nat) : Option Int32 := if 3 ≤ a ∧ a < 10 then some (Int32.ofNat (px_sh 0 (a + 7)).2) else none
def fn_J0_charAt_5068e (a : Nat) (i : Int32) (f : pd_M) : Option Int32 := if (3 ≤ a ∧ a < 10) ∧ pa_in i (px_sh 0 (a + 7)).2 = true then some (((f (a + 7) i.toNatClampNeg) &&& 255).toUInt32 % 65536).toInt32 else none
theorem js_get {L : Nat} {f : pd_M} {a k : Nat} (h : 3 ≤ a ∧ a < 10) : pg_get L (hH f) a k 20 = (if k = 0 then some (.ref (a + 7)) else some (.int 0)) := by
  unfold pg_get
  rw [sh_str h, if_pos rfl, if_pos ⟨rfl, by omega⟩]
theorem js_sh {L : Nat} {f : pd_M} {a : Nat} (h : 3 ≤ a ∧ a < 10) : ps_sh L (hH f) (a + 7) = (1, (px_sh 0 (a + 7)).2) := by
  unfold ps_sh
  rw [if_pos (by omega)]
  rcases (by omega : a = 3 ∨ a = 4 ∨ a = 5 ∨ a = 6 ∨ a = 7 ∨ a = 8 ∨ a = 9) with rfl | rfl | rfl | rfl | rfl | rfl | rfl <;> rfl
theorem js_coder (L : Nat) (a : Nat) (f : pd_M) (h : 3 ≤ a ∧ a < 10) : pr_C L 1 188 [.ref a] (hH f) (some (.int 0)) (hH f) := by
  refine pr_C.of (G := mt_J0_coder_7d493) rfl rfl ?_
  show pr_G L 0 mt_J0_coder_7d493 (0, [(0, .ref a)], [], hH f) _ _
  refine gs_static0 (x := 1) rfl (by decide) ?_
  refine gs_eq0 rfl (fun c => absurd c (by decide)) (fun _ => ?_)
  refine gs_aload_n rfl rfl ?_
  refine gs_get rfl (js_get h) ?_
  refine gs_goto rfl ?_
  exact gs_iret rfl rfl (by decide) rfl rfl
theorem js_latin (L : Nat) (a : Nat) (f : pd_M) (h : 3 ≤ a ∧ a < 10) : pr_C L 1 189 [.ref a] (hH f) (some (.int 1)) (hH f) := by
  refine pr_C.of (G := mt_J0_isLatin1_aae02) rfl rfl ?_
  show pr_G L 0 mt_J0_isLatin1_aae02 (0, [(0, .ref a)], [], hH f) _ _
  refine gs_static0 (x := 1) rfl (by decide) ?_
  refine gs_eq0 rfl (fun c => absurd c (by decide)) (fun _ => ?_)
  refine gs_aload_n rfl rfl ?_
  refine gs_get rfl (js_get h) ?_
  refine gs_ne0 rfl (fun c => absurd rfl c) (fun _ => ?_)
  refine gs_iconst (x := 1) rfl (by decide) ?_
  refine gs_goto rfl ?_
  exact gs_iret rfl rfl (by decide) rfl rfl
theorem js_small : ∀ b, b < 17 → (px_sh 0 b).2 ≤ 7 := by decide
theorem th_J0_length_8abf5 (L : Nat) (a : Nat) (f : pd_M) (q : Int32) (e : fn_J0_length_8abf5 a = some q) : pr_C L 3 186 [.ref a] (hH f) (some (.int q)) (hH f) := by
  unfold fn_J0_length_8abf5 at e
  by_cases h : 3 ≤ a ∧ a < 10
  case neg => rw [if_neg h] at e; cases e
  rw [if_pos h] at e
  refine pr_C.of (G := mt_J0_length_8abf5) rfl rfl ?_
  show pr_G L 2 mt_J0_length_8abf5 (0, [(0, .ref a)], [], hH f) _ _
  refine gs_aload_n rfl rfl ?_
  refine gs_get rfl (js_get h) ?_
  refine gs_alen rfl (gd_len (x := Int32.ofNat (px_sh 0 (a + 7)).2) (js_sh h) rfl rfl) ?_
  refine gs_aload_n rfl rfl ?_
  refine gs_callvI (st := [.int (Int32.ofNat (px_sh 0 (a + 7)).2)]) rfl (pr_C_le (by decide) (js_coder L a f h)) rfl rfl rfl (by decide) (by rw [sh_str h]; rfl) (Or.inl (by omega)) ?_
  refine gs_ishr rfl ?_
  refine gs_iret rfl rfl rfl ?_ rfl
  have e := Option.some.inj e
  rw [← e]
  have hs := js_small (a + 7) (by omega)
  have key : ∀ n, n ≤ 7 → Int32.ofNat n >>> ((0 : Int32) &&& 31) = Int32.ofNat n := by decide
  rw [key _ hs]
theorem js_check (L : Nat) (i : Int32) (n : Nat) (f : pd_M) (hn : n < 2 ^ 31) (h : pa_in i n = true) : pr_C L 2 190 [.int i, .int (Int32.ofNat n)] (hH f) none (hH f) := by
  have hin := pa_in_iff.mp h
  have h0 : ¬ i < 0 := fun z => hin (Or.inl z)
  have h1 : i < Int32.ofNat n := by
    obtain ⟨j, hj, rfl⟩ := vp_in_of hin hn
    exact nI_lt hj hn
  have hc : pr_C L 1 192 [.int i, .int (Int32.ofNat n), .null] (hH f) (some (.int i)) (hH f) := by
    refine pr_C.of (G := mt_J3_checkIndex_8e157) rfl rfl ?_
    show pr_G L 0 mt_J3_checkIndex_8e157 (0, [(0, .int i), (1, .int (Int32.ofNat n)), (2, .null)], [], hH f) _ _
    refine gs_iload_n rfl rfl ?_
    refine gs_lt0 rfl (fun c => absurd c h0) (fun _ => ?_)
    refine gs_iload_n rfl rfl ?_
    refine gs_iload_n rfl rfl ?_
    refine gs_lt2 rfl (fun _ => ?_) (fun c => absurd h1 c)
    refine gs_iload_n rfl rfl ?_
    exact gs_iret rfl rfl rfl rfl rfl
  refine pr_C.of (G := mt_J0_checkIndex_df160) rfl rfl ?_
  show pr_G L 1 mt_J0_checkIndex_df160 (0, [(0, .int i), (1, .int (Int32.ofNat n))], [], hH f) _ _
  refine gs_iload_n rfl rfl ?_
  refine gs_iload_n rfl rfl ?_
  refine gs_static2 rfl ?_
  refine gs_callsI (st := []) rfl hc rfl rfl rfl (by decide) ?_
  refine gs_pop rfl rfl ?_
  exact gs_vret rfl rfl rfl rfl
theorem th_J0_charAt_5068e (L : Nat) (a : Nat) (i : Int32) (f : pd_M) (q : Int32) (e : fn_J0_charAt_5068e a i f = some q) : pr_C L 4 187 [.ref a, .int i] (hH f) (some (.int q)) (hH f) := by
  unfold fn_J0_charAt_5068e at e
  by_cases h : (3 ≤ a ∧ a < 10) ∧ pa_in i (px_sh 0 (a + 7)).2 = true
  case neg => rw [if_neg h] at e; cases e
  rw [if_pos h] at e
  obtain ⟨h, hin⟩ := h
  cases e
  have hn : (px_sh 0 (a + 7)).2 < 2 ^ 31 := by have := js_small (a + 7) (by omega); omega
  have hc : pr_C L 3 191 [.ref (a + 7), .int i] (hH f) (some (.int (((f (a + 7) i.toNatClampNeg) &&& 255).toUInt32 % 65536).toInt32)) (hH f) := by
    refine pr_C.of (G := mt_J1_charAt_3b067) rfl rfl ?_
    show pr_G L 2 mt_J1_charAt_3b067 (0, [(0, .ref (a + 7)), (1, .int i)], [], hH f) _ _
    refine gs_iload_n rfl rfl ?_
    refine gs_aload_n rfl rfl ?_
    refine gs_alen rfl (gd_len (x := Int32.ofNat (px_sh 0 (a + 7)).2) (js_sh h) rfl rfl) ?_
    refine gs_callsV (st := []) rfl (js_check L i _ f hn hin) rfl rfl rfl (by decide) ?_
    refine gs_aload_n rfl rfl ?_
    refine gs_iload_n rfl rfl ?_
    refine gs_bald rfl (gd_ba (js_sh h) hin rfl) ?_
    refine gs_sipush (x := 255) rfl (by decide) ?_
    refine gs_iand rfl ?_
    refine gs_i2c rfl ?_
    exact gs_iret rfl rfl (pk_nc _) rfl rfl
  refine pr_C.of (G := mt_J0_charAt_5068e) rfl rfl ?_
  show pr_G L 3 mt_J0_charAt_5068e (0, [(0, .ref a), (1, .int i)], [], hH f) _ _
  refine gs_aload_n rfl rfl ?_
  refine gs_callvI (st := []) rfl (pr_C_le (by decide) (js_latin L a f h)) rfl rfl rfl (by decide) (by rw [sh_str h]; rfl) (Or.inl (by omega)) ?_
  refine gs_eq0 rfl (fun c => absurd c (by decide)) (fun _ => ?_)
  refine gs_aload_n rfl rfl ?_
  refine gs_get rfl (js_get h) ?_
  refine gs_iload_n rfl rfl ?_
  refine gs_callsI (st := []) rfl hc rfl rfl rfl (by decide) ?_
  exact gs_iret rfl rfl (pk_nc _) rfl rfl
