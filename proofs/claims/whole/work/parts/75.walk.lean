/-! THE WALK OF THE LAW out of the pure function lp_law -/
theorem pz_P_congr {Z : pz_T} {h h1 : ph_T} {H : Heap} (hl : h1.1 = h.1) (he : ∀ i, i < h.1.length → ∀ j, j < (h.1.getD i (99, 0)).2 → h1.2.1 (17 + i) j = h.2.1 (17 + i) j ∧ h1.2.2 (17 + i) j = h.2.2 (17 + i) j) (hP : pz_P Z h H) : pz_P Z h1 H := by
  intro k q hq
  have hk : k < h.1.length := by
    have := (List.getElem?_eq_some_iff.mp hq).1
    rw [pz_W_len, hl] at this
    exact this
  rw [pz_W_at Z h1 (by rw [hl]; exact hk), hl] at hq
  cases hq
  have hk0 := hP k _ (pz_W_at Z h hk)
  have he := he k hk
  generalize h.1.getD k (99, 0) = s at hk0 he ⊢
  by_cases h4 : s.1 < 4
  · rw [pz_cell_i h4] at hk0 ⊢
    show H[Z.2.2.1 + k]? = some (vp_cell (Z.2.1 s.1) (s.2, .inl (h1.2.2 (17 + k))))
    have hk0 : H[Z.2.2.1 + k]? = some (vp_cell (Z.2.1 s.1) (s.2, .inl (h.2.2 (17 + k)))) := hk0
    rw [hk0, vp_cell_i, vp_cell_i]
    unfold arrV
    congr 3
    funext j
    exact congrArg Value.int (he j.val j.isLt).2.symm
  · by_cases h7 : s.1 < 7
    · rw [pz_cell_r (by omega) h7] at hk0 ⊢
      show H[Z.2.2.1 + k]? = some (vp_cell (Z.2.1 s.1) (s.2, .inr (.inr (.inr (.inr (fun j => pz_rf Z (h1.2.1 (17 + k) j)))))))
      have hk0 : H[Z.2.2.1 + k]? = some (vp_cell (Z.2.1 s.1) (s.2, .inr (.inr (.inr (.inr (fun j => pz_rf Z (h.2.1 (17 + k) j))))))) := hk0
      rw [hk0, vp_cell_q, vp_cell_q]
      unfold arrV
      congr 3
      funext j
      exact congrArg (fun z => va_rf (pz_rf Z z)) (he j.val j.isLt).1.symm
    · rw [pz_cell_o (by omega)] at hk0 ⊢
      have e1 : (List.range s.2).map (fun j => pz_fv Z h1 (17 + k) (s.1 - 10) j) = (List.range s.2).map (fun j => pz_fv Z h (17 + k) (s.1 - 10) j) := by
        apply List.map_congr_left
        intro j hj
        have hj := List.mem_range.mp hj
        unfold pz_fv
        rw [(he j hj).1, (he j hj).2]
      rw [e1]
      exact hk0
theorem pr_N_app {C : Nat → List Value → ph_T → Option Value → ph_T → Prop} {L : Nat} {G : pm_T} : ∀ (n k : Nat) (s s1 s2 : ps_T), pr_N C L G n s s1 → pr_N C L G k s1 s2 → pr_N C L G (n + k) s s2 := by
  intro n
  induction n with
  | zero => intro k s s1 s2 h1 h2; cases h1; rw [Nat.zero_add]; exact h2
  | succ n ih =>
    intro k s s1 s2 h1 h2
    obtain ⟨s0, a, b⟩ := h1
    rw [show n + 1 + k = (n + k) + 1 by omega]
    exact ⟨s0, a, ih k s0 s1 s2 b h2⟩
def pr_T (L d : Nat) (G : pm_T) (s s' : ps_T) : Prop := ∃ n, pr_N (pr_C L d) L G n s s'
theorem pt_step {L d : Nat} {G : pm_T} {s s1 s' : ps_T} {e : pe_T} (hf : pf G s.1 = some e) (hs : ps_step L e s = some s1) (q : pr_T L d G s1 s') : pr_T L d G s s' := by
  obtain ⟨n, h⟩ := q
  exact ⟨n + 1, s1, Or.inr ⟨e, hf, Or.inl hs⟩, h⟩
theorem pt_init {L d : Nat} {G : pm_T} {s' : ps_T} {pc nx j k b : Nat} {v : Int} {lv : List (Nat × Value)} {st : List Value} {h h1 : ph_T} (hf : pf G pc = some (pc, .invokespecial j, nx, k, v)) (hc : pr_C L d k [.ref b] h none h1) (hn : 1 = (pm k).2.2.2.2.2.1) (hw : Nat.ble (pk_sum st) 8 = true) (hk : k < 193) (q : pr_T L d G (nx, lv, st, h1) s') : pr_T L d G (pc, lv, .ref b :: st, h) s' := by
  obtain ⟨n, h2⟩ := q
  exact ⟨n + 1, _, Or.inr ⟨_, hf, Or.inr ⟨[.ref b], st, none, h1, rfl, hn, Nat.le_of_ble_eq_true hw, hk, Or.inr (Or.inl ⟨j, b, [], rfl, rfl⟩), hc, rfl⟩⟩, h2⟩
theorem wl_begin (L : Nat) (X : Nat → Nat → Int32) : ∃ h2 : ph_T, hc_2 = some h2 ∧ pr_T L 10 mt_L_law (0, [(0, .ref 0)], [], ov X hc_0) (18, [(3, .int 0), (2, .ref 110), (1, .ref 17), (0, .ref 0)], [], ov X h2) := by
  have hl := hc_l1
  have h2ok := hc_t2
  cases h1 : hc_1 with
  | none => rw [h1] at hl; cases hl
  | some g1 =>
    rw [h1] at hl
    have hlen : g1.1.length = 93 := of_decide_eq_true hl
    cases e2 : hc_2 with
    | none => rw [e2] at h2ok; cases h2ok
    | some g2 =>
      refine ⟨g2, rfl, ?_⟩
      have c1 : pr_C L 5 59 [.ref 17] (ov X (ph_new hc_0 18 9)) none (ov X g1) := pv_sound 5 59 _ _ _ h1
      have e3 : pv 5 115 [.ref 110] (ph_new g1 19 44) = some g2 := by
        unfold hc_2 at e2
        rw [h1] at e2
        exact e2
      have c2 : pr_C L 5 115 [.ref 110] (ov X (ph_new g1 19 44)) none (ov X g2) := pv_sound 5 115 _ _ _ e3
      refine pt_step (s1 := (3, [(0, .ref 0)], [.ref 17], ph_new (ov X hc_0) 18 9)) (e := (0, .new 7, 3, 8, 0)) rfl rfl ?_
      rw [ov_new]
      refine pt_step (s1 := (4, [(0, .ref 0)], [.ref 17, .ref 17], ov X (ph_new hc_0 18 9))) (e := (3, .dup, 4, 0, 0)) rfl rfl ?_
      refine pt_init rfl (pr_C_le (by decide) c1) rfl rfl (by decide) ?_
      refine pt_step (s1 := (8, [(1, .ref 17), (0, .ref 0)], [], ov X g1)) (e := (7, .astore_n 1, 8, 0, 0)) rfl rfl ?_
      have hadr : 17 + (ov X g1).1.length = 110 := by show 17 + g1.1.length = 110; omega
      refine pt_step (s1 := (11, [(1, .ref 17), (0, .ref 0)], [.ref 110], ph_new (ov X g1) 19 44)) (e := (8, .new 10, 11, 9, 0)) rfl (by rw [← hadr]; rfl) ?_
      rw [ov_new]
      refine pt_step (s1 := (12, [(1, .ref 17), (0, .ref 0)], [.ref 110, .ref 110], ov X (ph_new g1 19 44))) (e := (11, .dup, 12, 0, 0)) rfl rfl ?_
      refine pt_init rfl (pr_C_le (by decide) c2) rfl rfl (by decide) ?_
      refine pt_step (s1 := (16, [(2, .ref 110), (1, .ref 17), (0, .ref 0)], [], ov X g2)) (e := (15, .astore_n 2, 16, 0, 0)) rfl rfl ?_
      refine pt_step (s1 := (17, [(2, .ref 110), (1, .ref 17), (0, .ref 0)], [.int 0], ov X g2)) (e := (16, .iconst 0, 17, 0, 0)) rfl rfl ?_
      refine pt_step (s1 := (18, [(3, .int 0), (2, .ref 110), (1, .ref 17), (0, .ref 0)], [], ov X g2)) (e := (17, .istore_n 3, 18, 0, 0)) rfl rfl ?_
      exact ⟨0, rfl⟩
theorem wl_pic {X : Nat → Nat → Int32} {g : ph_T} (h : hc_2 = some g) : (hH (fun a j => if a < 17 then X a j else INI a j)).1 = (ov X g).1 ∧ ∀ i, i < (ov X g).1.length → ∀ j, j < ((ov X g).1.getD i (99, 0)).2 → (hH (fun a j => if a < 17 then X a j else INI a j)).2.1 (17 + i) j = (ov X g).2.1 (17 + i) j ∧ (hH (fun a j => if a < 17 then X a j else INI a j)).2.2 (17 + i) j = (ov X g).2.2 (17 + i) j := by
  have h2 := hc_t2
  rw [h] at h2
  have h2 : (decide (g.1 = SH) && (List.range 124).all (fun i => (List.range (SH.getD i (0, 0)).2).all (fun j => decide (g.2.1 (17 + i) j = MR (17 + i) j) && decide (g.2.2 (17 + i) j = INI (17 + i) j)))) = true := h2
  rw [Bool.and_eq_true] at h2
  have hsh : g.1 = SH := of_decide_eq_true h2.1
  refine ⟨hsh.symm, fun i hi j hj => ?_⟩
  have hi : i < 124 := by
    have : i < g.1.length := hi
    rw [hsh] at this
    exact this
  have hj : j < (SH.getD i (0, 0)).2 := by
    have h3 : j < (g.1.getD i (99, 0)).2 := hj
    rw [hsh] at h3
    rw [List.getD_eq_getElem?_getD, List.getElem?_eq_getElem (show i < SH.length from hi)] at h3 ⊢
    exact h3
  have h4 := List.all_eq_true.mp (List.all_eq_true.mp h2.2 i (List.mem_range.mpr hi)) j (List.mem_range.mpr hj)
  simp only [Bool.and_eq_true, decide_eq_true_eq] at h4
  refine ⟨h4.1.symm, ?_⟩
  show (if 17 + i < 17 then X (17 + i) j else INI (17 + i) j) = if 17 + i < 17 then X (17 + i) j else g.2.2 (17 + i) j
  rw [if_neg (by omega), if_neg (by omega)]
  exact h4.2.symm
theorem wl_room : SH.length ≤ 0 + room_1.cells ∧ pz_tot SH ≤ 0 + room_1.slots := by decide +kernel
set_option maxRecDepth 100000 in
/-- the walk, if the pure function says so -/
theorem whole_open {p : Program} {e : Env} {s : State} {m : MethodId} {below : List Frame} {meth : Method} {c : Code} (l : Launch) {b L : Nat} {xs : Nat → Int32} (C0 : lw_At p s m meth c b L xs) (hpure : ∃ g, lp_law L 5000 0 (f_init xs) = some (.inr g)) : W p l e room_1 s m #[Value.ref b] below meth c s.heap [] 0 0 (lw_Z below #[Value.ref b] s) (entryFrame m ([Value.ref b] : List Value).toArray 4) := by
  obtain ⟨Z, ⟨hb1, hb2⟩, hf, hK, hX, hN⟩ := wl_Z C0
  obtain ⟨hx, hb, hr, hml, hown, hts, -, -, hlocks, -⟩ := id C0
  obtain ⟨g, hg⟩ := hpure
  have hC0 : pz_C Z L p room_1 s m #[Value.ref b] meth c (pm 193) (ov (X0 xs) hc_0) 0 :=
    ⟨⟨hx, hb, hml, hown, fun w hw => hts w (pz_B_good w hw).1⟩, ⟨hK, hX, hN, by rw [hb1]; rfl⟩, hf, fun z => absurd z (by decide), by decide, by decide⟩
  have hS := pz_sound pz_tab_ok Z hf L l 10
  have hRd : 10 + 1 ≤ room_1.frames ∧ 60 * 10 + 60 ≤ room_1.locals := by decide
  obtain ⟨h2, hh2, n1, hseg1⟩ := wl_begin L (X0 xs)
  have hG : pr_G L 10 mt_L_law (18, [(0, .ref 0), (1, .ref 17), (2, .ref 110), (3, .int 0)], [], hH (f_init xs)) (some (.int 1)) (hH g) := by
    refine (tl_law L 5000 0 (f_init xs) _ hg).2 g rfl _ _ ?_
    refine gs_iconst (x := 1) rfl (by decide) ?_
    exact gs_iret rfl rfl (by decide) rfl rfl
  obtain ⟨n2, x2, hseg2, hret, hh⟩ := hG
  -- the end
  have hJ2 : pz_J Z p l e room_1 s m #[Value.ref b] below meth c (lw_Z below #[Value.ref b] s) (pm 193) (ov (X0 xs) hc_0) 0 0 x2 := by
    obtain ⟨pc, lv, st, hp⟩ := x2
    obtain ⟨en, hen, hx2⟩ := hret
    obtain ⟨hin, hpc⟩ := pf_mem hen
    obtain ⟨hd0, hn, -⟩ := pz_tab_ok 193 (by omega) en hin
    have hh : hp = hH g := hh
    subst hh
    rcases hx2 with ⟨hi, y, ty, hst, hty, hna, hy⟩ | ⟨-, y, -, -, hy⟩ | ⟨-, a, nn, -, -, hy⟩ | ⟨-, -, -, hy⟩
    · have hy : y = 1 := by cases hy; rfl
      subst hy
      have hst : st = [.int 1] := hst
      subst hst
      have hpc : pc = en.1 := hpc
      have hd : decode code pc = .ok (.ireturn, 1) := by
        have h3 := hn 1 (by rw [hi]; rfl)
        have h4 : decode code en.1 = .ok (en.2.1, en.2.2.1 - en.1) := hd0
        rw [hpc, h4, hi, h3, show en.1 + 1 - en.1 = 1 by omega]
      intro H locs ls cells slots hP hS2 hl he hc hs
      have hc : cells + 0 = 124 := hc
      have hs : slots + 0 = pz_tot SH := hs
      have e1 : pz_tot SH = 6702 := by decide +kernel
      refine va_forget (fun q hq => ?_) (W.widen (k := 600000) (n := 7302249) (by omega) (by omega) (lw_ret hx hb hr hlocks hd))
      have := hS2.2.2 q hq
      unfold pz_A at this
      rw [hb1] at this
      exact this
    · cases hy
    · cases hy
    · cases hy
  have hlen2 : x2.2.2.2.1.length ≤ 0 + room_1.cells ∧ pz_tot x2.2.2.2.1 ≤ 0 + room_1.slots := by
    rw [hh]
    exact wl_room
  have hJ1 := pz_run (d := 10) (l := l) (e := e) (below := below) (t0 := 0) pz_tab_ok (by omega : (193 : Nat) < 194) hC0 hS hRd n2 _ x2 hseg2 hlen2 hJ2
  have hpic := wl_pic (X := X0 xs) hh2
  have hJ1' : pz_J Z p l e room_1 s m #[Value.ref b] below meth c (lw_Z below #[Value.ref b] s) (pm 193) (ov (X0 xs) hc_0) 0 0 (18, [(3, .int 0), (2, .ref 110), (1, .ref 17), (0, .ref 0)], [], ov (X0 xs) h2) := by
    intro H locs ls cells slots hP hS2 hl he hc hs
    refine hJ1 H locs ls cells slots (pz_P_congr hpic.1 hpic.2 hP) hS2 (lv_sub hl [3, 2, 1, 0] rfl) (fun a ha => ?_) ?_ ?_
    · funext j
      show (if a < 17 then X0 xs a j else INI a j) = if a < 17 then X0 xs a j else 0
      rw [if_pos ha, if_pos ha]
    · have : cells + 0 = h2.1.length := hc
      rw [this]
      exact congrArg List.length hpic.1.symm
    · have : slots + 0 = pz_tot h2.1 := hs
      rw [this]
      exact congrArg pz_tot hpic.1.symm
  have hlen1 : (ov (X0 xs) h2).1.length ≤ 0 + room_1.cells ∧ pz_tot (ov (X0 xs) h2).1 ≤ 0 + room_1.slots := by
    rw [← hpic.1]
    exact wl_room
  have hJ0 := pz_run (d := 10) (l := l) (e := e) (below := below) (t0 := 0) pz_tab_ok (by omega : (193 : Nat) < 194) hC0 hS hRd n1 _ _ hseg1 hlen1 hJ1'
  have hl := lv_entry ([.ref b]) (n := 4) (Nat.le_of_ble_eq_true rfl)
  rw [lg_entry_eq]
  refine hJ0 s.heap [] _ 0 0 ?_ va_S.rf ?_ (fun _ _ => rfl) rfl rfl
  · intro k q hq
    have : k < 0 := (List.getElem?_eq_some_iff.mp hq).1
    omega
  · have e1 : pz_ad Z 0 = b := by rw [pz_ad_ext (by omega)]; exact hb2
    have e2 : (([(0, .ref 0)] : List (Nat × Value)).map (fun q => (q.1, pz_v Z q.2))) = [(0, .ref b)] := by
      show [(0, Value.ref (pz_ad Z 0))] = _
      rw [e1]
    show lv_has _ 4 (([(0, .ref 0)] : List (Nat × Value)).map (fun q => (q.1, pz_v Z q.2)))
    rw [e2]
    exact hl
