/-! CALLS, and a method as a whole -/
def pz_rm (d mc ms : Nat) : Room := { frames := d, cells := mc, slots := ms, locals := 60 * d }
def pz_Pc (Z : pz_T) (L : Nat) (As : List Value) (h : ph_T) : Array Value → State → Prop := fun v U => v = (As.map (pz_v Z)).toArray ∧ pz_R Z L h U
def pz_Qc (Z : pz_T) (r : Option Value) (h' : ph_T) : Array Value → State → Outcome → State → Prop := fun _ st oc t => oc = .returned (r.map (pz_v Z)) ∧ pz_P Z h' t.heap ∧ va_F (pz_A Z) st t
/-- a method's contract at the machine -/
def pz_M (Z : pz_T) (L : Nat) (l : Launch) (d m : Nat) (As : List Value) (h : ph_T) (r : Option Value) (h' : ph_T) : Prop :=
  Met l (pm m).2.1 (pz_ws (pm m)) (pz_rm d (h'.1.length - h.1.length) (pz_tot h'.1 - pz_tot h.1)) (pz_Pc Z L As h) (pz_Qc Z r h') (h'.1.length - h.1.length) (pz_tot h'.1 - pz_tot h.1) (pz_A Z)
theorem pz_blind {Z : pz_T} {L : Nat} {As : List Value} {h : ph_T} : FrameBlind (pz_Pc Z L As h) := by
  intro a U g mk q
  obtain ⟨h1, ⟨h2, h3⟩, h4, h5, h6⟩ := q
  exact ⟨h1, ⟨h2, h3⟩, va_K.moved (u := U) (U := U.calling g mk a) (Vm.Alike.refl U.vm) h4, pz_X.moved (u := U) (U := U.calling g mk a) (Vm.Alike.refl U.vm) h5, pz_N.same (u := U) rfl h6⟩
theorem pz_good {ws : List Cond} (h : ∀ w ∈ ws, w ∈ pz_B) : GoodIn pz_B ws := fun w hw => ⟨h w hw, good_of_word (pz_B_good w (h w hw)).2⟩
theorem pz_ws_in {G : pm_T} (hc : Cond.code G.2.1 G.2.2.1 G.2.2.2.1 G.2.2.2.2.1 ∈ pz_B) : ∀ w ∈ pz_ws G, w ∈ pz_B := by
  intro w hw
  rcases List.mem_cons.mp hw with rfl | hw
  · exact hc
  · exact hw
theorem pz_args (Z : pz_T) (hf : Z.2.2.2.2 = .null ∨ ∃ t, Z.2.2.2.2 = .ref t) : ∀ (As : List Value) (i : Nat), lv_args i (As.map (pz_v Z)) = (lv_args i As).map (fun q => (q.1, pz_v Z q.2)) := by
  intro As
  induction As with
  | nil => intro i; rfl
  | cons a As ih =>
    intro i
    show (i, pz_v Z a) :: lv_args (if (pz_v Z a).category = 2 then i + 2 else i + 1) (As.map (pz_v Z)) = _
    rw [pz_v_cat hf, ih]
    rfl
theorem pz_argl (Z : pz_T) (hf : Z.2.2.2.2 = .null ∨ ∃ t, Z.2.2.2.2 = .ref t) : ∀ (As : List Value), (lg_sl (As.map (pz_v Z))).length = pk_sum As := by
  intro As
  induction As with
  | nil => rfl
  | cons a As ih =>
    have e1 : lg_sl ((a :: As).map (pz_v Z)) = (if (pz_v Z a).category = 2 then [.val (pz_v Z a), .second] else [.val (pz_v Z a)]) ++ lg_sl (As.map (pz_v Z)) := by simp [lg_sl]
    have e2 : pk_sum (a :: As) = a.category + pk_sum As := by simp [pk_sum]
    rw [e1, e2, List.length_append, ih, pz_v_cat hf]
    rcases lv_cat a with z | z <;> rw [z] <;> simp
section PC
variable {Z : pz_T} {L : Nat} {p : Program} {l : Launch} {e : Env} {R : Room} {s : State} {m : MethodId} {args : Array Value} {below : List Frame} {meth : Method} {c : Code} {Q : State → Prop} {G : pm_T} {h0 : ph_T} {n0 t0 : Nat}
theorem pz_after {H : Heap} {locs : List Loc} {cells slots mc ms pc : Nat} {ls : Array Slot} {st0 rest : List Value} {r : Option Value} {h' : ph_T} {a : Array Value} (hr : va_Run p l e R s m args below meth c H locs cells slots mc ms (F0 m pc ls st0) rest (pz_Qc Z r h' a) (pz_A Z)) (hS : va_S (pz_A Z) s.heap H locs)
    (kk : ∀ (H1 : Heap) (locs1 : List Loc), pz_P Z h' H1 → va_S (pz_A Z) s.heap H1 locs1 → W p l e R s m args below meth c H1 locs1 (cells + mc) (slots + ms) Q (F0 m (pc + 3) ls ((r.map (pz_v Z)).toList ++ rest))) : W p l e R s m args below meth c H locs cells slots Q (F0 m pc ls st0) := by
  intro T hT X
  obtain ⟨v, st₀, t, T', Lq, g0, X', hL, e1, e2, ⟨hv, hp, hz, hk⟩, stp⟩ := hr T hT X
  cases hv
  rw [g0] at hz hk
  obtain ⟨t2, a1, b1⟩ := kk T'.heap (locs ++ Lq) (by rw [e1]; exact hp) ⟨Nat.le_trans hS.1 (by rw [e1]; exact hz), fun q h1 h2 => by rw [e1, hk q (Nat.lt_of_lt_of_le h1 hS.1) h2]; exact hS.2.1 q h1 h2, fun q hq => by
    rcases List.mem_append.mp hq with h | h
    · exact hS.2.2 q h
    · exact hL q h⟩ T' rfl X'
  exact ⟨t2, stp t2 a1, b1⟩
theorem pz_pre (C0 : pz_C Z L p R s m args meth c G h0 n0) {h : ph_T} {H : Heap} {locs : List Loc} {cells : Nat} {As : List Value} (hP : pz_P Z h H) (hS : va_S (pz_A Z) s.heap H locs) (he : ∀ a, a < 17 → h.2.2 a = h0.2.2 a) (hc : cells + n0 = h.1.length) (hle : H.size ≤ s.heap.size + cells) :
    ∀ U : State, U.heap = H → s.WarmedH U.vm → pz_Pc Z L As h (As.map (pz_v Z)).toArray U := by
  obtain ⟨-, ⟨hK, hX, hN, hsz⟩, -⟩ := C0
  intro U hU hW
  refine ⟨rfl, ⟨by rw [hU]; exact hP, by rw [hU]; exact pz_size_eq hP hS hsz hc hle⟩, va_K.moved hW.alike hK, ?_, pz_N.warm hW hN⟩
  rw [hU]
  exact ((hX.kept (by omega) hS.2.1).same he).moved hW.alike
set_option maxHeartbeats 1000000 in
theorem pz_callW (C0 : pz_C Z L p R s m args meth c G h0 n0) {en : pe_T} (hok : pe_ok G en) {C : Nat → List Value → ph_T → Option Value → ph_T → Prop} {d : Nat} (hC : ∀ k As h r h', C k As h r h' → k < 193 → (∃ n, pe_call (pm k) n) → pz_mono h h' ∧ pz_M Z L l d k As h r h') {x x1 : ps_T} (hpc : x.1 = en.1) (hs : pr_call C L en x x1)
    (hRd : d + 1 ≤ R.frames ∧ 60 * d + 60 ≤ R.locals) (hr : x1.2.2.2.1.length ≤ n0 + R.cells ∧ pz_tot x1.2.2.2.1 ≤ t0 + R.slots)
    (q : pz_J Z p l e R s m args below meth c Q G h0 n0 t0 x1) : pz_J Z p l e R s m args below meth c Q G h0 n0 t0 x := by
  obtain ⟨pc, lv, st, h⟩ := x
  obtain ⟨pc', i, nx, k, v⟩ := en
  have hpc : pc = pc' := hpc
  subst hpc
  obtain ⟨hd0, hn, ho⟩ := hok
  have hd0 : decode G.2.2.1 pc = .ok (i, nx - pc) := hd0
  obtain ⟨As, rest, r, h', a1, a2, a3, a4, a5, a6, rfl⟩ := hs
  have a1 : st = As.reverse ++ rest := a1
  have a2 : As.length = (pm k).2.2.2.2.2.1 := a2
  have a4 : k < 193 := a4
  have a6 : C k As h r h' := a6
  have hr : h'.1.length ≤ n0 + R.cells ∧ pz_tot h'.1 ≤ t0 + R.slots := hr
  have hf := C0.2.2.1
  have hS5 := C0.1
  intro H locs ls cells slots hP hS hl he hc hsl
  have hP : pz_P Z h H := hP
  have hc : cells + n0 = h.1.length := hc
  have hsl : slots + t0 = pz_tot h.1 := hsl
  refine pz_sized (fun hle => ?_)
  have hpre := pz_pre C0 (As := As) hP hS he hc hle
  have fin : ∀ (hm : pz_mono h h') (hnx : nx = pc + 3) (st0 : List Value) (av : Array Value), va_Run p l e R s m args below meth c H locs cells slots (h'.1.length - h.1.length) (pz_tot h'.1 - pz_tot h.1) (F0 m pc ls st0) (rest.map (pz_v Z)) (pz_Qc Z r h' av) (pz_A Z) → W p l e R s m args below meth c H locs cells slots Q (F0 m pc ls st0) := by
    intro hm hnx st0 av hrun
    refine pz_after hrun hS (fun H1 locs1 p1 s1 => ?_)
    have qq := q H1 locs1 ls (cells + (h'.1.length - h.1.length)) (slots + (pz_tot h'.1 - pz_tot h.1)) p1 s1 hl (fun a ha => (hm.2.2 a ha).trans (he a ha)) (by show _ = h'.1.length; have := hm.1; omega) (by show _ = pz_tot h'.1; have := hm.2.1; omega)
    have e1 : ((r.toList ++ rest).map (pz_v Z)) = (r.map (pz_v Z)).toList ++ rest.map (pz_v Z) := by cases r <;> rfl
    rw [← e1, ← hnx]
    exact qq
  have room : pk_sum rest ≤ 8 := a3
  have hW : 2 * (F0 m pc ls (st.map (pz_v Z))).monitorRoom + ((rest.map (pz_v Z)).map fun v => v.category).sum ≤ 8 := lv_room (by rw [pk_sum_map hf]; exact room)
  rcases a5 with ⟨j, hi⟩ | ⟨j, b, Bs, hi, hA⟩ | ⟨j, b, Bs, hi, hA, hb, hb2⟩
  · have hi : i = .invokestatic j := hi
    subst hi
    obtain ⟨hnx, w1, w2, w3⟩ := ho.2 a4
    have hnx : nx = pc + 3 := hnx
    obtain ⟨hm, hM⟩ := hC _ _ _ _ _ a6 a4 ⟨_, w3⟩
    obtain ⟨⟨c1, c2, c3, c8, c4⟩, c5, c6, c7⟩ := w3
    have c4 : (pm k).2.2.2.1 ≤ 20 := c4
    have hd : decode G.2.2.1 pc = .ok (.invokestatic j, 3) := by rw [hd0, hnx, show pc + 3 - pc = 3 by omega]
    have hst : (F0 m pc ls (st.map (pz_v Z))).stack = (As.map (pz_v Z)).reverse ++ rest.map (pz_v Z) := by show st.map (pz_v Z) = _; rw [a1, List.map_append, List.map_reverse]
    by_cases hv : v = 1
    · unfold pe_link at w2
      rw [if_pos hv] at w2
      exact fin hm hnx _ _ (va_runSN hS5 hM ⟨va_cnB _ hS5.2.2.2.2 (pz_good (pz_ws_in c1)) rfl rfl rfl (C0.2.1.2.2.1.1 _ w2) (hS5.2.2.2.2 _ c2) ⟨c5, c6, c7⟩ ⟨hRd.1, by show 8 + ((pm k).2.2.2.1 + 11) + 60 * d ≤ R.locals; omega⟩, hS5.2.2.2.2 _ w1, trivial⟩ ⟨pz_blind, hpre⟩ rfl (by rw [List.length_map]; exact a2) hl.1 hst hW hd ⟨by have := hm.1; omega, by have := hm.2.1; omega⟩)
    · unfold pe_link at w2
      rw [if_neg hv] at w2
      refine fin hm hnx _ _ (va_runS hS5 hM (va_cwS _ hS5.2.2.2.2 (pz_good (fun w hw => ?_)) rfl rfl rfl ⟨c5, c6, c7⟩ ⟨hRd.1, by show 8 + ((pm k).2.2.2.1 + 11) + 60 * d ≤ R.locals; omega⟩) ⟨pz_blind, hpre⟩ rfl (by rw [List.length_map]; exact a2) hl.1 hst hW hd ⟨by have := hm.1; omega, by have := hm.2.1; omega⟩)
      rcases List.mem_append.mp hw with hw | hw
      · simp only [List.mem_cons, List.not_mem_nil, or_false] at hw
        rcases hw with rfl | rfl | rfl
        · exact w2
        · exact w1
        · exact c2
      · exact pz_ws_in c1 w hw
  · have hi : i = .invokespecial j := hi
    subst hi
    subst hA
    obtain ⟨hnx, w0, wn, w1, w2, w3⟩ := ho.2 a4
    have hnx : nx = pc + 3 := hnx
    obtain ⟨hm, hM⟩ := hC _ _ _ _ _ a6 a4 ⟨_, w3⟩
    obtain ⟨⟨c1, c2, c3, c8, c4⟩, c5, c6, c7⟩ := w3
    have c4 : (pm k).2.2.2.1 ≤ 20 := c4
    have hd : decode G.2.2.1 pc = .ok (.invokespecial j, 3) := by rw [hd0, hnx, show pc + 3 - pc = 3 by omega]
    have hst : (F0 m pc ls (st.map (pz_v Z))).stack = (Bs.map (pz_v Z)).reverse ++ .ref (pz_ad Z b) :: rest.map (pz_v Z) := by
      show st.map (pz_v Z) = _
      rw [a1]
      simp [pz_v]
    have hlen : (Bs.map (pz_v Z)).length = (pm k).2.2.2.2.2.1 - 1 := by rw [List.length_map, ← a2]; simp
    have wn : (pm k).2.2.2.2.1 = none := wn
    have hws : pz_ws (pm k) = Cond.code (pm k).2.1 (pm k).2.2.1 (pm k).2.2.2.1 none :: pz_B := by rw [← wn]; rfl
    by_cases hv : v = 1
    · unfold pe_link at w2
      rw [if_pos hv] at w2
      exact fin hm hnx _ _ (va_runIN hS5 hM ⟨va_cnB _ hS5.2.2.2.2 (pz_good (pz_ws_in c1)) hws rfl rfl (C0.2.1.2.2.1.1 _ w2) (hS5.2.2.2.2 _ c2) ⟨c5, c6, c7⟩ ⟨hRd.1, by show 8 + ((pm k).2.2.2.1 + 11) + 60 * d ≤ R.locals; omega⟩, w0, hS5.2.2.2.2 _ w1⟩ ⟨pz_blind, hpre⟩ rfl hlen hl.1 hst hW hd ⟨by have := hm.1; omega, by have := hm.2.1; omega⟩)
    · unfold pe_link at w2
      rw [if_neg hv] at w2
      exact fin hm hnx _ _ (va_runI hS5 hM (cwI _ hS5.2.2.2.2 (pz_good (pz_ws_in c1)) hws rfl rfl (hS5.2.2.2.2 _ c2) (hS5.2.2.2.2 _ w2) (hS5.2.2.2.2 _ w1) w0 ⟨c5, c6, c7⟩ ⟨hRd.1, by show 8 + ((pm k).2.2.2.1 + 11) + 60 * d ≤ R.locals; omega⟩) ⟨pz_blind, hpre⟩ rfl hlen hl.1 hst hW hd ⟨by have := hm.1; omega, by have := hm.2.1; omega⟩)
  · have hi : i = .invokevirtual j := hi
    subst hi
    subst hA
    obtain ⟨hnx, w6, w1, w2, w3, w4, w5⟩ := ho a4
    have hnx : nx = pc + 3 := hnx
    have w4 : pe_cls v.toNat = (pm k).2.1.cls := w4
    have hb : (ps_sh L h b).1 = v.toNat := hb
    have hb2 : b < 17 ∨ v.toNat < 20 := hb2
    have w6 : 10 ≤ v.toNat ∧ v.toNat ≤ 20 := w6
    obtain ⟨hm, hM⟩ := hC _ _ _ _ _ a6 a4 ⟨_, w5⟩
    obtain ⟨⟨c1, c2, c3, c8, c4⟩, c5, c6, c7⟩ := w5
    have c4 : (pm k).2.2.2.1 ≤ 20 := c4
    have hd : decode G.2.2.1 pc = .ok (.invokevirtual j, 3) := by rw [hd0, hnx, show pc + 3 - pc = 3 by omega]
    have hst : (F0 m pc ls (st.map (pz_v Z))).stack = (Bs.map (pz_v Z)).reverse ++ .ref (pz_ad Z b) :: rest.map (pz_v Z) := by
      show st.map (pz_v Z) = _
      rw [a1]
      simp [pz_v]
    have hlen : (Bs.map (pz_v Z)).length = (pm k).2.2.2.2.2.1 - 1 := by rw [List.length_map, ← a2]; simp
    have hrecv : ∃ cellB : Cell, H[pz_ad Z b]? = some cellB ∧ cellB.vm.isStatics = false ∧ s.vm.findClass (pm k).2.1.cls = some cellB.cls := by
      rw [← w4]
      unfold pe_cls
      by_cases h20 : v.toNat = 20
      · rw [if_pos h20]
        have hb17 : b < 17 := by omega
        rw [ps_sh_ext hb17] at hb
        obtain ⟨i', rfl⟩ : ∃ i', b = 3 + i' := ⟨b - 3, by rcases px_kinds b hb17 L with z | z | z <;> omega⟩
        have hi7 : i' < 7 := by rcases px_kinds (3 + i') hb17 L with z | z | z <;> omega
        obtain ⟨cell, f1, f2, f3, -⟩ := ((C0.2.1.2.1.2.2.2.2.2 i' hi7).1).kept hS.2.1
        rw [pz_ad_ext hb17]
        exact ⟨cell, f1, f2, f3⟩
      · rw [if_neg h20]
        have hb17 : 17 ≤ b := by
          by_cases z : b < 17
          · rw [ps_sh_ext z] at hb
            rcases px_kinds b z L with y | y | y <;> omega
          · omega
        have hat := pz_at (Z := Z) (L := L) (h := h) (a := b) hb17 rfl (by omega)
        rw [pz_cell_o (by omega), hb] at hat
        have hci : v.toNat - 10 < vwCl.length := by show v.toNat - 10 < 10; omega
        have hcl : vwCl[v.toNat - 10]? = some vwCl[v.toNat - 10] := List.getElem?_eq_getElem hci
        rw [hcl]
        exact va_recv C0.2.1.1 hP hcl hat
    refine fin hm hnx _ _ (va_runV hS5 hM (cwV _ hS5.2.2.2.2 (pz_good (fun w hw => ?_)) rfl rfl rfl ⟨rfl, c5, c6, c7⟩ ⟨hRd.1, by show 8 + ((pm k).2.2.2.1 + 11) + 60 * d ≤ R.locals; omega⟩) ⟨pz_blind, hrecv, hpre⟩ rfl hlen hl.1 hst hW hd ⟨by have := hm.1; omega, by have := hm.2.1; omega⟩)
    unfold wsV at hw
    rcases List.mem_append.mp hw with hw | hw
    · simp only [List.mem_cons, List.not_mem_nil, or_false] at hw
      rcases hw with rfl | rfl | rfl | rfl
      · exact w3
      · exact w1
      · exact w2
      · exact c2
    · exact pz_ws_in c1 w hw
end PC
