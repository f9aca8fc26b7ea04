/-! THE MACHINE FOLLOWS THE PURE MACHINE -/
section PT
variable {Z : pz_T} {L : Nat} {p : Program} {l : Launch} {e : Env} {R : Room} {s : State} {m : MethodId} {args : Array Value} {below : List Frame} {meth : Method} {c : Code} {Q : State → Prop} {h0 : ph_T} {n0 t0 : Nat}
theorem pf_mem {G : pm_T} {pc : Nat} {en : pe_T} (h : pf G pc = some en) : en ∈ G.2.2.2.2.2.2 ∧ pc = en.1 := by
  unfold pf at h
  refine ⟨List.mem_of_find?_eq_some h, ?_⟩
  have := List.find?_some h
  exact (by simpa using this : en.1 = pc).symm
theorem pz_run (htab : pz_tab) {k : Nat} (hk : k < 194) (C0 : pz_C Z L p R s m args meth c (pm k) h0 n0) {d : Nat} (hC : ∀ k As h r h', pr_C L d k As h r h' → k < 193 → (∃ n, pe_call (pm k) n) → pz_mono h h' ∧ pz_M Z L l d k As h r h') (hRd : d + 1 ≤ R.frames ∧ 60 * d + 60 ≤ R.locals) :
    ∀ (n : Nat) (x x1 : ps_T), pr_N (pr_C L d) L (pm k) n x x1 → (x1.2.2.2.1.length ≤ n0 + R.cells ∧ pz_tot x1.2.2.2.1 ≤ t0 + R.slots) → pz_J Z p l e R s m args below meth c Q (pm k) h0 n0 t0 x1 → pz_J Z p l e R s m args below meth c Q (pm k) h0 n0 t0 x := by
  intro n
  induction n with
  | zero => intro x x1 h _ q; cases h; exact q
  | succ n ih =>
    intro x x1 h hr q
    obtain ⟨s1, hdr | ⟨en, hf, hs⟩, h2⟩ := h
    · have q1 := ih s1 x1 h2 hr q
      obtain ⟨ks, rfl⟩ := hdr
      intro H locs ls cells slots hP hS hl he hc hsl
      refine q1 H locs ls cells slots hP hS (lv_sub hl ks ?_) he hc hsl
      simp [lv_pick, List.map_filterMap]
    have q1 := ih s1 x1 h2 hr q
    have hm := pr_mono_N n s1 x1 h2
    have hr1 : s1.2.2.2.1.length ≤ n0 + R.cells ∧ pz_tot s1.2.2.2.1 ≤ t0 + R.slots := ⟨Nat.le_trans hm.1 hr.1, Nat.le_trans hm.2.1 hr.2⟩
    obtain ⟨hin, hpc⟩ := pf_mem hf
    have hok := htab k hk en hin
    rcases hs with hs | hs
    · exact pz_step C0 hok hpc hs hr1 q1
    · exact pz_callW C0 hok hC hpc hs hRd hr1 q1
theorem pz_retW (htab : pz_tab) {k : Nat} (hk : k < 194) (C0 : pz_C Z L p R s m args meth c (pm k) h0 n0) (hr : meth.sig.returnType = (pm k).2.2.2.2.1) (hlocks : meth.locks = false) {x : ps_T} {r : Option Value} (hx : pr_R (pm k) x r) {mc ms : Nat} (hmc : mc + n0 = x.2.2.2.1.length) (hms : ms + t0 = pz_tot x.2.2.2.1) :
    pz_J Z p l e R s m args below meth c (MQ below (pz_Qc Z r x.2.2.2) args s mc ms (pz_A Z)) (pm k) h0 n0 t0 x := by
  obtain ⟨pc, lv, st, h⟩ := x
  obtain ⟨⟨hx', hb, -, -, -⟩, -⟩ := C0
  obtain ⟨en, hf, hx⟩ := hx
  obtain ⟨hin, hpc⟩ := pf_mem hf
  obtain ⟨hd0, hn, -⟩ := htab k hk en hin
  have hpc : pc = en.1 := hpc
  intro H locs ls cells slots hP hS hl he hc hs
  have hmc : mc + n0 = h.1.length := hmc
  have hms : ms + t0 = pz_tot h.1 := hms
  have hc : cells + n0 = h.1.length := hc
  have hs : slots + t0 = pz_tot h.1 := hs
  have e1 : mc = cells := by omega
  have e2 : ms = slots := by omega
  subst e1; subst e2
  have hq : ∀ t : State, t.heap = H → s.WarmedH t.vm → pz_Qc Z r h args s (.returned (r.map (pz_v Z))) t := fun t ht _ => ⟨rfl, by rw [ht]; exact hP, hS.F ht⟩
  have key : ∀ i, en.2.1 = i → pe_len i = some 1 → decode (pm k).2.2.1 pc = .ok (i, 1) := by
    intro i hi h1
    have h2 := hn 1 (by rw [hi]; exact h1)
    rw [hpc, hd0, hi, h2, show en.1 + 1 - en.1 = 1 by omega]
  rcases hx with ⟨hi, y, ty, hst, hty, hna, rfl⟩ | ⟨hi, y, hst, hty, rfl⟩ | ⟨hi, a, n, hst, hty, rfl⟩ | ⟨hi, hst, hty, rfl⟩
  · have hst : st = [.int y] := hst
    subst hst
    exact W.zret hx' hb (by rw [hr]; exact hty) hna hq hS.2.2 (key _ hi rfl) hlocks
  · have hst : st = [.long y] := hst
    subst hst
    exact W.lret hx' hb (by rw [hr]; exact hty) hq hS.2.2 (key _ hi rfl) hlocks
  · have hst : st = [.ref a] := hst
    subst hst
    exact W.aret hx' hb (by rw [hr]; exact hty) (Or.inl ⟨_, rfl⟩) (Or.inr ⟨_, rfl⟩) hq hS.2.2 (key _ hi rfl) hlocks
  · have hst : st = [] := hst
    subst hst
    exact W.vret hx' hb (by rw [hr]; exact hty) hq hS.2.2 (key _ hi rfl) hlocks
end PT
theorem pz_sound (htab : pz_tab) (Z : pz_T) (hf : Z.2.2.2.2 = .null ∨ ∃ t, Z.2.2.2.2 = .ref t) (L : Nat) (l : Launch) : ∀ (d k : Nat) (As : List Value) (h : ph_T) (r : Option Value) (h' : ph_T), pr_C L d k As h r h' → k < 193 → (∃ n, pe_call (pm k) n) → pz_mono h h' ∧ pz_M Z L l d k As h r h' := by
  intro d
  induction d with
  | zero => intro k As h r h' q; exact q.elim
  | succ d ih =>
    intro k As h r h' q hk hpe
    refine ⟨pr_mono L _ _ _ _ _ _ q, ?_⟩
    obtain ⟨hlen, n, x', h1, h2, rfl⟩ := q
    obtain ⟨-, ⟨-, -, hplain, hcls, -⟩, -⟩ := hpe
    have hm := pr_mono_N n _ x' h1
    refine Met.ofW (cc := (pm k).2.2.1) (maxL := (pm k).2.2.2.1) (ret := (pm k).2.2.2.2.1) hplain rfl ?_
    intro p e s m args below meth c s₁ B hml hv
    obtain ⟨rfl, ⟨hP, hsz⟩, hK, hX, hN⟩ := hv
    have hts0 := atoms_spec (ws := pz_ws (pm k)) B.pre
    have hts : ∀ w ∈ pz_B, w.before (As.map (pz_v Z)).toArray s = true := fun w hw => hts0 w (List.mem_cons_of_mem _ hw)
    have hown : s.vm.findClass (pm k).1 = some m.cls := by rw [hcls]; exact findClass_of_methodNamed B.named
    have hnm : (pm k).2.1.name = "<init>" → meth.name = "<init>" := fun z => (name_of_methodNamed B.named B.method).1.trans z
    have C0 : pz_C Z L p (headSpec (pz_ws (pm k)) (pz_rm (d + 1) (x'.2.2.2.1.length - h.1.length) (pz_tot x'.2.2.2.1 - pz_tot h.1))).room s m (As.map (pz_v Z)).toArray meth c (pm k) h h.1.length :=
      ⟨⟨B.exec, B.bytes, hml, hown, hts⟩, ⟨hK, hX, hN, hsz⟩, hf, hnm, by show 1 ≤ d + 1; omega, by show 60 ≤ 60 * (d + 1); omega⟩
    have hR1 : x'.2.2.2.1.length ≤ h.1.length + (x'.2.2.2.1.length - h.1.length) ∧ pz_tot x'.2.2.2.1 ≤ pz_tot h.1 + (pz_tot x'.2.2.2.1 - pz_tot h.1) := ⟨by omega, by omega⟩
    have hJ := pz_retW (l := l) (e := e) (below := below) (t0 := pz_tot h.1) htab (by omega) C0 B.returns B.notSynchronized h2 (mc := x'.2.2.2.1.length - h.1.length) (ms := pz_tot x'.2.2.2.1 - pz_tot h.1) (by have : h.1.length ≤ x'.2.2.2.1.length := hm.1; omega) (by have : pz_tot h.1 ≤ pz_tot x'.2.2.2.1 := hm.2.1; omega)
    have hJ0 := pz_run (d := d) htab (by omega) C0 ih ⟨by show d + 1 ≤ d + 1; omega, by show 60 * d + 60 ≤ 60 * (d + 1); omega⟩ n _ x' h1 hR1 hJ
    have hl := lv_entry (As.map (pz_v Z)) (n := (pm k).2.2.2.1) (by rw [pz_argl Z hf]; exact hlen)
    rw [pz_args Z hf] at hl
    rw [lg_entry_eq]
    exact hJ0 s.heap [] _ 0 0 hP va_S.rf hl (fun _ _ => rfl) (by show 0 + h.1.length = h.1.length; omega) (by show 0 + pz_tot h.1 = pz_tot h.1; omega)
