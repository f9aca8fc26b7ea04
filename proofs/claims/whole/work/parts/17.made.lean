/-! ONE STEP: what is made, constants, statics -/
section PM
variable {Z : pz_T} {L : Nat} {p : Program} {l : Launch} {e : Env} {R : Room} {s : State} {m : MethodId} {args : Array Value} {below : List Frame} {meth : Method} {c : Code} {Q : State → Prop} {G : pm_T} {h0 : ph_T} {n0 t0 : Nat}
variable {pc nx k : Nat} {v : Int} {lv : List (Nat × Value)} {st : List Value} {h : ph_T} {x1 : ps_T}
/-- behind a making: the world with the new cell -/
theorem pz_made {H H1 : Heap} {kind n : Nat} (hP : pz_P Z h H) (o1 : ∀ q : Nat, q < H.size → H1[q]? = H[q]?) (hat : va_at Z.1 vwCl (Z.2.2.1 + h.1.length, pz_cell Z (ph_new h kind n) (17 + h.1.length) (kind, n)) H1) : pz_P Z (ph_new h kind n) H1 := by
  unfold pz_P
  rw [pz_W_push]
  refine va_P.app (va_P.kept hP (fun k x hx => o1 x.1 ((hP k x hx).lt))) (fun k x hx => ?_)
  have hz : k < 1 := (List.getElem?_eq_some_iff.mp hx).1
  rw [show k = 0 by omega] at hx
  cases hx
  exact hat
theorem pz_made_ext {kind n : Nat} {a : Nat} (ha : a < 17) : (ph_new h kind n).2.2 a = h.2.2 a := pi_row_off (by omega)
theorem pz_size_eq {H : Heap} {locs : List Loc} {cells : Nat} (hP : pz_P Z h H) (hS : va_S (pz_A Z) s.heap H locs) (hsz : s.heap.size = Z.2.2.1 + n0) (hc : cells + n0 = h.1.length) (hle : H.size ≤ s.heap.size + cells) : H.size = Z.2.2.1 + h.1.length := by
  have h1 := pz_P_size hP (by have := hS.1; omega)
  omega
theorem sd_new (C0 : pz_C Z L p R s m args meth c G h0 n0) {j : Nat} (hd : decode G.2.2.1 pc = .ok (.new j, 3)) (hk : k < 10) (ho : ∃ C T N, vwCl[k]? = some (C, T, N) ∧ Cond.classLink G.1 j C ∈ pz_B ∧ Cond.instantiable C N ∈ pz_B ∧ Cond.initialized C ∈ pz_B ∧ N = pf_n k)
    (hr : (ph_new h (10 + k) (pf_n k)).1.length ≤ n0 + R.cells ∧ pz_tot (ph_new h (10 + k) (pf_n k)).1 ≤ t0 + R.slots)
    (q : pz_J Z p l e R s m args below meth c Q G h0 n0 t0 (pc + 3, lv, .ref (17 + h.1.length) :: st, ph_new h (10 + k) (pf_n k))) : pz_J Z p l e R s m args below meth c Q G h0 n0 t0 (pc, lv, st, h) := by
  obtain ⟨⟨hx, hb, -, hown, hts⟩, ⟨hK, hX, -, hsz⟩, -⟩ := C0
  intro H locs ls cells slots hP hS hl he hc hs
  have hP : pz_P Z h H := hP
  have hc : cells + n0 = h.1.length := hc
  have hs : slots + t0 = pz_tot h.1 := hs
  obtain ⟨C, T, N, hcl, w1, w2, w3, rfl⟩ := ho
  obtain ⟨-, ty, hty⟩ := pz_names hcl
  have hKn := hK.1 k _ hcl
  refine pz_sized (fun hle => ?_)
  have hHs := pz_size_eq hP hS hsz hc hle
  have r1 : (ph_new h (10 + k) (pf_n k)).1.length = h.1.length + 1 := by simp [ph_new]
  have r2 : pz_tot (ph_new h (10 + k) (pf_n k)).1 = pz_tot h.1 + pf_n k := pz_tot_push _ _
  refine W.newcK hx hb hown (hts _ w1) (hts _ w2) (hts _ w3) rfl hd (by omega) (by omega) hKn.2.1 hHs fun H1 kC hkC e1 z1 o1 => ?_
  have hat : va_at Z.1 vwCl (Z.2.2.1 + h.1.length, pz_cell Z (ph_new h (10 + k) (pf_n k)) (17 + h.1.length) (10 + k, pf_n k)) H1 := by
    rw [pz_cell_o (by show 7 ≤ 10 + k; omega), show (10 + k, pf_n k).1 - 10 = k by show 10 + k - 10 = k; omega]
    refine ⟨_, hcl, (u_born ty hts (pz_words hcl) hKn hkC e1 (fun i hi => (hty i hi).1)).to (fun i hi => ?_)⟩
    have e2 : vp_V (List.map (fun j => pz_fv Z (ph_new h (10 + k) (pf_n k)) (17 + h.1.length) k j) (List.range (pf_n k))) i = pz_fv Z (ph_new h (10 + k) (pf_n k)) (17 + h.1.length) k i := by
      unfold vp_V
      rw [List.getD_eq_getElem?_getD, List.getElem?_map, List.getElem?_range hi]
      rfl
    show defaultValue (ty i) = vp_V _ i
    refine Eq.trans ?_ e2.symm
    unfold pz_fv
    have f1 : (ph_new h (10 + k) (pf_n k)).2.1 (17 + h.1.length) i = 0 := congrFun (pr_row_on (f := h.2.1) (a := 17 + h.1.length) (g := fun _ => 0)) i
    have f2 : (ph_new h (10 + k) (pf_n k)).2.2 (17 + h.1.length) i = 0 := congrFun (pi_row_on (f := h.2.2) (a := 17 + h.1.length) (g := fun _ => 0)) i
    rw [f1, f2]
    rcases (hty i hi).2 with ⟨g1, g2⟩ | ⟨g1, g2⟩ | ⟨g1, ⟨n, g2⟩ | ⟨t, g2⟩⟩ <;> rw [g1, g2] <;> rfl
  have qq := q H1 locs ls (cells + 1) (slots + pf_n k) (pz_made hP (fun x hx => o1 x (by omega)) hat) ⟨Nat.le_trans hS.1 (by omega), fun x h1 h2 => (o1 x (by have := hS.1; omega)).trans (hS.2.1 x h1 h2), hS.2.2⟩ hl (fun a ha => (pz_made_ext ha).trans (he a ha)) (by show _ = (ph_new h (10 + k) (pf_n k)).1.length; omega) (by show _ = pz_tot (ph_new h (10 + k) (pf_n k)).1; omega)
  have e3 : pz_v Z (.ref (17 + h.1.length)) = .ref (Z.2.2.1 + h.1.length) := by show Value.ref (pz_ad Z _) = _; rw [pz_ad_in (by omega), show 17 + h.1.length - 17 = h.1.length by omega]
  rw [← e3]
  exact qq
theorem sd_newa (C0 : pz_C Z L p R s m args meth c G h0 n0) {t : ArrayType} (hd : decode G.2.2.1 pc = .ok (.newarray t, 2)) (ho : k < 4 ∧ newarray.typeOf t = pk_ft k ∧ Cond.arrayClass (pk_ft k) ∈ pz_B) {n : Int32} {h1 : ph_T} (hg : pa_new h k n = some h1)
    (hr : h1.1.length ≤ n0 + R.cells ∧ pz_tot h1.1 ≤ t0 + R.slots)
    (q : pz_J Z p l e R s m args below meth c Q G h0 n0 t0 (pc + 2, lv, .ref (17 + h.1.length) :: st, h1)) : pz_J Z p l e R s m args below meth c Q G h0 n0 t0 (pc, lv, .int n :: st, h) := by
  obtain ⟨⟨hx, hb, -, hown, hts⟩, ⟨hK, hX, -, hsz⟩, -⟩ := C0
  intro H locs ls cells slots hP hS hl he hc hs
  have hP : pz_P Z h H := hP
  have hc : cells + n0 = h.1.length := hc
  have hs : slots + t0 = pz_tot h.1 := hs
  obtain ⟨hk, ht, hw⟩ := ho
  unfold pa_new at hg
  split at hg
  next hn =>
    cases hg
    refine pz_sized (fun hle => ?_)
    have hHs := pz_size_eq hP hS hsz hc hle
    have r1 : (ph_new h k n.toNatClampNeg).1.length = h.1.length + 1 := by simp [ph_new]
    have r2 : pz_tot (ph_new h k n.toNatClampNeg).1 = pz_tot h.1 + n.toNatClampNeg := pz_tot_push _ _
    have hkk : k = 0 ∨ k = 1 ∨ k = 2 ∨ k = 3 := by omega
    have hdef : defaultValue (newarray.typeOf t) = .int 0 := by rw [ht]; rcases hkk with rfl | rfl | rfl | rfl <;> rfl
    have hcb : componentBytes (newarray.typeOf t) ≤ 4 := by rw [ht]; rcases hkk with rfl | rfl | rfl | rfl <;> decide
    refine va_newaK hx hb (by rw [ht]; exact hts _ hw) rfl hd rfl hn.1 rfl (Nat.le_trans (Nat.mul_le_mul hn.2 hcb) (by decide)) (by omega) (by omega) hHs fun H1 cA e1 z1 o1 hAr hNm => ?_
    have hcA : cA = Z.2.1 k := by
      have h2 := (hK.2 k _ (pz_tys_at Z (by omega))).2
      rw [ht] at hNm
      rcases hkk with rfl | rfl | rfl | rfl
      all_goals exact Option.some.inj (hNm.symm.trans h2)
    have hat : va_at Z.1 vwCl (Z.2.2.1 + h.1.length, pz_cell Z (ph_new h k n.toNatClampNeg) (17 + h.1.length) (k, n.toNatClampNeg)) H1 := by
      rw [pz_cell_i hk]
      show H1[Z.2.2.1 + h.1.length]? = some (vp_cell (Z.2.1 k) (n.toNatClampNeg, .inl ((ph_new h k n.toNatClampNeg).2.2 (17 + h.1.length))))
      rw [vp_cell_i, show (ph_new h k n.toNatClampNeg).2.2 (17 + h.1.length) = fun _ => 0 from pi_row_on, e1, hdef, hcA]
    have qq := q H1 locs ls (cells + 1) (slots + n.toNatClampNeg) (pz_made hP (fun x hx => o1 x (by omega)) hat) ⟨Nat.le_trans hS.1 (by omega), fun x h1 h2 => (o1 x (by have := hS.1; omega)).trans (hS.2.1 x h1 h2), hS.2.2⟩ hl (fun a ha => (pz_made_ext ha).trans (he a ha)) (by show _ = (ph_new h k n.toNatClampNeg).1.length; omega) (by show _ = pz_tot (ph_new h k n.toNatClampNeg).1; omega)
    have e3 : pz_v Z (.ref (17 + h.1.length)) = .ref (Z.2.2.1 + h.1.length) := by show Value.ref (pz_ad Z _) = _; rw [pz_ad_in (by omega), show 17 + h.1.length - 17 = h.1.length by omega]
    rw [← e3]
    exact qq
  next => cases hg
theorem sd_anew (C0 : pz_C Z L p R s m args meth c G h0 n0) {j : Nat} (hd : decode G.2.2.1 pc = .ok (.anewarray j, 3)) (ho : 4 ≤ k ∧ k < 7 ∧ ∃ C, pk_ft k = .object C ∧ (C = RX5 ∨ C = RX4 ∨ C = RX0) ∧ Cond.classLink G.1 j C ∈ pz_B) {n : Int32} {h1 : ph_T} (hg : pa_new h k n = some h1)
    (hr : h1.1.length ≤ n0 + R.cells ∧ pz_tot h1.1 ≤ t0 + R.slots)
    (q : pz_J Z p l e R s m args below meth c Q G h0 n0 t0 (pc + 3, lv, .ref (17 + h.1.length) :: st, h1)) : pz_J Z p l e R s m args below meth c Q G h0 n0 t0 (pc, lv, .int n :: st, h) := by
  obtain ⟨⟨hx, hb, -, hown, hts⟩, ⟨hK, hX, hN, hsz⟩, -⟩ := C0
  intro H locs ls cells slots hP hS hl he hc hs
  have hP : pz_P Z h H := hP
  have hc : cells + n0 = h.1.length := hc
  have hs : slots + t0 = pz_tot h.1 := hs
  obtain ⟨hk4, hk7, C, hC, hC3, hw⟩ := ho
  have hAO : va_AO C s := by
    obtain ⟨-, ⟨a1, a2, a3⟩, -⟩ := hN
    rcases hC3 with rfl | rfl | rfl
    · exact a1
    · exact a2
    · exact a3
  unfold pa_new at hg
  split at hg
  next hn =>
    cases hg
    refine pz_sized (fun hle => ?_)
    have hHs := pz_size_eq hP hS hsz hc hle
    have r1 : (ph_new h k n.toNatClampNeg).1.length = h.1.length + 1 := by simp [ph_new]
    have r2 : pz_tot (ph_new h k n.toNatClampNeg).1 = pz_tot h.1 + n.toNatClampNeg := pz_tot_push _ _
    refine W.anew hx hb hown (hts _ hw) (va_AO.use hAO) rfl hd rfl hn.1 (Nat.le_trans (Nat.mul_le_mul hn.2 (Nat.le_refl 4)) (by decide)) (by omega) (by omega) fun cA kA comp f1 f2 f3 f4 => ?_
    generalize hH1 : H.push ({ cls := cA, slots := Array.replicate n.toNatClampNeg .null, vm := .none } : Cell) = H1
    have z1 : H1.size = H.size + 1 := by rw [← hH1, Array.size_push]
    have e1 : H1[H.size]? = some (arrV cA n.toNatClampNeg (fun _ => .null)) := by rw [← hH1, Array.getElem?_push_size, ← arrV_new]
    have o1 : ∀ q : Nat, q < H.size → H1[q]? = H[q]? := fun q hq => by rw [← hH1, Array.getElem?_push, if_neg (Nat.ne_of_lt hq)]
    have hcA : cA = Z.2.1 k := by
      have h2 := (hK.2 k _ (pz_tys_at Z (by omega))).2
      rw [show ((Z.2.1 k, pk_ft k) : ClassId × FieldType).2 = .object C from hC] at h2
      obtain ⟨kA', comp', -, -, -, h3⟩ := h2
      exact Option.some.inj (f1.symm.trans h3)
    have hat : va_at Z.1 vwCl (Z.2.2.1 + h.1.length, pz_cell Z (ph_new h k n.toNatClampNeg) (17 + h.1.length) (k, n.toNatClampNeg)) H1 := by
      rw [pz_cell_r (by show 4 ≤ k; omega) (by show k < 7; omega)]
      show H1[Z.2.2.1 + h.1.length]? = some (vp_cell (Z.2.1 k) (n.toNatClampNeg, .inr (.inr (.inr (.inr (fun j => pz_rf Z ((ph_new h k n.toNatClampNeg).2.1 (17 + h.1.length) j)))))))
      rw [vp_cell_q, show (ph_new h k n.toNatClampNeg).2.1 (17 + h.1.length) = fun _ => 0 from pr_row_on, ← hHs, e1, hcA]
      rfl
    have qq := q H1 locs ls (cells + 1) (slots + n.toNatClampNeg) (pz_made hP o1 hat) ⟨Nat.le_trans hS.1 (by omega), fun x h1 h2 => (o1 x (by have := hS.1; omega)).trans (hS.2.1 x h1 h2), hS.2.2⟩ hl (fun a ha => (pz_made_ext ha).trans (he a ha)) (by show _ = (ph_new h k n.toNatClampNeg).1.length; omega) (by show _ = pz_tot (ph_new h k n.toNatClampNeg).1; omega)
    have e3 : pz_v Z (.ref (17 + h.1.length)) = .ref H.size := by show Value.ref (pz_ad Z _) = _; rw [pz_ad_in (by omega), show 17 + h.1.length - 17 = h.1.length by omega, hHs]
    rw [← e3]
    exact qq
  next => cases hg
theorem sd_obj (C0 : pz_C Z L p R s m args meth c G h0 n0) (hw : Cond.instanceMethod objectInit ∈ pz_B ∧ Cond.code objectInit ⟨#[0xb1]⟩ 1 none ∈ pz_B) {j a : Nat} (hd : decode G.2.2.1 pc = .ok (.invokespecial j, 3)) (hlk : Cond.methodLink G.1 j objectInit ∈ pz_B) (hk : pk_sum st ≤ 8) (q : pz_J Z p l e R s m args below meth c Q G h0 n0 t0 (pc + 3, lv, st, h)) : pz_J Z p l e R s m args below meth c Q G h0 n0 t0 (pc, lv, .ref a :: st, h) := by
  obtain ⟨⟨hx, hb, hml, hown, hts⟩, -, hf, -, hR1, hR2⟩ := C0
  intro H locs ls cells slots hP hS hl he hc hs
  refine W.objInit hx hb hown (hts _ hlk) (hts _ hw.1) (hts _ hw.2) rfl (by rw [hml]; exact hl.1) rfl hd hR1 ?_ (q H locs ls cells slots hP hS hl he hc hs)
  have h1 := lv_room (m := m) (pc := pc) (ls := ls) (rest := ((Value.ref a :: st).map (pz_v Z))) (st := st.map (pz_v Z)) (by rw [pk_sum_map hf]; exact hk)
  show 2 * (F0 m pc ls ((Value.ref a :: st).map (pz_v Z))).monitorRoom + ((st.map (pz_v Z)).map fun v => v.category).sum + 12 ≤ R.locals
  omega
theorem sd_static (C0 : pz_C Z L p R s m args meth c G h0 n0) {j : Nat} (hd : decode G.2.2.1 pc = .ok (.getstatic j, 3))
    (ho : (k = 0 → v = 1 ∧ Cond.fieldLink G.1 j "java/lang/String" "COMPACT_STRINGS" "Z" ∈ pz_B) ∧ (k = 1 → (v = 1 ∧ Cond.fieldLink G.1 j "CallLaws" "ABOVE" "[I" ∈ pz_B) ∨ (v = 2 ∧ Cond.fieldLink G.1 j "CallLaws$Houses" "WEIGHTS" "[I" ∈ pz_B)) ∧
      (k = 2 → Cond.fieldLink G.1 j "jdk/internal/util/Preconditions" "SIOOBE_FORMATTER" "Ljava/util/function/BiFunction;" ∈ pz_B))
    (hs1 : (if k = 0 then some (pc + 3, lv, Value.int (Int32.ofInt v) :: st, h) else if k = 1 then some (pc + 3, lv, Value.ref v.toNat :: st, h) else if k = 2 then some (pc + 3, lv, Value.null :: st, h) else none) = some x1)
    (q : pz_J Z p l e R s m args below meth c Q G h0 n0 t0 x1) : pz_J Z p l e R s m args below meth c Q G h0 n0 t0 (pc, lv, st, h) := by
  obtain ⟨⟨hx, hb, hml, hown, hts⟩, ⟨hK, hX, hN, hsz⟩, hf, -, hR1, hR2⟩ := C0
  intro H locs ls cells slots hP hS hl he hc hs
  obtain ⟨-, ⟨-, b2⟩, ⟨-, c2⟩, d1, e1, -⟩ := hX
  split at hs1
  next hk =>
    cases hs1
    obtain ⟨rfl, w⟩ := ho.1 hk
    exact va_gets hx hb d1 hS hown (hts _ w) (fun x h => h) hd (q H locs ls cells slots hP hS hl he hc hs)
  next =>
    split at hs1
    next hk =>
      cases hs1
      have q := q H locs ls cells slots hP hS hl he hc hs
      rcases ho.2.1 hk with ⟨rfl, w⟩ | ⟨rfl, w⟩
      · refine va_gets hx hb b2 hS hown (hts _ w) (fun x h => h) hd ?_
        rw [← pz_ad_ext (Z := Z) (a := 1) (by omega)]
        exact q
      · refine va_gets hx hb c2 hS hown (hts _ w) (fun x h => h) hd ?_
        rw [← pz_ad_ext (Z := Z) (a := 2) (by omega)]
        exact q
    next =>
      split at hs1
      next hk =>
        cases hs1
        exact va_gets hx hb e1 hS hown (hts _ (ho.2.2 hk)) (fun x h => h) hd (q H locs ls cells slots hP hS hl he hc hs)
      next => cases hs1
theorem sd_ldc (C0 : pz_C Z L p R s m args meth c G h0 n0) {j : Nat} (hd : decode G.2.2.1 pc = .ok (.ldc j, 2))
    (ho : (k = 0 → Cond.constant G.1 j (Int32.ofInt v) ∈ pz_B) ∧ (k ≠ 0 → G.1 = RX6 ∧ ∃ i q, pz_str[i]? = some q ∧ q.1 = j ∧ v.toNat = 3 + i))
    (hs1 : (if k = 0 then some (pc + 2, lv, Value.int (Int32.ofInt v) :: st, h) else some (pc + 2, lv, Value.ref v.toNat :: st, h)) = some x1)
    (q : pz_J Z p l e R s m args below meth c Q G h0 n0 t0 x1) : pz_J Z p l e R s m args below meth c Q G h0 n0 t0 (pc, lv, st, h) := by
  obtain ⟨⟨hx, hb, hml, hown, hts⟩, ⟨hK, hX, hN, hsz⟩, hf, -, hR1, hR2⟩ := C0
  intro H locs ls cells slots hP hS hl he hc hs
  split at hs1
  next hk =>
    cases hs1
    exact lv_ldc hx hb hown (hts _ (ho.1 hk)) hd (q H locs ls cells slots hP hS hl he hc hs)
  next hk =>
    cases hs1
    have q := q H locs ls cells slots hP hS hl he hc hs
    obtain ⟨hG, i, z, hz, rfl, hv⟩ := ho.2 hk
    have hi : i < 7 := (List.getElem?_eq_some_iff.mp hz).1
    have hR := hN.2.2 i z hz
    rw [hG] at hown
    refine va_ldcS hx hb hown hR hd ?_
    rw [← pz_ad_ext (Z := Z) (a := 3 + i) (by omega), ← hv]
    exact q
end PM
