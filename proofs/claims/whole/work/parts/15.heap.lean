/-! ONE STEP at the heap: fields, arrays, what is made -/
section PH
variable {Z : pz_T} {L : Nat} {p : Program} {l : Launch} {e : Env} {R : Room} {s : State} {m : MethodId} {args : Array Value} {below : List Frame} {meth : Method} {c : Code} {Q : State → Prop} {G : pm_T} {h0 : ph_T} {n0 t0 : Nat}
variable {pc nx k : Nat} {v : Int} {lv : List (Nat × Value)} {st : List Value} {h : ph_T} {x1 : ps_T}
theorem sd_get (C0 : pz_C Z L p R s m args meth c G h0 n0) {j a kind : Nat} (hd : decode G.2.2.1 pc = .ok (.getfield j, 3))
    (ho : (kind = 20 → (k = 0 → Cond.fieldLink G.1 j "java/lang/String" "value" "[B" ∈ pz_B) ∧ (k ≠ 0 → Cond.fieldLink G.1 j "java/lang/String" "coder" "B" ∈ pz_B)) ∧ (kind ≠ 20 → ∃ C T N, pe_fld G.1 j kind k C T N))
    {w : Value} (hg : pg_get L h a k kind = some w) (q : pz_J Z p l e R s m args below meth c Q G h0 n0 t0 (pc + 3, lv, w :: st, h)) : pz_J Z p l e R s m args below meth c Q G h0 n0 t0 (pc, lv, .ref a :: st, h) := by
  obtain ⟨⟨hx, hb, -, hown, hts⟩, ⟨hK, hX, -, -⟩, -⟩ := C0
  intro H locs ls cells slots hP hS hl he hc hs
  have q := q H locs ls cells slots hP hS hl he hc hs
  unfold pg_get at hg
  split at hg
  next hkd =>
    split at hg
    next h20 =>
      obtain ⟨h20, ha⟩ := h20
      subst h20
      rw [ps_sh_ext ha] at hkd
      have h3 : 3 ≤ a ∧ a < 10 := by rcases px_kinds a ha L with z | z | z <;> omega
      obtain ⟨i, rfl⟩ : ∃ i, a = 3 + i := ⟨a - 3, by omega⟩
      obtain ⟨-, -, -, -, -, f1⟩ := hX
      have f1 := f1 i (by omega)
      have e1 : pz_v Z (.ref (3 + i)) = .ref (Z.2.2.2.1 (3 + i)) := by show Value.ref (pz_ad Z (3 + i)) = _; rw [pz_ad_ext ha]
      show W p l e R s m args below meth c H locs cells slots Q (F0 m pc ls (pz_v Z (.ref (3 + i)) :: st.map (pz_v Z)))
      rw [e1]
      split at hg
      next hk =>
        cases hg
        refine vk_getf hx hb f1.2.2.1 hS hown (hts _ ((ho.1 rfl).1 hk)) (fun x h => h) hd ?_
        have e2 : pz_v Z (.ref (3 + i + 7)) = .ref (Z.2.2.2.1 (10 + i)) := by show Value.ref (pz_ad Z (3 + i + 7)) = _; rw [pz_ad_ext (by omega), show 3 + i + 7 = 10 + i by omega]
        rw [← e2]
        exact q
      next hk =>
        cases hg
        exact vk_getf hx hb f1.2.1 hS hown (hts _ ((ho.1 rfl).2 hk)) (fun x h => h) hd q
    next h20 =>
      split at hg
      next hk =>
        have ha : 17 ≤ a := by
          by_cases ha : a < 17
          · exfalso
            rw [ps_sh_ext ha] at hkd
            rcases px_kinds a ha L with z | z | z <;> omega
          · omega
        obtain ⟨C, T, N, hcl, hkN, hTC, hlink⟩ := ho.2 (by omega)
        have hat := pz_at (Z := Z) (L := L) (h := h) ha rfl (by omega)
        rw [pz_cell_o (by omega), hkd] at hat
        have hv : (List.map (fun j => pz_fv Z h a (kind - 10) j) (List.range (ps_sh L h a).2))[k]? = some (pz_v Z w) := by
          rw [List.getElem?_map, List.getElem?_range hk.2.2]
          show some (pz_fv Z h a (kind - 10) k) = _
          unfold pz_fv
          split at hg
          next hr =>
            rw [if_pos hr]
            split at hg
            · cases hg
            next hz =>
              cases hg
              unfold pz_rf
              rw [if_neg hz]
              rfl
          next hr =>
            rw [if_neg hr]
            cases hg
            rfl
        exact va_get (ref := C) hx hb hts (pz_words hcl) hown hK hP (a - 17) hat hcl k hkN (hts _ hlink) (fun x h => by rw [hTC] at h; exact h) hv hd q
      next => cases hg
  next => cases hg
theorem sd_put (C0 : pz_C Z L p R s m args meth c G h0 n0) {j a kind : Nat} (hd : decode G.2.2.1 pc = .ok (.putfield j, 3))
    (ho : ∃ C T N, pe_fld G.1 j kind k C T N ∧ (if pf_ty (kind - 10) k = 1 then (T k).2.2.2 = true ∧ G.2.1.name = "<init>" ∧ C = G.1 else (T k).2.2.2 = false))
    {w : Value} {h1 : ph_T} (hg : pg_put L h a k kind w = some h1) (q : pz_J Z p l e R s m args below meth c Q G h0 n0 t0 (pc + 3, lv, st, h1)) : pz_J Z p l e R s m args below meth c Q G h0 n0 t0 (pc, lv, w :: .ref a :: st, h) := by
  obtain ⟨⟨hx, hb, -, hown, hts⟩, ⟨hK, -, -, -⟩, hf, hnm, -⟩ := C0
  intro H locs ls cells slots hP hS hl he hc hs
  obtain ⟨C, T, N, ⟨hcl, hkN, hTC, hlink⟩, hfin⟩ := ho
  obtain ⟨hnames, ty, hty⟩ := pz_names hcl
  unfold pg_put at hg
  split at hg
  next hk =>
    obtain ⟨ha, hkd, hk1, hk2, hk3⟩ := hk
    obtain ⟨g1, g2, g3⟩ := pz_sh_in (L := L) (h := h) ha rfl (by omega)
    have hat := pz_at (Z := Z) (L := L) (h := h) ha rfl (by omega)
    rw [pz_cell_o (by omega), hkd] at hat
    have hlen : k < (List.map (fun j => pz_fv Z h a (kind - 10) j) (List.range (ps_sh L h a).2)).length := by simpa using hk3
    have key : ∀ (w1 : Value) (hh : ph_T), hh.1 = h.1 → (∀ b, b ≠ a → hh.2.1 b = h.2.1 b ∧ hh.2.2 b = h.2.2 b) → (∀ i, i ≠ k → pz_fv Z hh a (kind - 10) i = pz_fv Z h a (kind - 10) i) → pz_fv Z hh a (kind - 10) k = w1 →
        (pz_W Z h).set (a - 17) (pz_ad Z a, .inr (kind - 10, ((List.range (ps_sh L h a).2).map (fun j => pz_fv Z h a (kind - 10) j)).set k w1)) = pz_W Z hh := by
      intro w1 hh e1 e2 e3 e4
      rw [pz_ad_in ha]
      refine pz_W_set e1 g1 ?_ ?_
      · rw [g3, g2, pz_cell_o (by omega), hkd]
        congr 2
        apply List.ext_getElem?
        intro i
        by_cases hi : i < (ps_sh L h a).2
        · rw [List.getElem?_map, List.getElem?_range hi]
          by_cases hik : i = k
          · subst hik
            rw [List.getElem?_set_self hlen]
            exact congrArg some e4
          · rw [List.getElem?_set_ne (fun z => hik z.symm), List.getElem?_map, List.getElem?_range hi]
            exact congrArg some (e3 i hik)
        · rw [List.getElem?_eq_none (by simpa using hi), List.getElem?_eq_none (by simpa using hi)]
      · intro i hi hia
        exact pz_cell_congr (e2 (17 + i) (by omega)).1 (e2 (17 + i) (by omega)).2
    have hpf : (parseFieldDescriptor (T k).2.2.1 = some (ty k)) := (hty k hkN).1
    split at hg
    next x =>
      split at hg
      next ht =>
        cases hg
        have hne1 : ¬ pf_ty (kind - 10) k = 1 := by omega
        rw [if_neg hne1] at hfin
        have hfv : pz_fv Z (h.1, h.2.1, pi_up h.2.2 a k x) a (kind - 10) k = .int x := by
          unfold pz_fv
          rw [if_neg hne1]
          show Value.int (pi_up h.2.2 a k x a k) = _
          unfold pi_up
          rw [if_pos ⟨rfl, rfl⟩]
        have hW := key (.int x) (h.1, h.2.1, pi_up h.2.2 a k x) rfl (fun b hb => ⟨rfl, pi_up_off hb⟩) (fun i hi => by
          unfold pz_fv
          split
          · rfl
          · show Value.int (pi_up h.2.2 a k x a i) = _
            unfold pi_up
            rw [if_neg (fun z => hi z.2)]) hfv
        have hnf : narrow (ty k) (.int x) = .int x ∧ fits (ty k) (.int x) = true := by
          rcases (hty k hkN).2 with ⟨z1, z2⟩ | ⟨z1, z2⟩ | ⟨z1, z2⟩
          · rw [z2]; exact ⟨rfl, rfl⟩
          · rw [z2]
            rcases ht with z | ⟨-, z | z⟩
            · omega
            · subst z; decide
            · subst z; decide
          · omega
        refine va_put (ref := C) (v := .int x) hx hb hts (pz_words hcl) ty (fun i hi => (hty i hi).1) hnames hown hK hP (pz_W_D Z h) hS (a - 17) hat hcl k hkN (hts _ hlink) (fun x h => by rw [hTC] at h; exact h) hfin hpf hnf.1 hnf.2 hlen hd (fun H1 locs1 p1 d1 s1 => ?_)
        rw [hW] at p1
        exact q H1 locs1 ls cells slots p1 s1 hl (fun b hb => by rw [show (h.1, h.2.1, pi_up h.2.2 a k x).2.2 b = h.2.2 b from pi_up_off (by omega)]; exact he b hb) hc hs
      next => cases hg
    next b =>
      split at hg
      next ht =>
        cases hg
        rw [if_pos ht] at hfin
        have hfv : pz_fv Z (h.1, pr_up h.2.1 a k (b + 1), h.2.2) a (kind - 10) k = .ref (pz_ad Z b) := by
          unfold pz_fv
          rw [if_pos ht]
          show va_rf (pz_rf Z (pr_up h.2.1 a k (b + 1) a k)) = _
          unfold pr_up
          rw [if_pos ⟨rfl, rfl⟩]
          unfold pz_rf
          rw [if_neg (by omega)]
          rfl
        have hW := key (.ref (pz_ad Z b)) (h.1, pr_up h.2.1 a k (b + 1), h.2.2) rfl (fun b hb => ⟨pr_up_off hb, rfl⟩) (fun i hi => by
          unfold pz_fv
          split
          · show va_rf (pz_rf Z (pr_up h.2.1 a k (b + 1) a i)) = _
            unfold pr_up
            rw [if_neg (fun z => hi z.2)]
          · rfl) hfv
        have hnf : narrow (ty k) (.ref (pz_ad Z b)) = .ref (pz_ad Z b) ∧ fits (ty k) (.ref (pz_ad Z b)) = true := by
          rcases (hty k hkN).2 with ⟨z1, z2⟩ | ⟨z1, z2⟩ | ⟨z1, ⟨n, z2⟩ | ⟨t, z2⟩⟩
          · omega
          · omega
          · rw [z2]; exact ⟨rfl, rfl⟩
          · rw [z2]; exact ⟨rfl, rfl⟩
        refine va_putF (ref := C) (v := .ref (pz_ad Z b)) hx hb hts (pz_words hcl) ty (fun i hi => (hty i hi).1) hnames hown hK hP (pz_W_D Z h) hS (a - 17) hat hcl k hkN (hts _ hlink) (fun x h => by rw [hTC] at h; exact h) hfin.1 (hnm hfin.2.1) (by rw [hTC]; exact hfin.2.2) hpf hnf.1 hnf.2 hlen hd (fun H1 locs1 p1 d1 s1 => ?_)
        rw [hW] at p1
        exact q H1 locs1 ls cells slots p1 s1 hl he hc hs
      next => cases hg
    next => cases hg
  next => cases hg
end PH
