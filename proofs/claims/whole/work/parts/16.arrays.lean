/-! ONE STEP at arrays -/
section PA
variable {Z : pz_T} {L : Nat} {p : Program} {l : Launch} {e : Env} {R : Room} {s : State} {m : MethodId} {args : Array Value} {below : List Frame} {meth : Method} {c : Code} {Q : State → Prop} {G : pm_T} {h0 : ph_T} {n0 t0 : Nat}
variable {pc nx k : Nat} {v : Int} {lv : List (Nat × Value)} {st : List Value} {h : ph_T} {x1 : ps_T}
theorem sd_iald (C0 : pz_C Z L p R s m args meth c G h0 n0) {a : Nat} {i : Int32} (hd : decode G.2.2.1 pc = .ok (.iaload, 1)) {w : Value} (hg : pa_ld L h [0] a i = some w) (q : pz_J Z p l e R s m args below meth c Q G h0 n0 t0 (pc + 1, lv, w :: st, h)) : pz_J Z p l e R s m args below meth c Q G h0 n0 t0 (pc, lv, .int i :: .ref a :: st, h) := by
  obtain ⟨⟨hx, hb, -, hown, hts⟩, ⟨hK, hX, -, hsz⟩, -⟩ := C0
  intro H locs ls cells slots hP hS hl he hc hs
  have hP : pz_P Z h H := hP
  have q := q H locs ls cells slots hP hS hl he hc hs
  unfold pa_ld at hg
  split at hg
  next hk =>
    cases hg
    obtain ⟨hk1, hk2⟩ := hk
    have hin := pa_in_iff.mp hk2
    have hk0 : (ps_sh L h a).1 = 0 := by simpa using hk1
    show W p l e R s m args below meth c H locs cells slots Q (F0 m pc ls (.int i :: .ref (pz_ad Z a) :: st.map (pz_v Z)))
    by_cases ha : a < 17
    · rw [ps_sh_ext ha] at hk0 hin
      rw [pz_ad_ext ha]
      obtain ⟨⟨a1, a2⟩, ⟨b1, -⟩, ⟨c1, -⟩, -⟩ := hX
      have q : W p l e R s m args below meth c H locs cells slots Q (F0 m (pc + 1) ls (.int (h0.2.2 a i.toNatClampNeg) :: st.map (pz_v Z))) := by
        have q2 := q
        rw [show (pc + 1, lv, Value.int (h.2.2 a i.toNatClampNeg) :: st, h).2.2.1 = Value.int (h.2.2 a i.toNatClampNeg) :: st from rfl, he a ha] at q2
        exact q2
      rcases (by rcases px_kinds a ha L with z | z | z <;> omega : a = 0 ∨ a = 1 ∨ a = 2) with rfl | rfl | rfl
      · exact va_sld hx hb a1 (by omega) (show ¬ Z.2.2.1 ≤ Z.2.2.2.1 0 by omega) hS hin hd q
      · exact va_ti hx hb b1 hS hin rfl hd q
      · exact va_ti hx hb c1 hS hin rfl hd q
    · have hat := pz_at (Z := Z) (L := L) (h := h) (a := a) (by omega) rfl (by omega)
      rw [pz_cell_i (by omega)] at hat
      exact va_iald hx hb hK hP (a - 17) 0 hat (by rw [hk0]; exact pz_tys_at Z (by omega)) hin hd q
  next => cases hg
theorem sd_bald (C0 : pz_C Z L p R s m args meth c G h0 n0) {a : Nat} {i : Int32} (hd : decode G.2.2.1 pc = .ok (.baload, 1)) {w : Value} (hg : pa_ld L h [1, 3] a i = some w) (q : pz_J Z p l e R s m args below meth c Q G h0 n0 t0 (pc + 1, lv, w :: st, h)) : pz_J Z p l e R s m args below meth c Q G h0 n0 t0 (pc, lv, .int i :: .ref a :: st, h) := by
  obtain ⟨⟨hx, hb, -, hown, hts⟩, ⟨hK, hX, -, hsz⟩, -⟩ := C0
  intro H locs ls cells slots hP hS hl he hc hs
  have hP : pz_P Z h H := hP
  have q := q H locs ls cells slots hP hS hl he hc hs
  unfold pa_ld at hg
  split at hg
  next hk =>
    cases hg
    obtain ⟨hk1, hk2⟩ := hk
    have hin := pa_in_iff.mp hk2
    have hk0 : (ps_sh L h a).1 = 1 ∨ (ps_sh L h a).1 = 3 := by simpa using hk1
    show W p l e R s m args below meth c H locs cells slots Q (F0 m pc ls (.int i :: .ref (pz_ad Z a) :: st.map (pz_v Z)))
    by_cases ha : a < 17
    · rw [ps_sh_ext ha] at hk0 hin
      rw [pz_ad_ext ha]
      obtain ⟨-, -, -, -, -, f1⟩ := hX
      obtain ⟨i', rfl⟩ : ∃ i', a = 10 + i' := ⟨a - 10, by rcases px_kinds a ha L with z | z | z <;> omega⟩
      have f1 := (f1 i' (by omega)).2.2.2
      have q : W p l e R s m args below meth c H locs cells slots Q (F0 m (pc + 1) ls (.int (h0.2.2 (10 + i') i.toNatClampNeg) :: st.map (pz_v Z))) := by
        have q2 := q
        rw [show (pc + 1, lv, Value.int (h.2.2 (10 + i') i.toNatClampNeg) :: st, h).2.2.1 = Value.int (h.2.2 (10 + i') i.toNatClampNeg) :: st from rfl, he _ ha] at q2
        exact q2
      exact va_tb hx hb f1 hS hin rfl hd q
    · have hat := pz_at (Z := Z) (L := L) (h := h) (a := a) (by omega) rfl (by omega)
      rw [pz_cell_i (by omega)] at hat
      rcases hk0 with hk0 | hk0
      · exact va_bald hx hb hK hP (a - 17) 1 hat (by rw [hk0]; exact pz_tys_at Z (by omega)) hin hd q
      · exact va_zald hx hb hK hP (a - 17) 3 hat (by rw [hk0]; exact pz_tys_at Z (by omega)) hin hd q
  next => cases hg
theorem sd_sald (C0 : pz_C Z L p R s m args meth c G h0 n0) {a : Nat} {i : Int32} (hd : decode G.2.2.1 pc = .ok (.saload, 1)) {w : Value} (hg : pa_ld L h [2] a i = some w) (q : pz_J Z p l e R s m args below meth c Q G h0 n0 t0 (pc + 1, lv, w :: st, h)) : pz_J Z p l e R s m args below meth c Q G h0 n0 t0 (pc, lv, .int i :: .ref a :: st, h) := by
  obtain ⟨⟨hx, hb, -, hown, hts⟩, ⟨hK, hX, -, hsz⟩, -⟩ := C0
  intro H locs ls cells slots hP hS hl he hc hs
  have hP : pz_P Z h H := hP
  have q := q H locs ls cells slots hP hS hl he hc hs
  unfold pa_ld at hg
  split at hg
  next hk =>
    cases hg
    obtain ⟨hk1, hk2⟩ := hk
    have hin := pa_in_iff.mp hk2
    have hk0 : (ps_sh L h a).1 = 2 := by simpa using hk1
    have ha : 17 ≤ a := by
      by_cases ha : a < 17
      · rw [ps_sh_ext ha] at hk0
        rcases px_kinds a ha L with z | z | z <;> omega
      · omega
    have hat := pz_at (Z := Z) (L := L) (h := h) (a := a) (by omega) rfl (by omega)
    rw [pz_cell_i (by omega)] at hat
    exact va_sald hx hb hK hP (a - 17) 2 hat (by rw [hk0]; exact pz_tys_at Z (by omega)) hin hd q
  next => cases hg
theorem sd_aald (C0 : pz_C Z L p R s m args meth c G h0 n0) {a : Nat} {i : Int32} (hd : decode G.2.2.1 pc = .ok (.aaload, 1)) {w : Value} (hg : pa_ldr L h a i = some w) (q : pz_J Z p l e R s m args below meth c Q G h0 n0 t0 (pc + 1, lv, w :: st, h)) : pz_J Z p l e R s m args below meth c Q G h0 n0 t0 (pc, lv, .int i :: .ref a :: st, h) := by
  obtain ⟨⟨hx, hb, -, hown, hts⟩, ⟨hK, hX, -, hsz⟩, -⟩ := C0
  intro H locs ls cells slots hP hS hl he hc hs
  have hP : pz_P Z h H := hP
  have q := q H locs ls cells slots hP hS hl he hc hs
  unfold pa_ldr at hg
  split at hg
  next hk =>
    cases hg
    obtain ⟨ha, hk1, hk2, hk3⟩ := hk
    have hin := pa_in_iff.mp hk2
    have hk0 : (ps_sh L h a).1 = 4 ∨ (ps_sh L h a).1 = 5 ∨ (ps_sh L h a).1 = 6 := by simpa using hk1
    have hat := pz_at (Z := Z) (L := L) (h := h) (a := a) (by omega) rfl (by omega)
    rw [pz_cell_r (by omega) (by omega)] at hat
    have e1 : pz_rf Z (h.2.1 a i.toNatClampNeg) = some (pz_ad Z (h.2.1 a i.toNatClampNeg - 1)) := by unfold pz_rf; rw [if_neg hk3]
    have q : W p l e R s m args below meth c H locs cells slots Q (F0 m (pc + 1) ls (va_rf (pz_rf Z (h.2.1 a i.toNatClampNeg)) :: st.map (pz_v Z))) := by rw [e1]; exact q
    have hT := pz_tys_at Z (show (ps_sh L h a).1 < 7 by omega)
    rcases hk0 with hk0 | hk0 | hk0 <;> (have hT' := hT; rw [show pk_ft (ps_sh L h a).1 = _ from congrArg pk_ft hk0] at hT'; exact va_aldq (f := fun j => pz_rf Z (h.2.1 a j)) hx hb hK hP (a - 17) _ hat hT' hin hd q)
  next => cases hg
theorem pz_st_key {a : Nat} {i : Nat} {x : Int32} (ha : 17 ≤ a) (hk : (ps_sh L h a).1 < 4) : (pz_W Z h).set (a - 17) (pz_ad Z a, .inl (Z.2.1 (ps_sh L h a).1, (ps_sh L h a).2, .inl (upd (h.2.2 a) i x))) = pz_W Z (h.1, h.2.1, pi_up h.2.2 a i x) := by
  obtain ⟨g1, g2, g3⟩ := pz_sh_in (L := L) (h := h) (a := a) ha rfl (by omega)
  rw [pz_ad_in ha]
  refine pz_W_set (h := h) (h1 := (h.1, h.2.1, pi_up h.2.2 a i x)) rfl g1 ?_ ?_
  · rw [g3, g2, pz_cell_i hk]
    show (Sum.inl (Z.2.1 (ps_sh L h a).1, (ps_sh L h a).2, Sum.inl (pi_up h.2.2 a i x a)) : va_E) = _
    rw [pi_up_row]
  · intro j hj hja
    exact pz_cell_congr rfl (pi_up_off (by omega))
theorem sd_iast (C0 : pz_C Z L p R s m args meth c G h0 n0) {a : Nat} {i x : Int32} (hd : decode G.2.2.1 pc = .ok (.iastore, 1)) {h1 : ph_T} (hg : pa_st L h [0] a i x = some h1) (q : pz_J Z p l e R s m args below meth c Q G h0 n0 t0 (pc + 1, lv, st, h1)) : pz_J Z p l e R s m args below meth c Q G h0 n0 t0 (pc, lv, .int x :: .int i :: .ref a :: st, h) := by
  obtain ⟨⟨hx, hb, -, hown, hts⟩, ⟨hK, hX, -, hsz⟩, -⟩ := C0
  intro H locs ls cells slots hP hS hl he hc hs
  have hP : pz_P Z h H := hP
  unfold pa_st at hg
  split at hg
  next hk =>
    cases hg
    obtain ⟨ha, hk1, hk2⟩ := hk
    have hin := pa_in_iff.mp hk2
    have hk0 : (ps_sh L h a).1 = 0 := by simpa using hk1
    have hat := pz_at (Z := Z) (L := L) (h := h) (a := a) (by omega) rfl (by omega)
    rw [pz_cell_i (by omega)] at hat
    refine va_iast hx hb hK hP (pz_W_D Z h) hS (a - 17) 0 hat (by rw [hk0]; exact pz_tys_at Z (by omega)) hin hd (fun H1 locs1 p1 d1 s1 => ?_)
    rw [pz_st_key (h := h) ha (by omega)] at p1
    refine q H1 locs1 ls cells slots ?_ s1 hl (fun b hb => (pi_up_off (by omega)).trans (he b hb)) hc hs
    rw [show pa_nar (ps_sh L h a).1 x = x by rw [hk0]; rfl]
    exact p1
  next => cases hg
theorem sd_bast (C0 : pz_C Z L p R s m args meth c G h0 n0) {a : Nat} {i x : Int32} (hd : decode G.2.2.1 pc = .ok (.bastore, 1)) {h1 : ph_T} (hg : pa_st L h [1, 3] a i x = some h1) (q : pz_J Z p l e R s m args below meth c Q G h0 n0 t0 (pc + 1, lv, st, h1)) : pz_J Z p l e R s m args below meth c Q G h0 n0 t0 (pc, lv, .int x :: .int i :: .ref a :: st, h) := by
  obtain ⟨⟨hx, hb, -, hown, hts⟩, ⟨hK, hX, -, hsz⟩, -⟩ := C0
  intro H locs ls cells slots hP hS hl he hc hs
  have hP : pz_P Z h H := hP
  unfold pa_st at hg
  split at hg
  next hk =>
    cases hg
    obtain ⟨ha, hk1, hk2⟩ := hk
    have hin := pa_in_iff.mp hk2
    have hk0 : (ps_sh L h a).1 = 1 ∨ (ps_sh L h a).1 = 3 := by simpa using hk1
    have hat := pz_at (Z := Z) (L := L) (h := h) (a := a) (by omega) rfl (by omega)
    rw [pz_cell_i (by omega)] at hat
    rcases hk0 with hk0 | hk0
    · refine va_bast hx hb hK hP (pz_W_D Z h) hS (a - 17) 1 hat (by rw [hk0]; exact pz_tys_at Z (by omega)) hin hd (fun H1 locs1 p1 d1 s1 => ?_)
      rw [pz_st_key (h := h) ha (by omega)] at p1
      refine q H1 locs1 ls cells slots ?_ s1 hl (fun b hb => (pi_up_off (by omega)).trans (he b hb)) hc hs
      rw [show pa_nar (ps_sh L h a).1 x = vp_nar .byte x by rw [hk0]; rfl]
      exact p1
    · refine va_zast hx hb hK hP (pz_W_D Z h) hS (a - 17) 3 hat (by rw [hk0]; exact pz_tys_at Z (by omega)) hin hd (fun H1 locs1 p1 d1 s1 => ?_)
      rw [pz_st_key (h := h) ha (by omega)] at p1
      refine q H1 locs1 ls cells slots ?_ s1 hl (fun b hb => (pi_up_off (by omega)).trans (he b hb)) hc hs
      rw [show pa_nar (ps_sh L h a).1 x = vp_nar .boolean x by rw [hk0]; rfl]
      exact p1
  next => cases hg
theorem sd_sast (C0 : pz_C Z L p R s m args meth c G h0 n0) {a : Nat} {i x : Int32} (hd : decode G.2.2.1 pc = .ok (.sastore, 1)) {h1 : ph_T} (hg : pa_st L h [2] a i x = some h1) (q : pz_J Z p l e R s m args below meth c Q G h0 n0 t0 (pc + 1, lv, st, h1)) : pz_J Z p l e R s m args below meth c Q G h0 n0 t0 (pc, lv, .int x :: .int i :: .ref a :: st, h) := by
  obtain ⟨⟨hx, hb, -, hown, hts⟩, ⟨hK, hX, -, hsz⟩, -⟩ := C0
  intro H locs ls cells slots hP hS hl he hc hs
  have hP : pz_P Z h H := hP
  unfold pa_st at hg
  split at hg
  next hk =>
    cases hg
    obtain ⟨ha, hk1, hk2⟩ := hk
    have hin := pa_in_iff.mp hk2
    have hk0 : (ps_sh L h a).1 = 2 := by simpa using hk1
    have hat := pz_at (Z := Z) (L := L) (h := h) (a := a) (by omega) rfl (by omega)
    rw [pz_cell_i (by omega)] at hat
    refine va_sast hx hb hK hP (pz_W_D Z h) hS (a - 17) 2 hat (by rw [hk0]; exact pz_tys_at Z (by omega)) hin hd (fun H1 locs1 p1 d1 s1 => ?_)
    rw [pz_st_key (h := h) ha (by omega)] at p1
    refine q H1 locs1 ls cells slots ?_ s1 hl (fun b hb => (pi_up_off (by omega)).trans (he b hb)) hc hs
    rw [show pa_nar (ps_sh L h a).1 x = vp_nar .short x by rw [hk0]; rfl]
    exact p1
  next => cases hg
theorem sd_aast (C0 : pz_C Z L p R s m args meth c G h0 n0) {a b : Nat} {i : Int32} (hd : decode G.2.2.1 pc = .ok (.aastore, 1)) {h1 : ph_T} (hg : pa_str L h a i b = some h1) (q : pz_J Z p l e R s m args below meth c Q G h0 n0 t0 (pc + 1, lv, st, h1)) : pz_J Z p l e R s m args below meth c Q G h0 n0 t0 (pc, lv, .ref b :: .int i :: .ref a :: st, h) := by
  obtain ⟨⟨hx, hb, -, hown, hts⟩, ⟨hK, hX, -, hsz⟩, -⟩ := C0
  intro H locs ls cells slots hP hS hl he hc hs
  have hP : pz_P Z h H := hP
  unfold pa_str at hg
  split at hg
  next hk =>
    cases hg
    obtain ⟨ha, hb7, hk1, hk2, hk3⟩ := hk
    have hin := pa_in_iff.mp hk2
    have hk0 : (ps_sh L h a).1 = 4 ∨ (ps_sh L h a).1 = 5 ∨ (ps_sh L h a).1 = 6 := by simpa using hk1
    obtain ⟨g1, g2, g3⟩ := pz_sh_in (L := L) (h := h) (a := a) ha rfl (by omega)
    have hat := pz_at (Z := Z) (L := L) (h := h) (a := a) (by omega) rfl (by omega)
    rw [pz_cell_r (by omega) (by omega)] at hat
    have hW : (pz_W Z h).set (a - 17) (pz_ad Z a, .inl (Z.2.1 (ps_sh L h a).1, (ps_sh L h a).2, .inr (.inr (.inr (.inr (va_up (fun j => pz_rf Z (h.2.1 a j)) i.toNatClampNeg (some (pz_ad Z b)))))))) = pz_W Z (h.1, pr_up h.2.1 a i.toNatClampNeg (b + 1), h.2.2) := by
      rw [pz_ad_in ha]
      refine pz_W_set (h := h) (h1 := (h.1, pr_up h.2.1 a i.toNatClampNeg (b + 1), h.2.2)) rfl g1 ?_ ?_
      · rw [g3, g2, pz_cell_r (by omega) (by omega)]
        congr 7
        funext j
        show pz_rf Z (pr_up h.2.1 a i.toNatClampNeg (b + 1) a j) = _
        unfold pr_up va_up
        by_cases hj : j = i.toNatClampNeg
        · rw [if_pos ⟨rfl, hj⟩, if_pos hj]
          unfold pz_rf
          rw [if_neg (by omega)]
          rfl
        · rw [if_neg (fun z => hj z.2), if_neg hj]
      · intro j hj hja
        exact pz_cell_congr (pr_up_off (by omega)) rfl
    have hT := pz_tys_at Z (show (ps_sh L h a).1 < 7 by omega)
    have hbk : (ps_sh L h b).1 = 15 ∨ (ps_sh L h b).1 = 14 ∨ (ps_sh L h b).1 = 10 := by rcases hk0 with z | z | z <;> (rw [z] at hk3; simp [pa_el] at hk3; omega)
    have hbt := pz_at (Z := Z) (L := L) (h := h) (a := b) hb7 rfl (by omega)
    rw [pz_cell_o (by omega)] at hbt
    have fin : ∀ (r : vw_C), pk_ft (ps_sh L h a).1 = .object r.1 → vwCl[(ps_sh L h b).1 - 10]? = some r → W p l e R s m args below meth c H locs cells slots Q (F0 m pc ls (.ref (pz_ad Z b) :: .int i :: .ref (pz_ad Z a) :: st.map (pz_v Z))) := by
      intro r hr hcl
      rw [hr] at hT
      refine va_astq hx hb hK hP (pz_W_D Z h) hS (a - 17) _ (b - 17) _ hat hT hbt hcl hin hd (fun H1 locs1 p1 d1 s1 => ?_)
      rw [hW] at p1
      exact q H1 locs1 ls cells slots p1 s1 hl he hc hs
    rcases hk0 with z | z | z
    · rw [z] at hk3
      exact fin (RX5, TX5, 4) (by rw [z]; rfl) (by rw [hk3]; rfl)
    · rw [z] at hk3
      exact fin (RX4, TX4, 9) (by rw [z]; rfl) (by rw [hk3]; rfl)
    · rw [z] at hk3
      exact fin (RX0, TX0, 2) (by rw [z]; rfl) (by rw [hk3]; rfl)
  next => cases hg
theorem sd_alen (C0 : pz_C Z L p R s m args meth c G h0 n0) {a : Nat} (hd : decode G.2.2.1 pc = .ok (.arraylength, 1)) {w : Value} (hg : pa_len L h a = some w) (q : pz_J Z p l e R s m args below meth c Q G h0 n0 t0 (pc + 1, lv, w :: st, h)) : pz_J Z p l e R s m args below meth c Q G h0 n0 t0 (pc, lv, .ref a :: st, h) := by
  obtain ⟨⟨hx, hb, -, hown, hts⟩, ⟨hK, hX, -, hsz⟩, -⟩ := C0
  intro H locs ls cells slots hP hS hl he hc hs
  have hP : pz_P Z h H := hP
  have q := q H locs ls cells slots hP hS hl he hc hs
  unfold pa_len at hg
  split at hg
  next hk =>
    cases hg
    show W p l e R s m args below meth c H locs cells slots Q (F0 m pc ls (.ref (pz_ad Z a) :: st.map (pz_v Z)))
    by_cases ha : a < 17
    · rw [pz_ad_ext ha]
      rw [ps_sh_ext ha] at hk q
      obtain ⟨⟨a1, a2⟩, ⟨b1, -⟩, ⟨c1, -⟩, -, -, f1⟩ := hX
      by_cases h10 : 10 ≤ a
      · obtain ⟨i', rfl⟩ : ∃ i', a = 10 + i' := ⟨a - 10, by omega⟩
        exact va_tlen hx hb (f1 i' (by omega)).2.2.2 hS rfl hd q
      · rcases (by rcases px_kinds a ha L with z | z | z <;> omega : a = 0 ∨ a = 1 ∨ a = 2) with rfl | rfl | rfl
        · exact va_slen hx hb a1 (by omega) (show ¬ Z.2.2.1 ≤ Z.2.2.2.1 0 by omega) hS hd q
        · exact va_tlen hx hb b1 hS rfl hd q
        · exact va_tlen hx hb c1 hS rfl hd q
    · have hat := pz_at (Z := Z) (L := L) (h := h) (a := a) (by omega) rfl (by omega)
      by_cases h4 : (ps_sh L h a).1 < 4
      · rw [pz_cell_i h4] at hat
        exact va_alen hx hb hK hP (a - 17) (ps_sh L h a).1 hat (pz_tys_at Z (by omega)) rfl hd q
      · rw [pz_cell_r (by omega) (by omega)] at hat
        exact va_alen hx hb hK hP (a - 17) (ps_sh L h a).1 hat (pz_tys_at Z (by omega)) rfl hd q
  next => cases hg
theorem sd_cpy (C0 : pz_C Z L p R s m args meth c G h0 n0) (hw : Cond.native arraycopyName ∈ pz_B ∧ Cond.static arraycopyName ∈ pz_B ∧ Cond.initialized "java/lang/System" ∈ pz_B ∧ nativeFrameWords "java/lang/System" "arraycopy" 5 + 11 ≤ 60) {j a0 a1 : Nat} {sp dp n : Int32} (hd : decode G.2.2.1 pc = .ok (.invokestatic j, 3)) (hlk : Cond.methodLink G.1 j arraycopyName ∈ pz_B) {h1 : ph_T} (hg : pa_cpy L h a0 sp a1 dp n = some h1) (q : pz_J Z p l e R s m args below meth c Q G h0 n0 t0 (pc + 3, lv, [], h1)) : pz_J Z p l e R s m args below meth c Q G h0 n0 t0 (pc, lv, [.int n, .int dp, .ref a1, .int sp, .ref a0], h) := by
  obtain ⟨⟨hx, hb, hml, hown, hts⟩, ⟨hK, hX, -, hsz⟩, -, -, hR1, hR2⟩ := C0
  intro H locs ls cells slots hP hS hl he hc hs
  have hP : pz_P Z h H := hP
  unfold pa_cpy at hg
  split at hg
  next hk =>
    cases hg
    obtain ⟨⟨ha0, ha1, hk0, hk1⟩, z1, z2, z3, z4, z5⟩ := hk
    have hat0 := pz_at (Z := Z) (L := L) (h := h) (a := a0) ha0 rfl (by omega)
    rw [pz_cell_i (by omega)] at hat0
    have hat1 := pz_at (Z := Z) (L := L) (h := h) (a := a1) ha1 rfl (by omega)
    rw [pz_cell_i (by omega)] at hat1
    obtain ⟨g1, g2, g3⟩ := pz_sh_in (L := L) (h := h) (a := a1) ha1 rfl (by omega)
    have hW : (pz_W Z h).set (a1 - 17) (pz_ad Z a1, .inl (Z.2.1 (ps_sh L h a1).1, (ps_sh L h a1).2, .inl (va_cpy (h.2.2 a0) (h.2.2 a1) sp.toNatClampNeg dp.toNatClampNeg n.toNatClampNeg))) = pz_W Z (h.1, h.2.1, pi_row h.2.2 a1 (va_cpy (h.2.2 a0) (h.2.2 a1) sp.toNatClampNeg dp.toNatClampNeg n.toNatClampNeg)) := by
      rw [pz_ad_in ha1]
      refine pz_W_set (h := h) (h1 := (h.1, h.2.1, pi_row h.2.2 a1 (va_cpy (h.2.2 a0) (h.2.2 a1) sp.toNatClampNeg dp.toNatClampNeg n.toNatClampNeg))) rfl g1 ?_ ?_
      · rw [g3, g2, pz_cell_i (by omega)]
        show (Sum.inl (Z.2.1 (ps_sh L h a1).1, (ps_sh L h a1).2, Sum.inl (pi_row h.2.2 a1 _ a1)) : va_E) = _
        rw [pi_row_on]
      · intro j hj hja
        exact pz_cell_congr rfl (pi_row_off (by omega))
    refine va_copyi (ls := ls) (rest := []) hx hb (by rw [hml]; exact hl.1.symm) hown (hts _ hlk) (hts _ hw.1) (hts _ hw.2.1) (hts _ hw.2.2.1) hK hP (pz_W_D Z h) hS (a0 - 17) (a1 - 17) 0 0 (ty := .int) hat0 hat1 (by rw [hk0]; exact pz_tys_at Z (by omega)) (by rw [hk1]; exact pz_tys_at Z (by omega)) rfl z1 z2 z3 z4 z5 (fun i _ => rfl) hR1 (by simp only [List.map_nil, List.sum_nil]; omega) hd (fun H1 locs1 p1 d1 s1 => ?_)
    rw [hW] at p1
    exact q H1 locs1 ls cells slots p1 s1 hl (fun b hb => (pi_row_off (by omega)).trans (he b hb)) hc hs
  next => cases hg
end PA
