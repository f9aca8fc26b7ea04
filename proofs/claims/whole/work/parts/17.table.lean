theorem pe_all_ok (hM : ∀ m, m < 192 → ∀ n, (parseMethodDescriptor (pm m).2.1.desc).map (fun d => d.parameters.length) = some n → pe_call (pm m) n) {G : pm_T} {hs : List (List Nat)} (h : pe_all G hs = true) : ∀ en ∈ G.2.2.2.2.2.2, pe_ok G en := by
  have h0 : G.2.2.2.2.2.2.length = hs.length ∧ ∀ q ∈ G.2.2.2.2.2.2.zip hs, pe_b G q.1 q.2 = true := by
    simpa only [pe_all, Bool.and_eq_true, decide_eq_true_eq, List.all_eq_true] using h
  clear h
  generalize G.2.2.2.2.2.2 = ls at h0 ⊢
  intro en hen
  obtain ⟨i, hi⟩ := List.getElem?_of_mem hen
  have hl : i < ls.length := (List.getElem?_eq_some_iff.mp hi).1
  have hl2 : i < hs.length := Nat.lt_of_lt_of_eq hl h0.1
  have hz : (en, hs[i]) ∈ ls.zip hs := by
    refine List.mem_of_getElem? (i := i) ?_
    rw [List.getElem?_zip_eq_some]
    exact ⟨hi, List.getElem?_eq_getElem hl2⟩
  have h3 : pe_b G en hs[i] = true := h0.2 (en, hs[i]) hz
  exact pe_b_ok hM h3
