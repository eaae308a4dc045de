/-- the row of a method's table that catches -/
def pm_Hand (i pc x : Nat) (q : Nat × Nat × Nat × Nat × Nat × Nat) : Prop := ∃ (pre : List ExceptionTableEntry) (y : ExceptionTableEntry) (suf : List ExceptionTableEntry), tableOf (pm_hh i) = pre ++ y :: suf ∧ (∀ z ∈ pre, covers z pc = false ∨ (z.catchType ≠ 0 ∧ ∃ nm : String, Cond.classLink (pm_own i) z.catchType nm ∈ pm_G ∧ (pm_exc x, nm) ∈ pm_ncs)) ∧ covers y pc = true ∧ y.catchType ≠ 0 ∧ Cond.classLink (pm_own i) y.catchType (pm_exc x) ∈ pm_G ∧ Cond.castable (pm_exc x) (pm_exc x) ∈ pm_NW ∧ q.2.2.2.2.1 < pm_nL i ∧
  ((∃ k : Fin 4, decode (pm_b i) y.handlerPc = .ok (.astore_n k, 1) ∧ (k : Nat) = q.2.2.2.2.1 ∧ q.2.2.2.2.2 = y.handlerPc + 1) ∨ (decode (pm_b i) y.handlerPc = .ok (.astore q.2.2.2.2.1, 2) ∧ q.2.2.2.2.2 = y.handlerPc + 2))
theorem pm_cov {a b2 hp ct pc : Nat} (h1 : a ≤ pc) (h2 : pc < b2) : covers ⟨a, b2, hp, ct⟩ pc = true := by
  simp [covers, h1, h2]
set_option maxRecDepth 100000 in
theorem pm_hand {i pc x : Nat} {q : Nat × Nat × Nat × Nat × Nat × Nat} (h : pm_hnd (pm_hn i) pc x = some q) : pm_Hand i pc x q := by
  match i, h with
  | 0, h => cases h
  | 1, h => cases h
  | 2, h => cases h
  | 3, h => cases h
  | 4, h => cases h
  | 5, h => cases h
  | 6, h => cases h
  | 7, h => cases h
  | 8, h => cases h
  | 9, h => cases h
  | 10, h => cases h
  | 11, h => cases h
  | 12, h => cases h
  | 13, h => cases h
  | 14, h => cases h
  | 15, h => cases h
  | 16, h => cases h
  | 17, h => cases h
  | 18, h => cases h
  | 19, h => cases h
  | 20, h => cases h
  | 21, h => cases h
  | 22, h => cases h
  | 23, h => cases h
  | 24, h => cases h
  | 25, h => cases h
  | 26, h => cases h
  | 27, h => cases h
  | 28, h => cases h
  | 29, h => cases h
  | 30, h => cases h
  | 31, h => cases h
  | 32, h => cases h
  | 33, h => cases h
  | 34, h => cases h
  | 35, h => cases h
  | 36, h => cases h
  | 37, h => cases h
  | 38, h => cases h
  | 39, h => cases h
  | 40, h => cases h
  | 41, h => cases h
  | 42, h => cases h
  | 43, h => cases h
  | 44, h => cases h
  | 45, h => cases h
  | 46, h => cases h
  | 47, h => cases h
  | 48, h => cases h
  | 49, h => cases h
  | 50, h => cases h
  | 51, h => cases h
  | 52, h => cases h
  | 53, h => cases h
  | 54, h => cases h
  | 55, h => cases h
  | 56, h => cases h
  | 57, h => cases h
  | 58, h => cases h
  | 59, h => cases h
  | 60, h => cases h
  | 61, h => cases h
  | 62, h => cases h
  | 63, h => cases h
  | 64, h => cases h
  | 65, h => cases h
  | 66, h => cases h
  | 67, h => cases h
  | 68, h => cases h
  | 69, h => cases h
  | 70, h => cases h
  | 71, h => cases h
  | 72, h => cases h
  | 73, h => cases h
  | 74, h => cases h
  | 75, h => cases h
  | 76, h => cases h
  | 77, h => cases h
  | 78, h => cases h
  | 79, h => cases h
  | 80, h => cases h
  | 81, h => cases h
  | 82, h => cases h
  | 83, h => cases h
  | 84, h => cases h
  | 85, h => cases h
  | 86, h => cases h
  | 87, h => cases h
  | 88, h => cases h
  | 89, h => cases h
  | 90, h => cases h
  | 91, h => cases h
  | 92, h => cases h
  | 93, h => cases h
  | 94, h => cases h
  | 95, h => cases h
  | 96, h => cases h
  | 97, h => cases h
  | 98, h => cases h
  | 99, h => cases h
  | 100, h => cases h
  | 101, h => cases h
  | 102, h => cases h
  | 103, h => cases h
  | 104, h => cases h
  | 105, h => cases h
  | 106, h => cases h
  | 107, h => cases h
  | 108, h => cases h
  | 109, h => cases h
  | 110, h => cases h
  | 111, h => cases h
  | 112, h => cases h
  | 113, h => cases h
  | 114, h => cases h
  | 115, h => cases h
  | 116, h => cases h
  | 117, h => cases h
  | 118, h => cases h
  | 119, h => cases h
  | 120, h => cases h
  | 121, h => cases h
  | 122, h => cases h
  | 123, h => cases h
  | 124, h => cases h
  | 125, h => cases h
  | 126, h => cases h
  | 127, h =>
    have h0 : pm_hnd [(0, 12, 15, 1, 5, 17), (0, 12, 19, 2, 5, 21)] pc x = some q := h
    have hm := List.mem_of_find?_eq_some h0
    have hc := List.find?_some h0
    simp only [List.mem_cons, List.not_mem_nil, or_false] at hm
    rcases hm with rfl | rfl
    · simp only [Bool.and_eq_true, decide_eq_true_eq, beq_iff_eq] at hc
      obtain ⟨⟨c1, c2⟩, rfl⟩ := hc
      exact ⟨[], ⟨0, 12, 15, 13⟩, [⟨0, 12, 19, 15⟩], rfl, (fun z hz => by cases hz), pm_cov c1 c2, by decide, pm_gin (i := 488) rfl rfl, List.mem_filter.mpr ⟨List.mem_of_getElem? (i := 496) rfl, rfl⟩, by decide, Or.inr ⟨td_L_issue (15, .astore 5, 2, []) (List.mem_of_getElem? (i := 10) rfl), rfl⟩⟩
    · simp only [Bool.and_eq_true, decide_eq_true_eq, beq_iff_eq] at hc
      obtain ⟨⟨c1, c2⟩, rfl⟩ := hc
      exact ⟨[⟨0, 12, 15, 13⟩], ⟨0, 12, 19, 15⟩, [], rfl, (fun z hz => Or.inr (by rw [List.mem_singleton.mp hz]; exact ⟨by decide, "java/lang/IllegalArgumentException", pm_gin (i := 488) rfl rfl, by decide +kernel⟩)), pm_cov c1 c2, by decide, pm_gin (i := 489) rfl rfl, List.mem_filter.mpr ⟨List.mem_of_getElem? (i := 564) rfl, rfl⟩, by decide, Or.inr ⟨td_L_issue (19, .astore 5, 2, []) (List.mem_of_getElem? (i := 13) rfl), rfl⟩⟩
  | 128, h =>
    have h0 : pm_hnd [(0, 9, 12, 3, 3, 13)] pc x = some q := h
    have hm := List.mem_of_find?_eq_some h0
    have hc := List.find?_some h0
    simp only [List.mem_cons, List.not_mem_nil, or_false] at hm
    rcases hm with rfl
    · simp only [Bool.and_eq_true, decide_eq_true_eq, beq_iff_eq] at hc
      obtain ⟨⟨c1, c2⟩, rfl⟩ := hc
      exact ⟨[], ⟨0, 9, 12, 21⟩, [], rfl, (fun z hz => by cases hz), pm_cov c1 c2, by decide, pm_gin (i := 621) rfl rfl, List.mem_filter.mpr ⟨List.mem_of_getElem? (i := 629) rfl, rfl⟩, by decide, Or.inl ⟨3, td_L_retry (12, .astore_n 3, 1, []) (List.mem_of_getElem? (i := 8) rfl), rfl, rfl⟩⟩
  | 129, h =>
    have h0 : pm_hnd [(0, 9, 12, 1, 3, 13)] pc x = some q := h
    have hm := List.mem_of_find?_eq_some h0
    have hc := List.find?_some h0
    simp only [List.mem_cons, List.not_mem_nil, or_false] at hm
    rcases hm with rfl
    · simp only [Bool.and_eq_true, decide_eq_true_eq, beq_iff_eq] at hc
      obtain ⟨⟨c1, c2⟩, rfl⟩ := hc
      exact ⟨[], ⟨0, 9, 12, 13⟩, [], rfl, (fun z hz => by cases hz), pm_cov c1 c2, by decide, pm_gin (i := 488) rfl rfl, List.mem_filter.mpr ⟨List.mem_of_getElem? (i := 496) rfl, rfl⟩, by decide, Or.inl ⟨3, td_L_flood (12, .astore_n 3, 1, []) (List.mem_of_getElem? (i := 8) rfl), rfl, rfl⟩⟩
  | 130, h =>
    have h0 : pm_hnd [(0, 16, 19, 1, 3, 20)] pc x = some q := h
    have hm := List.mem_of_find?_eq_some h0
    have hc := List.find?_some h0
    simp only [List.mem_cons, List.not_mem_nil, or_false] at hm
    rcases hm with rfl
    · simp only [Bool.and_eq_true, decide_eq_true_eq, beq_iff_eq] at hc
      obtain ⟨⟨c1, c2⟩, rfl⟩ := hc
      exact ⟨[], ⟨0, 16, 19, 13⟩, [], rfl, (fun z hz => by cases hz), pm_cov c1 c2, by decide, pm_gin (i := 488) rfl rfl, List.mem_filter.mpr ⟨List.mem_of_getElem? (i := 496) rfl, rfl⟩, by decide, Or.inl ⟨3, td_L_patience (19, .astore_n 3, 1, []) (List.mem_of_getElem? (i := 11) rfl), rfl, rfl⟩⟩
  | 131, h =>
    have h0 : pm_hnd [(0, 17, 20, 1, 4, 22)] pc x = some q := h
    have hm := List.mem_of_find?_eq_some h0
    have hc := List.find?_some h0
    simp only [List.mem_cons, List.not_mem_nil, or_false] at hm
    rcases hm with rfl
    · simp only [Bool.and_eq_true, decide_eq_true_eq, beq_iff_eq] at hc
      obtain ⟨⟨c1, c2⟩, rfl⟩ := hc
      exact ⟨[], ⟨0, 17, 20, 13⟩, [], rfl, (fun z hz => by cases hz), pm_cov c1 c2, by decide, pm_gin (i := 488) rfl rfl, List.mem_filter.mpr ⟨List.mem_of_getElem? (i := 496) rfl, rfl⟩, by decide, Or.inr ⟨td_L_lie (20, .astore 4, 2, []) (List.mem_of_getElem? (i := 12) rfl), rfl⟩⟩
  | 132, h =>
    have h0 : pm_hnd [(0, 17, 20, 1, 4, 22)] pc x = some q := h
    have hm := List.mem_of_find?_eq_some h0
    have hc := List.find?_some h0
    simp only [List.mem_cons, List.not_mem_nil, or_false] at hm
    rcases hm with rfl
    · simp only [Bool.and_eq_true, decide_eq_true_eq, beq_iff_eq] at hc
      obtain ⟨⟨c1, c2⟩, rfl⟩ := hc
      exact ⟨[], ⟨0, 17, 20, 13⟩, [], rfl, (fun z hz => by cases hz), pm_cov c1 c2, by decide, pm_gin (i := 488) rfl rfl, List.mem_filter.mpr ⟨List.mem_of_getElem? (i := 496) rfl, rfl⟩, by decide, Or.inr ⟨td_L_echo (20, .astore 4, 2, []) (List.mem_of_getElem? (i := 12) rfl), rfl⟩⟩
  | 133, h =>
    have h0 : pm_hnd [(0, 10, 13, 1, 4, 15)] pc x = some q := h
    have hm := List.mem_of_find?_eq_some h0
    have hc := List.find?_some h0
    simp only [List.mem_cons, List.not_mem_nil, or_false] at hm
    rcases hm with rfl
    · simp only [Bool.and_eq_true, decide_eq_true_eq, beq_iff_eq] at hc
      obtain ⟨⟨c1, c2⟩, rfl⟩ := hc
      exact ⟨[], ⟨0, 10, 13, 13⟩, [], rfl, (fun z hz => by cases hz), pm_cov c1 c2, by decide, pm_gin (i := 488) rfl rfl, List.mem_filter.mpr ⟨List.mem_of_getElem? (i := 496) rfl, rfl⟩, by decide, Or.inr ⟨td_L_replica (13, .astore 4, 2, []) (List.mem_of_getElem? (i := 9) rfl), rfl⟩⟩
  | 134, h =>
    have h0 : pm_hnd [(0, 10, 13, 3, 4, 15)] pc x = some q := h
    have hm := List.mem_of_find?_eq_some h0
    have hc := List.find?_some h0
    simp only [List.mem_cons, List.not_mem_nil, or_false] at hm
    rcases hm with rfl
    · simp only [Bool.and_eq_true, decide_eq_true_eq, beq_iff_eq] at hc
      obtain ⟨⟨c1, c2⟩, rfl⟩ := hc
      exact ⟨[], ⟨0, 10, 13, 21⟩, [], rfl, (fun z hz => by cases hz), pm_cov c1 c2, by decide, pm_gin (i := 621) rfl rfl, List.mem_filter.mpr ⟨List.mem_of_getElem? (i := 629) rfl, rfl⟩, by decide, Or.inr ⟨td_L_message (13, .astore 4, 2, []) (List.mem_of_getElem? (i := 9) rfl), rfl⟩⟩
  | 135, h =>
    have h0 : pm_hnd [(0, 10, 13, 3, 4, 15)] pc x = some q := h
    have hm := List.mem_of_find?_eq_some h0
    have hc := List.find?_some h0
    simp only [List.mem_cons, List.not_mem_nil, or_false] at hm
    rcases hm with rfl
    · simp only [Bool.and_eq_true, decide_eq_true_eq, beq_iff_eq] at hc
      obtain ⟨⟨c1, c2⟩, rfl⟩ := hc
      exact ⟨[], ⟨0, 10, 13, 21⟩, [], rfl, (fun z hz => by cases hz), pm_cov c1 c2, by decide, pm_gin (i := 621) rfl rfl, List.mem_filter.mpr ⟨List.mem_of_getElem? (i := 629) rfl, rfl⟩, by decide, Or.inr ⟨td_L_request (13, .astore 4, 2, []) (List.mem_of_getElem? (i := 9) rfl), rfl⟩⟩
  | 136, h => cases h
  | n + 137, h =>
    exfalso
    have e : pm_hn (n + 137) = [] := by
      unfold pm_hn
      rw [List.getD_eq_getElem?_getD, List.getElem?_eq_none (by show pm_hns.length ≤ n + 137; exact Nat.le_add_left _ _)]
      rfl
    rw [e] at h
    cases h
