/-! THE REFERENCE'S CONTENT: ints (field, index) and longs (field, index); its cells 31 .. 72 -/
/-- a run that gives v and leaves the heap h1 -/
def pz (v : Option Value) (h1 : pm_H) : (Option Value ⊕ Nat) → pm_H → Prop := fun x h2 => x = .inl v ∧ h2 = h1
abbrev pu (sc : pm_Sc) (j : Nat) (as : List Value) (h : pm_H) (Q : (Option Value ⊕ Nat) → pm_H → Prop) : Prop := pw sc j (0, lv_args 0 as, [], h) Q
abbrev MS : Type := (Nat → Nat → Int32) × (Nat → Nat → Int64)
def up (s : MS) (k j : Nat) (v : Int32) : MS := (fun a b => if a = k ∧ b = j then v else s.1 a b, s.2)
def ul (s : MS) (k j : Nat) (v : Int64) : MS := (s.1, fun a b => if a = k ∧ b = j then v else s.2 a b)
def m_k (a : Nat) : Nat := if a < 46 then a - 29 else if a < 57 then a - 28 else a - 27
def m_len (a : Nat) : Nat := if a < 35 then 12 else if a < 42 then 4 else if a < 46 then 16 else if a < 57 then 600 else if a < 61 then 48 else if a < 64 then 4 else if a < 72 then 12 else 4
def m_tag (a : Nat) : Nat := if a = 37 ∨ a = 44 ∨ a = 55 then 1 else if a = 39 ∨ a = 64 ∨ a = 69 then 2 else 0
def mobj (s : MS) : List Value := [.int (s.1 0 0), .int (s.1 1 0), .int (s.1 2 0), .ref 32, .ref 33, .ref 34, .ref 35, .ref 36, .ref 37, .ref 38, .ref 39, .ref 40, .ref 41, .ref 42, .ref 43, .ref 44, .ref 45, .int (s.1 17 0), .ref 46, .ref 47, .ref 48, .ref 49, .ref 50, .ref 51, .ref 52, .ref 53, .ref 54, .ref 55, .ref 56, .int (s.1 29 0), .ref 57, .ref 58, .ref 59, .ref 60, .ref 61, .ref 62, .ref 63, .ref 64, .ref 65, .ref 66, .ref 67, .ref 68, .ref 69, .ref 70, .ref 71, .ref 72]
def mcell (s : MS) (a : Nat) : pm_C := if a = 31 then .inr (8, mobj s) else if m_tag a = 1 then .inl (1, (List.range (m_len a)).map fun j => .long (s.2 (m_k a) j)) else .inl (m_tag a, (List.range (m_len a)).map fun j => .int (s.1 (m_k a) j))
def mset (cs : List pm_C) (s : MS) : List pm_C := (List.range cs.length).map fun a => if 31 ≤ a ∧ a ≤ 72 then mcell s a else cs.getD a (.inl (0, []))
theorem mset_length (cs : List pm_C) (s : MS) : (mset cs s).length = cs.length := by unfold mset; simp
theorem mset_in {cs : List pm_C} {s : MS} {a : Nat} (hc : 72 < cs.length) (h1 : 31 ≤ a) (h2 : a ≤ 72) : (mset cs s)[a]? = some (mcell s a) := by
  unfold mset
  rw [List.getElem?_map, List.getElem?_range (by omega)]
  simp [h1, h2]
theorem mset_out {cs : List pm_C} {s : MS} {a : Nat} (h1 : ¬ (31 ≤ a ∧ a ≤ 72)) : (mset cs s)[a]? = cs[a]? := by
  unfold mset
  rw [List.getElem?_map]
  rcases Nat.lt_or_ge a cs.length with h | h
  · rw [List.getElem?_range h]
    simp [h1, List.getD, h]
  · rw [List.getElem?_eq_none (by simpa using h), List.getElem?_eq_none h]; rfl
theorem mset_ext {cs cs' : List pm_C} {s : MS} (hc : 72 < cs.length) (hl : cs'.length = cs.length) (h1 : ∀ a, 31 ≤ a → a ≤ 72 → cs'[a]? = some (mcell s a)) (h2 : ∀ a, ¬ (31 ≤ a ∧ a ≤ 72) → cs'[a]? = cs[a]?) : cs' = mset cs s := by
  apply List.ext_getElem?
  intro a
  by_cases h : 31 ≤ a ∧ a ≤ 72
  · rw [h1 a h.1 h.2, mset_in hc h.1 h.2]
  · rw [h2 a h, mset_out h]
theorem mset_ob {cs : List pm_C} {s : MS} (hc : 72 < cs.length) : (mset cs s)[31]? = some (.inr (8, mobj s)) := mset_in hc (Nat.le_refl _) (by omega)
theorem mset_mset (cs : List pm_C) (s s' : MS) : mset (mset cs s) s' = mset cs s' := by
  rcases Nat.lt_or_ge 72 cs.length with h | h
  · refine mset_ext h (by rw [mset_length, mset_length]) (fun a h1 h2 => mset_in (by rw [mset_length]; exact h) h1 h2) (fun a h1 => by rw [mset_out h1, mset_out h1])
  · apply List.ext_getElem?
    intro a
    unfold mset
    rw [List.getElem?_map, List.getElem?_map, List.length_map, List.length_range]
    rcases Nat.lt_or_ge a cs.length with g | g
    · rw [List.getElem?_range g]
      by_cases e : 31 ≤ a ∧ a ≤ 72
      · simp [e]
      · simp [e, List.getD, g]
    · rw [List.getElem?_eq_none (by simpa using g)]; rfl
theorem m_k_inj {a b : Nat} (h1 : 32 ≤ a) (h2 : a ≤ 72) (h3 : 32 ≤ b) (h4 : b ≤ 72) (h : m_k a = m_k b) : a = b := by unfold m_k at h; split at h <;> split at h <;> (try split at h) <;> (try split at h) <;> omega
theorem m_k_sc {a : Nat} (h1 : 32 ≤ a) (h2 : a ≤ 72) : ¬ (m_k a = 0 ∨ m_k a = 1 ∨ m_k a = 2 ∨ m_k a = 17 ∨ m_k a = 29) := by unfold m_k; split <;> (try split) <;> omega
theorem up_i {s : MS} {k j : Nat} {v : Int32} : (up s k j v).1 k j = v := if_pos ⟨rfl, rfl⟩
theorem up_n {s : MS} {k j a b : Nat} {v : Int32} (h : ¬ (a = k ∧ b = j)) : (up s k j v).1 a b = s.1 a b := if_neg h
theorem up_l {s : MS} {k j : Nat} {v : Int32} : (up s k j v).2 = s.2 := rfl
theorem ul_i {s : MS} {k j : Nat} {v : Int64} : (ul s k j v).2 k j = v := if_pos ⟨rfl, rfl⟩
theorem ul_n {s : MS} {k j a b : Nat} {v : Int64} (h : ¬ (a = k ∧ b = j)) : (ul s k j v).2 a b = s.2 a b := if_neg h
theorem ul_l {s : MS} {k j : Nat} {v : Int64} : (ul s k j v).1 = s.1 := rfl
theorem map_up (n j : Nat) (hj : j < n) (f : Nat → Value) (x : Value) : ((List.range n).map f).set j x = (List.range n).map (fun b => if b = j then x else f b) := by
  apply List.ext_getElem?
  intro a
  rw [List.getElem?_set, List.getElem?_map]
  by_cases h : j = a
  · subst h
    rw [if_pos rfl, if_pos (by simpa using hj), List.getElem?_map, List.getElem?_range hj]; simp
  · rw [if_neg h, List.getElem?_map]
    rcases Nat.lt_or_ge a n with g | g
    · rw [List.getElem?_range g]; simp [Ne.symm h]
    · rw [List.getElem?_eq_none (by simpa using g)]; rfl
theorem mobj_up {s : MS} {a j : Nat} {v : Int32} (h1 : 32 ≤ a) (h2 : a ≤ 72) : mobj (up s (m_k a) j v) = mobj s := by
  have h := m_k_sc h1 h2
  unfold mobj
  rw [up_n (by omega), up_n (by omega), up_n (by omega), up_n (by omega), up_n (by omega)]
theorem mset_upI {cs : List pm_C} {s : MS} {a j : Nat} {x : Int32} (hc : 72 < cs.length) (h1 : 32 ≤ a) (h2 : a ≤ 72) (ht : ¬ m_tag a = 1) (hj : j < m_len a) : (mset cs s).set a (.inl (m_tag a, ((List.range (m_len a)).map fun j => Value.int (s.1 (m_k a) j)).set j (.int x))) = mset cs (up s (m_k a) j x) := by
  refine mset_ext hc (by rw [List.length_set, mset_length]) (fun b g1 g2 => ?_) (fun b g => ?_)
  · by_cases e : a = b
    · subst e
      rw [gs_self (mset_in hc g1 g2)]
      unfold mcell
      rw [if_neg (by omega), if_neg ht, map_up _ _ hj]
      congr 4
      funext b
      by_cases e2 : b = j
      · subst e2; rw [if_pos rfl, up_i]
      · rw [if_neg e2, up_n (fun z => e2 z.2)]
    · rw [gs_ne e, mset_in hc g1 g2]
      congr 1
      unfold mcell
      rw [mobj_up h1 h2]
      by_cases e3 : b = 31
      · rw [if_pos e3, if_pos e3]
      · rw [if_neg e3, if_neg e3]
        have hk : ¬ m_k b = m_k a := fun z => e (m_k_inj h1 h2 (by omega) g2 z.symm)
        have hf : ∀ j', (up s (m_k a) j x).1 (m_k b) j' = s.1 (m_k b) j' := fun j' => up_n (fun z => hk z.1)
        simp only [hf, up_l]
  · have e : a ≠ b := by omega
    rw [gs_ne e, mset_out g]
theorem mset_upL {cs : List pm_C} {s : MS} {a j : Nat} {x : Int64} (hc : 72 < cs.length) (h1 : 32 ≤ a) (h2 : a ≤ 72) (ht : m_tag a = 1) (hj : j < m_len a) : (mset cs s).set a (.inl (1, ((List.range (m_len a)).map fun j => Value.long (s.2 (m_k a) j)).set j (.long x))) = mset cs (ul s (m_k a) j x) := by
  refine mset_ext hc (by rw [List.length_set, mset_length]) (fun b g1 g2 => ?_) (fun b g => ?_)
  · by_cases e : a = b
    · subst e
      rw [gs_self (mset_in hc g1 g2)]
      unfold mcell
      rw [if_neg (by omega), if_pos ht, map_up _ _ hj]
      congr 4
      funext b
      by_cases e2 : b = j
      · subst e2; rw [if_pos rfl, ul_i]
      · rw [if_neg e2, ul_n (fun z => e2 z.2)]
    · rw [gs_ne e, mset_in hc g1 g2]
      congr 1
      unfold mcell
      by_cases e3 : b = 31
      · rw [if_pos e3, if_pos e3]; rfl
      · rw [if_neg e3, if_neg e3]
        have hk : ¬ m_k b = m_k a := fun z => e (m_k_inj h1 h2 (by omega) g2 z.symm)
        have hf : ∀ j', (ul s (m_k a) j x).2 (m_k b) j' = s.2 (m_k b) j' := fun j' => ul_n (fun z => hk z.1)
        simp only [hf, ul_l]
  · have e : a ≠ b := by omega
    rw [gs_ne e, mset_out g]
theorem mset_upS {cs : List pm_C} {s : MS} {k : Nat} {x : Int32} (hc : 72 < cs.length) (hk : k = 0 ∨ k = 1 ∨ k = 2 ∨ k = 17 ∨ k = 29) : (mset cs s).set 31 (.inr (8, (mobj s).set k (.int x))) = mset cs (up s k 0 x) := by
  refine mset_ext hc (by rw [List.length_set, mset_length]) (fun b g1 g2 => ?_) (fun b g => ?_)
  · by_cases e : 31 = b
    · subst e
      rw [gs_self (mset_in hc g1 g2)]
      rcases hk with rfl | rfl | rfl | rfl | rfl <;> rfl
    · rw [gs_ne e, mset_in hc g1 g2]
      congr 1
      unfold mcell
      have e' : ¬ b = 31 := fun z => e z.symm
      rw [if_neg e', if_neg e']
      have hs := m_k_sc (a := b) (by omega) g2
      have hf : ∀ j', (up s k 0 x).1 (m_k b) j' = s.1 (m_k b) j' := fun j' => up_n (by omega)
      simp only [hf, up_l]
  · have e : 31 ≠ b := by omega
    rw [gs_ne e, mset_out g]
/-! the rows over it -/
section MW
variable {sc : pm_Sc} {i : Nat} {pc : Nat} {lv : pm_L} {st r : List Value} {kn : Nat × Nat} {cs : List pm_C} {s : MS} {Q : (Option Value ⊕ Nat) → pm_H → Prop}
theorem w_mil {a j k len : Nat} {x : Int32} (ha : pm_at i pc = some (.iaload, len, [])) (hc : 72 < cs.length) (hm : m_tag a = 0 ∧ m_k a = k ∧ 32 ≤ a ∧ a ≤ 72) (hx : x = nI j) (hj : j < m_len a ∧ m_len a < 1000) (kk : pw sc i (pc + 1, lv, .int (s.1 k j) :: r, (mset cs s, kn)) Q) : pw sc i (pc, lv, .int x :: .ref a :: r, (mset cs s, kn)) Q := by
  subst hx
  obtain ⟨ht, rfl, h1, h2⟩ := hm
  have e : (mset cs s)[a]? = some (.inl (0, (List.range (m_len a)).map fun j => Value.int (s.1 (m_k a) j))) := by
    rw [mset_in hc (by omega) h2]; unfold mcell; rw [if_neg (by omega), if_neg (by omega), ht]
  exact w_iaload ha e (nI_pos (by omega)) (by rw [nI_clamp (by omega), List.getElem?_map, List.getElem?_range hj.1]; rfl) kk
theorem w_mbl {a j k len : Nat} {x : Int32} (ha : pm_at i pc = some (.baload, len, [])) (hc : 72 < cs.length) (hm : m_tag a = 2 ∧ m_k a = k ∧ 32 ≤ a ∧ a ≤ 72) (hx : x = nI j) (hj : j < m_len a ∧ m_len a < 1000) (kk : pw sc i (pc + 1, lv, .int (s.1 k j) :: r, (mset cs s, kn)) Q) : pw sc i (pc, lv, .int x :: .ref a :: r, (mset cs s, kn)) Q := by
  subst hx
  obtain ⟨ht, rfl, h1, h2⟩ := hm
  have e : (mset cs s)[a]? = some (.inl (2, (List.range (m_len a)).map fun j => Value.int (s.1 (m_k a) j))) := by
    rw [mset_in hc (by omega) h2]; unfold mcell; rw [if_neg (by omega), if_neg (by omega), ht]
  exact w_baload ha e (nI_pos (by omega)) (by rw [nI_clamp (by omega), List.getElem?_map, List.getElem?_range hj.1]; rfl) kk
theorem w_mll {a j k len : Nat} {x : Int32} (ha : pm_at i pc = some (.laload, len, [])) (hc : 72 < cs.length) (hm : m_tag a = 1 ∧ m_k a = k ∧ 32 ≤ a ∧ a ≤ 72) (hx : x = nI j) (hj : j < m_len a ∧ m_len a < 1000) (kk : pw sc i (pc + 1, lv, .long (s.2 k j) :: r, (mset cs s, kn)) Q) : pw sc i (pc, lv, .int x :: .ref a :: r, (mset cs s, kn)) Q := by
  subst hx
  obtain ⟨ht, rfl, h1, h2⟩ := hm
  have e : (mset cs s)[a]? = some (.inl (1, (List.range (m_len a)).map fun j => Value.long (s.2 (m_k a) j))) := by
    rw [mset_in hc (by omega) h2]; unfold mcell; rw [if_neg (by omega), if_pos ht]
  exact w_laload ha e (nI_pos (by omega)) (by rw [nI_clamp (by omega), List.getElem?_map, List.getElem?_range hj.1]; rfl) kk
theorem w_mis {a j k len : Nat} {x v : Int32} (ha : pm_at i pc = some (.iastore, len, [])) (hc : 72 < cs.length) (hm : m_tag a = 0 ∧ m_k a = k ∧ 32 ≤ a ∧ a ≤ 72) (hx : x = nI j) (hj : j < m_len a ∧ m_len a < 1000) (kk : pw sc i (pc + 1, lv, r, (mset cs (up s k j v), kn)) Q) : pw sc i (pc, lv, .int v :: .int x :: .ref a :: r, (mset cs s, kn)) Q := by
  subst hx
  obtain ⟨ht, rfl, h1, h2⟩ := hm
  have e : (mset cs s)[a]? = some (.inl (0, (List.range (m_len a)).map fun j => Value.int (s.1 (m_k a) j))) := by
    rw [mset_in hc (by omega) h2]; unfold mcell; rw [if_neg (by omega), if_neg (by omega), ht]
  refine w_iastore ha e ⟨nI_pos (by omega), by rw [nI_clamp (by omega), List.length_map, List.length_range]; exact hj.1⟩ ?_
  rw [nI_clamp (by omega)]
  have h := mset_upI (cs := cs) (s := s) (x := v) hc h1 h2 (by omega) hj.1
  rw [ht] at h
  rw [h]
  exact kk
theorem w_mbs {a j k len : Nat} {x v : Int32} (ha : pm_at i pc = some (.bastore, len, [])) (hc : 72 < cs.length) (hv : v = 0 ∨ v = 1) (hm : m_tag a = 2 ∧ m_k a = k ∧ 32 ≤ a ∧ a ≤ 72) (hx : x = nI j) (hj : j < m_len a ∧ m_len a < 1000) (kk : pw sc i (pc + 1, lv, r, (mset cs (up s k j v), kn)) Q) : pw sc i (pc, lv, .int v :: .int x :: .ref a :: r, (mset cs s, kn)) Q := by
  subst hx
  obtain ⟨ht, rfl, h1, h2⟩ := hm
  have e : (mset cs s)[a]? = some (.inl (2, (List.range (m_len a)).map fun j => Value.int (s.1 (m_k a) j))) := by
    rw [mset_in hc (by omega) h2]; unfold mcell; rw [if_neg (by omega), if_neg (by omega), ht]
  refine w_bastore ha e ⟨hv, nI_pos (by omega), by rw [nI_clamp (by omega), List.length_map, List.length_range]; exact hj.1⟩ ?_
  rw [nI_clamp (by omega)]
  have h := mset_upI (cs := cs) (s := s) (x := v) hc h1 h2 (by omega) hj.1
  rw [ht] at h
  rw [h]
  exact kk
theorem w_mls {a j k len : Nat} {x : Int32} {v : Int64} (ha : pm_at i pc = some (.lastore, len, [])) (hc : 72 < cs.length) (hm : m_tag a = 1 ∧ m_k a = k ∧ 32 ≤ a ∧ a ≤ 72) (hx : x = nI j) (hj : j < m_len a ∧ m_len a < 1000) (kk : pw sc i (pc + 1, lv, r, (mset cs (ul s k j v), kn)) Q) : pw sc i (pc, lv, .long v :: .int x :: .ref a :: r, (mset cs s, kn)) Q := by
  subst hx
  obtain ⟨ht, rfl, h1, h2⟩ := hm
  have e : (mset cs s)[a]? = some (.inl (1, (List.range (m_len a)).map fun j => Value.long (s.2 (m_k a) j))) := by
    rw [mset_in hc (by omega) h2]; unfold mcell; rw [if_neg (by omega), if_pos ht]
  refine w_lastore ha e ⟨nI_pos (by omega), by rw [nI_clamp (by omega), List.length_map, List.length_range]; exact hj.1⟩ ?_
  rw [nI_clamp (by omega), mset_upL hc h1 h2 ht hj.1]
  exact kk
theorem w_mps {n k lk len : Nat} {v : Int32} (ha : pm_at i pc = some (.putfield n, len, [8, k, lk])) (hc : 72 < cs.length) (hk : k = 0 ∨ k = 1 ∨ k = 2 ∨ k = 17 ∨ k = 29) (hf : pm_fit (pm_ty 8 k) (.int v) = true) (kk : pw sc i (pc + 3, lv, r, (mset cs (up s k 0 v), kn)) Q) : pw sc i (pc, lv, .int v :: .ref 31 :: r, (mset cs s, kn)) Q := by
  refine w_putfield ha (mset_ob hc) (by show k < 46; omega) hf ?_
  show pw sc i (pc + 3, lv, r, ((mset cs s).set 31 (.inr (8, (mobj s).set k (.int v))), kn)) Q
  rw [mset_upS hc hk]
  exact kk
theorem w_imulN {x y len : Nat} {v w : Int32} {h : pm_H} (ha : pm_at i pc = some (.imul, len, [])) (hv : v = nI x) (hw : w = nI y) (k : pw sc i (pc + 1, lv, .int (nI (x * y)) :: r, h) Q) : pw sc i (pc, lv, .int w :: .int v :: r, h) Q := by
  subst hv; subst hw
  refine w_imul ha ?_
  have e : nI x * nI y = nI (x * y) := (Int32.ofNat_mul x y).symm
  rw [e]; exact k
theorem w_iaddN {x y len : Nat} {v w : Int32} {h : pm_H} (ha : pm_at i pc = some (.iadd, len, [])) (hv : v = nI x) (hw : w = nI y) (k : pw sc i (pc + 1, lv, .int (nI (x + y)) :: r, h) Q) : pw sc i (pc, lv, .int w :: .int v :: r, h) Q := by
  subst hv; subst hw
  refine w_iadd ha ?_
  rw [nI_add]; exact k
theorem w_isubN {x y len : Nat} {v w : Int32} {h : pm_H} (ha : pm_at i pc = some (.isub, len, [])) (hv : v = nI x) (hw : w = nI y) (hy : y ≤ x) (k : pw sc i (pc + 1, lv, .int (nI (x - y)) :: r, h) Q) : pw sc i (pc, lv, .int w :: .int v :: r, h) Q := by
  subst hv; subst hw
  refine w_isub ha ?_
  rw [pk_sub hy]; exact k
theorem w_iremN {x y len : Nat} {v w : Int32} {h : pm_H} (ha : pm_at i pc = some (.irem, len, [])) (hv : v = nI x) (hw : w = nI y) (hx : x < 2 ^ 31) (hy : 0 < y ∧ y < 2 ^ 31) (k : pw sc i (pc + 1, lv, .int (nI (x % y)) :: r, h) Q) : pw sc i (pc, lv, .int w :: .int v :: r, h) Q := by
  subst hv; subst hw
  refine w_irem ha (nI_ne0 hy.1 hy.2) ?_
  rw [pk_rem hx hy.1 hy.2]; exact k
theorem w_iincN {k j len : Nat} {v : Int32} {h : pm_H} (ha : pm_at i pc = some (.iinc k 1, len, [])) (hv : v = nI j) (hl : pm_ld lv k = some (.int v)) (hn : k < pm_nL i) (kk : pw sc i (pc + 3, pm_s1 lv k (.int (nI (j + 1))), r, h) Q) : pw sc i (pc, lv, r, h) Q := w_iinc ha hl hn (by rw [hv, nI_succ]; rfl) kk
end MW
theorem ld_self {lv : pm_L} {i : Nat} {v : Value} : pm_ld (pm_s1 lv i v) i = some v := by unfold pm_ld pm_s1; simp
theorem ld_s1 {lv : pm_L} {i j : Nat} {v w : Value} (hij : j ≠ i) (hj : pm_ld lv j = some w) (hc : j + 1 = i → w.category = 1) : pm_ld (pm_s1 lv i v) j = some w := by
  unfold pm_ld pm_s1 at *
  rw [List.find?_cons_of_neg (by simpa using fun e => hij e.symm)]
  induction lv with
  | nil => simp at hj
  | cons q l ih =>
    by_cases e : q.1 = j
    · rw [List.find?_cons_of_pos (by simpa using e)] at hj
      have ew : q.2 = w := by simpa using hj
      rw [List.filter_cons_of_pos, List.find?_cons_of_pos (by simpa using e)]
      · exact hj
      · have c1 : ¬ q.1 = i := by rw [e]; exact hij
        by_cases c2 : q.1 + 1 = i
        · have c3 : q.2.category = 1 := by rw [ew]; exact hc (by rw [← e]; exact c2)
          simp [c1, c3]
        · simp [c1, c2]
    · rw [List.find?_cons_of_neg (by simpa using e)] at hj
      by_cases c : (!(q.1 == i) && !(q.1 + 1 == i && q.2.category == 2)) = true
      · rw [List.filter_cons_of_pos (by simpa using c), List.find?_cons_of_neg (by simpa using e)]
        exact ih hj
      · rw [List.filter_cons_of_neg (by simpa using c)]
        exact ih hj
theorem ld_self2 {lv : pm_L} {i : Nat} {v : Value} : pm_ld (pm_s2 lv i v) i = some v := by unfold pm_ld pm_s2; simp
theorem ld_s2 {lv : pm_L} {i j : Nat} {v w : Value} (hij : j ≠ i ∧ j ≠ i + 1) (hj : pm_ld lv j = some w) (hc : j + 1 = i → w.category = 1) : pm_ld (pm_s2 lv i v) j = some w := by
  unfold pm_ld pm_s2 at *
  rw [List.find?_cons_of_neg (by simpa using fun e => hij.1 e.symm)]
  induction lv with
  | nil => simp at hj
  | cons q l ih =>
    by_cases e : q.1 = j
    · rw [List.find?_cons_of_pos (by simpa using e)] at hj
      have ew : q.2 = w := by simpa using hj
      rw [List.filter_cons_of_pos, List.find?_cons_of_pos (by simpa using e)]
      · exact hj
      · have c1 : ¬ q.1 = i := by rw [e]; exact hij.1
        have c4 : ¬ q.1 = i + 1 := by rw [e]; exact hij.2
        by_cases c2 : q.1 + 1 = i
        · have c3 : q.2.category = 1 := by rw [ew]; exact hc (by rw [← e]; exact c2)
          simp [c1, c3, c4]
        · simp [c1, c2, c4]
    · rw [List.find?_cons_of_neg (by simpa using e)] at hj
      by_cases c : (!(q.1 == i) && (!(q.1 == i + 1) && !(q.1 + 1 == i && q.2.category == 2))) = true
      · rw [List.filter_cons_of_pos (by simpa using c), List.find?_cons_of_neg (by simpa using e)]
        exact ih hj
      · rw [List.filter_cons_of_neg (by simpa using c)]
        exact ih hj
