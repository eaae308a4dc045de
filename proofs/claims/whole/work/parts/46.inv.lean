-- deps: 45.pack 39.m8
/-! WHAT ALWAYS HOLDS of the reference's content -/
def Row (nq : Nat) (x : Int64) (n : Nat) : Prop := n ≤ 12 ∧ ∃ a, a < 16 ^ n ∧ x = lN a ∧ (∀ k, k < n → dg a k < nq) ∧ (∀ i j, i < j → j < n → dg a i ≠ dg a j)
theorem Row.mono {nq nq' n : Nat} {x : Int64} (h : Row nq x n) (hq : nq ≤ nq') : Row nq' x n := by
  obtain ⟨h0, a, h1, h2, h3, h4⟩ := h
  exact ⟨h0, a, h1, h2, fun k hk => Nat.lt_of_lt_of_le (h3 k hk) hq, h4⟩
theorem Row.at {nq n : Nat} {x : Int64} (h : Row nq x n) : ∃ f : Nat → Nat, (∀ k, k < n → m_at x (nI k) = nI (f k) ∧ f k < nq) ∧ (∀ i j, i < j → j < n → f i ≠ f j) ∧ (∀ k, f k < 16) := by
  obtain ⟨h0, a, h1, h2, h3, h4⟩ := h
  refine ⟨dg a, fun k hk => ⟨?_, h3 k hk⟩, h4, dg_lt a⟩
  rw [h2, at_l (Nat.lt_trans h1 (p63 h0)) (by omega)]
theorem Row.ok {nq n : Nat} {x : Int64} (h : Row nq x n) (hq : nq ≤ 12) : RowOK x n := fun k hk => by
  obtain ⟨f, h1, -, -⟩ := h.at
  exact ⟨f k, Nat.lt_of_lt_of_le (h1 k hk).2 hq, (h1 k hk).1⟩
theorem Row.zero (nq : Nat) : Row nq 0 0 := ⟨by omega, 0, by decide, rfl, fun k hk => by omega, fun i j _ hj => by omega⟩
theorem Row.pre {nq n m : Nat} {x : Int64} (h : Row nq x n) (hm : m ≤ n) : Row nq (m_begin x (nI m)) m ∧ ∀ k, k < m → m_at (m_begin x (nI m)) (nI k) = m_at x (nI k) := by
  obtain ⟨h0, a, h1, h2, h3, h4⟩ := h
  have hb : m_begin x (nI m) = lN (a % 16 ^ m) := by rw [h2, begin_l (by omega)]
  have hlt : a % 16 ^ m < 16 ^ m := Nat.mod_lt _ (Nat.pow_pos (by decide))
  refine ⟨⟨by omega, a % 16 ^ m, hlt, hb, fun k hk => by rw [dg_mod hk]; exact h3 k (by omega), fun i j hi hj => by rw [dg_mod (by omega), dg_mod hj]; exact h4 i j hi (by omega)⟩, fun k hk => ?_⟩
  rw [hb, h2, at_l (Nat.lt_trans hlt (p63 (by omega))) (by omega), at_l (Nat.lt_trans h1 (p63 h0)) (by omega), dg_mod hk]
theorem Row.ext {nq n : Nat} {x y : Int64} (h : Row nq x n) (g : Row nq y n) (e : ∀ k, k < n → m_at x (nI k) = m_at y (nI k)) : x = y := by
  obtain ⟨h0, a, h1, h2, h3, h4⟩ := h
  obtain ⟨g0, b, g1, g2, g3, g4⟩ := g
  rw [h2, g2]
  congr 1
  refine dg_ext h1 g1 (fun k hk => ?_)
  have := e k hk
  rw [h2, g2, at_l (Nat.lt_trans h1 (p63 h0)) (by omega), at_l (Nat.lt_trans g1 (p63 h0)) (by omega)] at this
  exact (nI_eq (Nat.lt_trans (dg_lt a k) (by decide)) (Nat.lt_trans (dg_lt b k) (by decide))).mp this
theorem Row.room {nq n q : Nat} {x : Int64} (h : Row nq x n) (hq : q < nq) (hn : ∀ k, k < n → m_at x (nI k) ≠ nI q) : n < nq := by
  obtain ⟨f, h1, h2, -⟩ := h.at
  have := pigeon (n + 1) nq (fun k => if k < n then f k else q) (fun k hk => by
      split
      · exact (h1 k (by assumption)).2
      · exact hq) (fun i j hi hj => by
      by_cases e : j < n
      · rw [if_pos (by omega), if_pos e]; exact h2 i j hi e
      · rw [if_pos (by omega), if_neg e]
        intro z
        exact hn i (by omega) (by rw [(h1 i (by omega)).1, z]))
  omega
theorem Row.add {nq n q : Nat} {x : Int64} (h : Row nq x n) (hq : q < nq) (h12 : nq ≤ 12) (hn : ∀ k, k < n → m_at x (nI k) ≠ nI q) : Row nq (m_with x (nI n) (nI q)) (n + 1) ∧ (∀ k, k < n → m_at (m_with x (nI n) (nI q)) (nI k) = m_at x (nI k)) ∧ m_at (m_with x (nI n) (nI q)) (nI n) = nI q := by
  have hr := h.room hq hn
  obtain ⟨h0, a, h1, h2, h3, h4⟩ := h
  have hw : m_with x (nI n) (nI q) = lN (a + q * 16 ^ n) := by rw [h2, with_l (by omega) (by omega), Nat.mod_eq_of_lt h1]
  have hlt : a + q * 16 ^ n < 16 ^ (n + 1) := lt_add16 h1 (by omega)
  have hd : ∀ k, k < n → dg (a + q * 16 ^ n) k = dg a k := fun k hk => by rw [dg_add h1 (by omega), if_pos hk]
  have hdn : dg (a + q * 16 ^ n) n = q := by rw [dg_add h1 (by omega), if_neg (by omega), if_pos rfl]
  refine ⟨⟨by omega, _, hlt, hw, fun k hk => ?_, fun i j hi hj => ?_⟩, fun k hk => ?_, ?_⟩
  · by_cases e : k < n
    · rw [hd k e]; exact h3 k e
    · obtain rfl : k = n := by omega
      rw [hdn]; exact hq
  · by_cases e : j < n
    · rw [hd i (by omega), hd j e]; exact h4 i j hi e
    · obtain rfl : j = n := by omega
      rw [hd i hi, hdn]
      intro z
      refine hn i hi ?_
      rw [h2, at_l (Nat.lt_trans h1 (p63 h0)) (by omega), z]
  · rw [hw, h2, at_l (Nat.lt_trans hlt (p63 (by omega))) (by omega), at_l (Nat.lt_trans h1 (p63 h0)) (by omega), hd k hk]
  · rw [hw, at_l (Nat.lt_trans hlt (p63 (by omega))) (by omega), hdn]
theorem plN_none {x : Int64} {q : Int32} : ∀ {n : Nat}, n < 2 ^ 31 → plN x q n ≤ 0 → ∀ k, k < n → m_at x (nI k) ≠ q
  | 0, _, _, k, hk => by omega
  | n + 1, hn, h, k, hk => by
    rw [plN] at h
    by_cases e : m_at x (nI n) = q
    · rw [if_pos e] at h
      exact absurd h (nI_nle (by omega) hn)
    · rw [if_neg e] at h
      by_cases e2 : k < n
      · exact plN_none (by omega) h k e2
      · obtain rfl : k = n := by omega
        exact e
def Vw (t : Nat) (x : Int32) : Prop := ∃ v, v ≤ t ∧ x = nI v
theorem Vw.mono {t t' : Nat} {x : Int32} (h : Vw t x) (ht : t ≤ t') : Vw t' x := by
  obtain ⟨v, h1, h2⟩ := h
  exact ⟨v, by omega, h2⟩
def I1 (s : MS) : Prop := (∃ m, m ≤ 600 ∧ s.1 17 0 = nI m) ∧ (∃ n, n ≤ 12 ∧ s.1 2 0 = nI n) ∧ KeyOK s ∧ (s.1 1 0 = -1 ∨ ∃ r, r < 4 ∧ s.1 1 0 = nI r)
def IR (s : MS) (t r : Nat) : Prop := Vw t (s.1 6 r) ∧ (∃ n f, s.1 7 r = nI n ∧ s.1 9 r = nI f ∧ f ≤ n ∧ Row (nqN s) (s.2 8 r) n) ∧ (s.1 10 r = 0 ∨ s.1 10 r = 1) ∧ (∃ b, b < 16 ∧ s.1 12 r = nI b)
def IK (s : MS) (t k : Nat) : Prop := s.1 13 k = -1 ∨ (Vw t (s.1 13 k) ∧ ∃ n f, s.1 14 k = nI n ∧ s.1 16 k = nI f ∧ f ≤ n ∧ Row (nqN s) (s.2 15 k) n)
def IM (s : MS) (t j : Nat) : Prop := Vw t (s.1 21 j) ∧
  (s.1 20 j = 4 → (∃ u, u < 4 ∧ s.1 19 j = nI u) ∧ ((s.1 18 j = 2 ∧ (∃ q, q < nqN s ∧ s.1 23 j = nI q) ∧ ∃ p, p ≤ 12 ∧ s.1 22 j = nI p) ∨ s.1 18 j = 4)) ∧
  (¬ s.1 20 j = 4 → ∃ r, r < 4 ∧ s.1 20 j = nI r ∧ (((s.1 18 j = 0 ∨ s.1 18 j = 1) ∧ ∃ q, q < nqN s ∧ s.1 23 j = nI q) ∨ (s.1 18 j = 3 ∧ ∃ p, p ≤ 12 ∧ s.1 22 j = nI p) ∨ (s.1 18 j = 5 ∧ ∃ u, u < 4 ∧ s.1 19 j = nI u) ∨
    ((s.1 18 j = 6 ∨ s.1 18 j = 7) ∧ (∃ u, u < 4 ∧ s.1 19 j = nI u) ∧ ∃ n f, s.1 22 j = nI n ∧ s.1 26 j = nI f ∧ f ≤ n ∧ Row (nqN s) (s.2 27 j) n)))
def IC (s : MS) (t : Nat) : Prop := Vw t (s.1 29 0) ∧ (∀ k, k < 48 → s.1 30 k = -1 ∨ (Vw t (s.1 30 k) ∧ ∃ p, p ≤ 12 ∧ s.1 31 k = nI p)) ∧ (∀ u, u < 4 → s.1 34 u = -1 ∨ Vw t (s.1 34 u)) ∧ ∀ q, q < 12 → (s.1 37 q = 0 ∨ s.1 37 q = 1) ∧ (s.1 42 q = 0 ∨ s.1 42 q = 1)
def IZ (s : MS) : Prop := (∀ j, mN s ≤ j → s.1 28 j = 0) ∧ ∀ q, nqN s ≤ q → q < 12 → s.1 42 q = 0 ∧ s.1 43 q = 0 ∧ s.1 44 q = 0 ∧ s.1 37 q = 0 ∧ ∀ u, u < 4 → s.1 30 (4 * q + u) = -1
def Inv (s : MS) (t : Nat) : Prop := I1 s ∧ (∀ r, r < 4 → IR s t r) ∧ (∀ k, k < 16 → IK s t k) ∧ (∀ j, j < mN s → IM s t j) ∧ IC s t ∧ IZ s
def NP (s : MS) (r : Nat) : Prop := ¬ (¬ s.1 10 r = 0 ∧ rm4 (s.1 6 r) = nI r ∧ ¬ cntN s r (s.1 6 r) 4 < 3)
theorem IR.cong {s s' : MS} {t t' r : Nat} (h : IR s t r) (ht : t ≤ t') (hq : nqN s ≤ nqN s') (h1 : ∀ a, 6 ≤ a → a ≤ 12 → a ≠ 11 → s'.1 a r = s.1 a r) (h2 : s'.2 8 r = s.2 8 r) : IR s' t' r := by
  obtain ⟨a1, ⟨n, f, a2, a3, a4, a5⟩, a6, b, a7, a8⟩ := h
  refine ⟨by rw [h1 6 (by omega) (by omega) (by omega)]; exact a1.mono ht, ⟨n, f, by rw [h1 7 (by omega) (by omega) (by omega)]; exact a2, by rw [h1 9 (by omega) (by omega) (by omega)]; exact a3, a4, by rw [h2]; exact a5.mono hq⟩, by rw [h1 10 (by omega) (by omega) (by omega)]; exact a6, b, a7, by rw [h1 12 (by omega) (by omega) (by omega)]; exact a8⟩
theorem IK.cong {s s' : MS} {t t' k : Nat} (h : IK s t k) (ht : t ≤ t') (hq : nqN s ≤ nqN s') (h1 : ∀ a, 13 ≤ a → a ≤ 16 → s'.1 a k = s.1 a k) (h2 : s'.2 15 k = s.2 15 k) : IK s' t' k := by
  rcases h with h | ⟨a1, n, f, a2, a3, a4, a5⟩
  · exact Or.inl (by rw [h1 13 (by omega) (by omega)]; exact h)
  · exact Or.inr ⟨by rw [h1 13 (by omega) (by omega)]; exact a1.mono ht, n, f, by rw [h1 14 (by omega) (by omega)]; exact a2, by rw [h1 16 (by omega) (by omega)]; exact a3, a4, by rw [h2]; exact a5.mono hq⟩
theorem IM.cong {s s' : MS} {t t' j : Nat} (h : IM s t j) (ht : t ≤ t') (hq : nqN s ≤ nqN s') (h1 : ∀ a, 18 ≤ a → a ≤ 27 → s'.1 a j = s.1 a j) (h2 : s'.2 27 j = s.2 27 j) : IM s' t' j := by
  have e18 := h1 18 (by omega) (by omega)
  have e19 := h1 19 (by omega) (by omega)
  have e20 := h1 20 (by omega) (by omega)
  have e21 := h1 21 (by omega) (by omega)
  have e22 := h1 22 (by omega) (by omega)
  have e23 := h1 23 (by omega) (by omega)
  have e26 := h1 26 (by omega) (by omega)
  unfold IM at *
  rw [e18, e19, e20, e21, e22, e23, e26, h2]
  obtain ⟨a1, a2, a3⟩ := h
  refine ⟨a1.mono ht, fun z => ?_, fun z => ?_⟩
  · obtain ⟨b1, b2⟩ := a2 z
    refine ⟨b1, ?_⟩
    rcases b2 with ⟨c1, ⟨q, c2, c3⟩, c4⟩ | c
    · exact Or.inl ⟨c1, ⟨q, by omega, c3⟩, c4⟩
    · exact Or.inr c
  · obtain ⟨r, b1, b2, b3⟩ := a3 z
    refine ⟨r, b1, b2, ?_⟩
    rcases b3 with ⟨c1, q, c2, c3⟩ | c | c | ⟨c1, c2, n, f, c3, c4, c5, c6⟩
    · exact Or.inl ⟨c1, q, by omega, c3⟩
    · exact Or.inr (Or.inl c)
    · exact Or.inr (Or.inr (Or.inl c))
    · exact Or.inr (Or.inr (Or.inr ⟨c1, c2, n, f, c3, c4, c5, c6.mono hq⟩))
theorem IC.cong {s s' : MS} {t t' : Nat} (h : IC s t) (ht : t ≤ t') (h1 : ∀ a j, 29 ≤ a → a ≤ 44 → s'.1 a j = s.1 a j) : IC s' t' := by
  obtain ⟨a1, a2, a3, a4⟩ := h
  refine ⟨by rw [h1 29 0 (by omega) (by omega)]; exact a1.mono ht, fun k hk => ?_, fun u hu => ?_, fun q hq => ?_⟩
  · rw [h1 30 k (by omega) (by omega), h1 31 k (by omega) (by omega)]
    rcases a2 k hk with z | ⟨z1, z2⟩
    · exact Or.inl z
    · exact Or.inr ⟨z1.mono ht, z2⟩
  · rw [h1 34 u (by omega) (by omega)]
    rcases a3 u hu with z | z
    · exact Or.inl z
    · exact Or.inr (z.mono ht)
  · rw [h1 37 q (by omega) (by omega), h1 42 q (by omega) (by omega)]; exact a4 q hq
theorem nq_cong {s s' : MS} (h : s'.1 2 0 = s.1 2 0) : nqN s' = nqN s := by unfold nqN; rw [h]
theorem m_cong {s s' : MS} (h : s'.1 17 0 = s.1 17 0) : mN s' = mN s := by unfold mN; rw [h]
/-- only replica r's own fields have changed -/
theorem Inv.rep {s s' : MS} {t t' : Nat} (h : Inv s t) (ht : t ≤ t') (r : Nat) (h1 : ∀ a j, 1 ≤ a → a ≠ 45 → ¬ (6 ≤ a ∧ a ≤ 12 ∧ j = r) → s'.1 a j = s.1 a j) (h2 : ∀ a j, ¬ (a = 8 ∧ j = r) → s'.2 a j = s.2 a j) (hR : r < 4 → IR s' t' r) : Inv s' t' := by
  obtain ⟨⟨⟨m, m1, m2⟩, ⟨n, n1, n2⟩, ky, fa⟩, a2, a3, a4, a5, a6⟩ := h
  have eq : nqN s' = nqN s := nq_cong (h1 2 0 (by omega) (by omega) (by omega))
  have em : mN s' = mN s := m_cong (h1 17 0 (by omega) (by omega) (by omega))
  refine ⟨⟨⟨m, m1, by rw [h1 17 0 (by omega) (by omega) (by omega)]; exact m2⟩, ⟨n, n1, by rw [h1 2 0 (by omega) (by omega) (by omega)]; exact n2⟩, fun q hq => by rw [h1 4 q (by omega) (by omega) (by omega)]; exact ky q hq, by rw [h1 1 0 (by omega) (by omega) (by omega)]; exact fa⟩, fun x hx => ?_, fun k hk => ?_, fun j hj => ?_, ?_, ?_⟩
  · by_cases e : x = r
    · subst e; exact hR hx
    · exact (a2 x hx).cong ht (by omega) (fun a _ _ _ => h1 a x (by omega) (by omega) (by omega)) (h2 8 x (by omega))
  · exact (a3 k hk).cong ht (by omega) (fun a _ _ => h1 a k (by omega) (by omega) (by omega)) (h2 15 k (by omega))
  · exact (a4 j (by omega)).cong ht (by omega) (fun a _ _ => h1 a j (by omega) (by omega) (by omega)) (h2 27 j (by omega))
  · exact a5.cong ht (fun a j _ _ => h1 a j (by omega) (by omega) (by omega))
  · refine ⟨fun j hj => by rw [h1 28 j (by omega) (by omega) (by omega)]; exact a6.1 j (by omega), fun q g1 g2 => ?_⟩
    rw [h1 42 q (by omega) (by omega) (by omega), h1 43 q (by omega) (by omega) (by omega), h1 44 q (by omega) (by omega) (by omega), h1 37 q (by omega) (by omega) (by omega)]
    obtain ⟨b1, b2, b3, b4, b5⟩ := a6.2 q (by omega) g2
    exact ⟨b1, b2, b3, b4, fun u hu => by rw [h1 30 _ (by omega) (by omega) (by omega)]; exact b5 u hu⟩
/-- only what is kept of a change has changed -/
theorem Inv.kep {s s' : MS} {t : Nat} (h : Inv s t) (k : Nat) (h1 : ∀ a j, 1 ≤ a → a ≠ 45 → ¬ (13 ≤ a ∧ a ≤ 16 ∧ j = k) → s'.1 a j = s.1 a j) (h2 : ∀ a j, ¬ (a = 15 ∧ j = k) → s'.2 a j = s.2 a j) (hK : k < 16 → IK s' t k) : Inv s' t := by
  obtain ⟨⟨⟨m, m1, m2⟩, ⟨n, n1, n2⟩, ky, fa⟩, a2, a3, a4, a5, a6⟩ := h
  have eq : nqN s' = nqN s := nq_cong (h1 2 0 (by omega) (by omega) (by omega))
  have em : mN s' = mN s := m_cong (h1 17 0 (by omega) (by omega) (by omega))
  refine ⟨⟨⟨m, m1, by rw [h1 17 0 (by omega) (by omega) (by omega)]; exact m2⟩, ⟨n, n1, by rw [h1 2 0 (by omega) (by omega) (by omega)]; exact n2⟩, fun q hq => by rw [h1 4 q (by omega) (by omega) (by omega)]; exact ky q hq, by rw [h1 1 0 (by omega) (by omega) (by omega)]; exact fa⟩, fun x hx => ?_, fun i hi => ?_, fun j hj => ?_, ?_, ?_⟩
  · exact (a2 x hx).cong (Nat.le_refl _) (by omega) (fun a _ _ _ => h1 a x (by omega) (by omega) (by omega)) (h2 8 x (by omega))
  · by_cases e : i = k
    · subst e; exact hK hi
    · exact (a3 i hi).cong (Nat.le_refl _) (by omega) (fun a _ _ => h1 a i (by omega) (by omega) (by omega)) (h2 15 i (by omega))
  · exact (a4 j (by omega)).cong (Nat.le_refl _) (by omega) (fun a _ _ => h1 a j (by omega) (by omega) (by omega)) (h2 27 j (by omega))
  · exact a5.cong (Nat.le_refl _) (fun a j _ _ => h1 a j (by omega) (by omega) (by omega))
  · refine ⟨fun j hj => by rw [h1 28 j (by omega) (by omega) (by omega)]; exact a6.1 j (by omega), fun q g1 g2 => ?_⟩
    rw [h1 42 q (by omega) (by omega) (by omega), h1 43 q (by omega) (by omega) (by omega), h1 44 q (by omega) (by omega) (by omega), h1 37 q (by omega) (by omega) (by omega)]
    obtain ⟨b1, b2, b3, b4, b5⟩ := a6.2 q (by omega) g2
    exact ⟨b1, b2, b3, b4, fun u hu => by rw [h1 30 _ (by omega) (by omega) (by omega)]; exact b5 u hu⟩
/-- one message more -/
theorem Inv.msg {s s' : MS} {t m : Nat} (h : Inv s t) (hm : s.1 17 0 = nI m) (h6 : m < 600) (hf : Fr s s') (hm' : s'.1 17 0 = nI (m + 1)) (h1 : ∀ a j, 18 ≤ a → a ≤ 28 → j ≠ m → s'.1 a j = s.1 a j) (h28 : s'.1 28 m = s.1 28 m) (h2 : ∀ j, j ≠ m → s'.2 27 j = s.2 27 j) (hM : IM s' t m) : Inv s' t := by
  obtain ⟨⟨-, ⟨n, n1, n2⟩, ky, fa⟩, a2, a3, a4, a5, a6⟩ := h
  have eq : nqN s' = nqN s := nq_cong (hf.1 2 0 (by omega) (by omega))
  have em : mN s = m := mN_eq hm (by omega)
  have em' : mN s' = m + 1 := mN_eq hm' (by omega)
  refine ⟨⟨⟨m + 1, by omega, hm'⟩, ⟨n, n1, by rw [hf.1 2 0 (by omega) (by omega)]; exact n2⟩, ky.fr hf, by rw [hf.1 1 0 (by omega) (by omega)]; exact fa⟩, fun x hx => ?_, fun i hi => ?_, fun j hj => ?_, ?_, ?_⟩
  · exact (a2 x hx).cong (Nat.le_refl _) (by omega) (fun a _ _ _ => hf.1 a x (by omega) (by omega)) (hf.2 8 x (by omega))
  · exact (a3 i hi).cong (Nat.le_refl _) (by omega) (fun a _ _ => hf.1 a i (by omega) (by omega)) (hf.2 15 i (by omega))
  · by_cases e : j = m
    · subst e; exact hM
    · exact (a4 j (by omega)).cong (Nat.le_refl _) (by omega) (fun a _ _ => h1 a j (by omega) (by omega) e) (h2 j e)
  · exact a5.cong (Nat.le_refl _) (fun a j _ _ => hf.1 a j (by omega) (by omega))
  · refine ⟨fun j hj => ?_, fun q g1 g2 => ?_⟩
    · rw [h1 28 j (by omega) (by omega) (by omega)]; exact a6.1 j (by omega)
    · rw [hf.1 42 q (by omega) (by omega), hf.1 43 q (by omega) (by omega), hf.1 44 q (by omega) (by omega), hf.1 37 q (by omega) (by omega)]
      obtain ⟨b1, b2, b3, b4, b5⟩ := a6.2 q (by omega) g2
      exact ⟨b1, b2, b3, b4, fun u hu => by rw [hf.1 30 _ (by omega) (by omega)]; exact b5 u hu⟩
/-- what the client knows has changed -/
theorem Inv.cli {s s' : MS} {t : Nat} (h : Inv s t) (h1 : ∀ a j, 1 ≤ a → a < 29 → s'.1 a j = s.1 a j) (h2 : s'.2 = s.2) (hC : IC s' t) (hZ : ∀ q, nqN s ≤ q → q < 12 → s'.1 42 q = 0 ∧ s'.1 43 q = 0 ∧ s'.1 44 q = 0 ∧ s'.1 37 q = 0 ∧ ∀ u, u < 4 → s'.1 30 (4 * q + u) = -1) : Inv s' t := by
  obtain ⟨⟨⟨m, m1, m2⟩, ⟨n, n1, n2⟩, ky, fa⟩, a2, a3, a4, a5, a6⟩ := h
  have eq : nqN s' = nqN s := nq_cong (h1 2 0 (by omega) (by omega))
  have em : mN s' = mN s := m_cong (h1 17 0 (by omega) (by omega))
  refine ⟨⟨⟨m, m1, by rw [h1 17 0 (by omega) (by omega)]; exact m2⟩, ⟨n, n1, by rw [h1 2 0 (by omega) (by omega)]; exact n2⟩, fun q hq => by rw [h1 4 q (by omega) (by omega)]; exact ky q hq, by rw [h1 1 0 (by omega) (by omega)]; exact fa⟩, fun x hx => ?_, fun i hi => ?_, fun j hj => ?_, hC, ?_⟩
  · exact (a2 x hx).cong (Nat.le_refl _) (by omega) (fun a _ _ _ => h1 a x (by omega) (by omega)) (by rw [h2])
  · exact (a3 i hi).cong (Nat.le_refl _) (by omega) (fun a _ _ => h1 a i (by omega) (by omega)) (by rw [h2])
  · exact (a4 j (by omega)).cong (Nat.le_refl _) (by omega) (fun a _ _ => h1 a j (by omega) (by omega)) (by rw [h2])
  · exact ⟨fun j hj => by rw [h1 28 j (by omega) (by omega)]; exact a6.1 j (by omega), fun q g1 g2 => hZ q (by omega) g2⟩
theorem Inv.m {s : MS} {t : Nat} (h : Inv s t) : s.1 17 0 = nI (mN s) ∧ mN s ≤ 600 := by
  obtain ⟨m, m1, m2⟩ := h.1.1
  rw [mN_eq m2 m1]; exact ⟨m2, m1⟩
theorem Inv.q {s : MS} {t : Nat} (h : Inv s t) : s.1 2 0 = nI (nqN s) ∧ nqN s ≤ 12 := by
  obtain ⟨n, n1, n2⟩ := h.1.2.1
  have e : nqN s = n := by rw [nqN, n2, nI_clamp (by omega)]
  rw [e]; exact ⟨n2, n1⟩
theorem Inv.mono {s : MS} {t t' : Nat} (h : Inv s t) (ht : t ≤ t') : Inv s t' := h.rep ht 0 (fun _ _ _ _ _ => rfl) (fun _ _ _ => rfl) (fun hr => (h.2.1 0 hr).cong ht (Nat.le_refl _) (fun _ _ _ _ => rfl) rfl)
/-- a scratch field -/
theorem Inv.scr {s s' : MS} {t : Nat} (h : Inv s t) (h1 : ∀ a j, 1 ≤ a → a ≠ 45 → s'.1 a j = s.1 a j) (h2 : s'.2 = s.2) : Inv s' t := h.rep (Nat.le_refl _) 0 (fun a j h0 h45 _ => h1 a j h0 h45) (fun a j _ => by rw [h2]) (fun hr => (h.2.1 0 hr).cong (Nat.le_refl _) (by rw [nq_cong (h1 2 0 (by omega) (by omega))]; exact Nat.le_refl _) (fun a g1 g2 _ => h1 a 0 (by omega) (by omega)) (by rw [h2]))
