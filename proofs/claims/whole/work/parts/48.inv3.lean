-- deps: 47.inv2
/-! the change of the primary: what is merged -/
def cnN (s : MS) (r : Nat) (v : Int32) : Nat → Nat
  | 0 => 0
  | t + 1 => cnN s r v t + (if s.1 13 (4 * r + t) = v then 1 else 0)
theorem cnN_le (s : MS) (r : Nat) (v : Int32) : ∀ t, cnN s r v t ≤ t
  | 0 => Nat.le_refl _
  | t + 1 => by rw [cnN]; have := cnN_le s r v t; split <;> omega
theorem cntN_n (s : MS) (r : Nat) (v : Int32) : ∀ t, cntN s r v t = nI (cnN s r v t)
  | 0 => rfl
  | t + 1 => by
    rw [cntN, cnN, cntN_n s r v t]
    split
    · rw [← nI_add]; rfl
    · rw [Nat.add_zero]; exact Int32.add_zero _
theorem cnt_lt {s : MS} {r : Nat} {v : Int32} : cntN s r v 4 < 3 ↔ cnN s r v 4 < 3 := by
  have := cnN_le s r v 4
  rw [cntN_n]
  exact nI_ltI (b := 3) (by omega) (by omega)
theorem cnN_mono {s s' : MS} {r : Nat} {v : Int32} : ∀ t, (∀ u, u < t → s'.1 13 (4 * r + u) = v → s.1 13 (4 * r + u) = v) → cnN s' r v t ≤ cnN s r v t
  | 0, _ => Nat.le_refl _
  | t + 1, h => by
    rw [cnN, cnN]
    have h1 := cnN_mono t (fun u hu => h u (by omega))
    by_cases e : s'.1 13 (4 * r + t) = v
    · rw [if_pos e, if_pos (h t (by omega) e)]; omega
    · rw [if_neg e]; omega
theorem cnN_some {s : MS} {r : Nat} {v : Int32} : ∀ t, 0 < cnN s r v t → ∃ u, u < t ∧ s.1 13 (4 * r + u) = v
  | 0, h => by rw [cnN] at h; omega
  | t + 1, h => by
    rw [cnN] at h
    by_cases e : s.1 13 (4 * r + t) = v
    · exact ⟨t, by omega, e⟩
    · rw [if_neg e] at h
      obtain ⟨u, h1, h2⟩ := cnN_some t h
      exact ⟨u, by omega, h2⟩
theorem cnN_cong {s s' : MS} {r : Nat} {v : Int32} (t : Nat) (h : ∀ u, u < t → s'.1 13 (4 * r + u) = s.1 13 (4 * r + u)) : cnN s' r v t = cnN s r v t := Nat.le_antisymm (cnN_mono t (fun u hu e => (h u hu).symm.trans e)) (cnN_mono t (fun u hu e => (h u hu).trans e))
theorem saf_ok {s : MS} {r : Nat} : ∀ t, (∃ u, u < t ∧ s.1 13 (4 * r + u) = s.1 6 r) → ∃ b, b < t ∧ safN s r t = nI b ∧ s.1 13 (4 * r + b) = s.1 6 r
  | 0, ⟨u, h, _⟩ => by omega
  | t + 1, ⟨u, h1, h2⟩ => by
    rw [safN]
    by_cases c : s.1 13 (4 * r + t) = s.1 6 r ∧ (safN s r t < 0 ∨ ¬ s.1 16 (4 * r + t) ≤ s.1 16 (4 * r + (safN s r t).toNatClampNeg))
    · rw [if_pos c]; exact ⟨t, by omega, rfl, c.1⟩
    · rw [if_neg c]
      by_cases e : u < t
      · obtain ⟨b, b1, b2, b3⟩ := saf_ok t ⟨u, e, h2⟩
        exact ⟨b, by omega, b2, b3⟩
      · obtain rfl : u = t := by omega
        have hs : ¬ safN s r u < 0 := fun z => c ⟨h2, Or.inl z⟩
        rcases saf_nat s r u with z | ⟨b, b1, b2⟩
        · exact absurd z hs
        · obtain ⟨b', b1', b2', b3'⟩ := saf_ok u (by
            rcases Classical.em (∃ w, w < u ∧ s.1 13 (4 * r + w) = s.1 6 r) with y | y
            · exact y
            · exfalso
              have hn : ∀ k, k ≤ u → safN s r k = -1 := by
                intro k
                induction k with
                | zero => intro _; rfl
                | succ k ih =>
                  intro hk
                  rw [safN, if_neg (fun z => y ⟨k, by omega, z.1⟩)]
                  exact ih (by omega)
              exact hs (by rw [hn u (Nat.le_refl _)]; decide))
          exact ⟨b', by omega, b2', b3'⟩
/-- a kept row with its length -/
def KR (s : MS) (r j n : Nat) : Prop := j < 4 ∧ s.1 13 (4 * r + j) = s.1 6 r ∧ ∃ l, s.1 14 (4 * r + j) = nI l ∧ n ≤ l ∧ Row (nqN s) (s.2 15 (4 * r + j)) l
theorem nI_nm1 {v : Nat} (h : v < 2 ^ 31) : ¬ nI v = -1 := fun z => by
  have e := nI_toInt h
  rw [z] at e
  have : (-1 : Int32).toInt = -1 := by decide
  omega
theorem Inv.kr {s : MS} {t r j : Nat} (h : Inv s t) (ht : t < 2 ^ 31) (hr : r < 4) (hj : j < 4) (e : s.1 13 (4 * r + j) = s.1 6 r) : ∃ l f, s.1 14 (4 * r + j) = nI l ∧ s.1 16 (4 * r + j) = nI f ∧ f ≤ l ∧ Row (nqN s) (s.2 15 (4 * r + j)) l := by
  rcases h.2.2.1 (4 * r + j) (by omega) with z | ⟨-, n, f, a1, a2, a3, a4⟩
  · obtain ⟨-, -, -, -, ⟨v, hv, ev⟩, -⟩ := h.r hr
    exfalso
    rw [e, ev] at z
    exact nI_nm1 (by omega) z
  · exact ⟨n, f, a1, a2, a3, a4⟩
theorem with_begin {nq n l : Nat} {x : Int64} (h : Row nq x l) (hn : n < l) : m_with (m_begin x (nI n)) (nI n) (m_at x (nI n)) = m_begin x (nI (n + 1)) := by
  obtain ⟨h0, a, h1, h2, -, -⟩ := h
  rw [h2, begin_l (by omega), begin_l (by omega), at_l (Nat.lt_trans h1 (p63 h0)) (by omega), with_l (by omega) (dg_lt a n), Nat.mod_mod, Nat.pow_succ, Nat.mod_mul]
  congr 1
  rw [Nat.mul_comm]; rfl
theorem gON_nn {s : MS} {t r j n : Nat} {x : Int64} (h : Inv s t) (ht : t < 2 ^ 31) (hr : r < 4) (hj : j < 4) (hn : n < 100) (g : ¬ gON s r j x (nI n) < 0) : KR s r j (n + 1) ∧ x = m_begin (s.2 15 (4 * r + j)) (nI n) ∧ gON s r j x (nI n) = m_at (s.2 15 (4 * r + j)) (nI n) := by
  unfold gON at *
  by_cases c : s.1 13 (4 * r + j) = s.1 6 r ∧ ¬ s.1 14 (4 * r + j) ≤ nI n ∧ m_begin (s.2 15 (4 * r + j)) (nI n) = x
  · rw [if_pos c]
    obtain ⟨l, f, b1, b2, b3, b4⟩ := h.kr ht hr hj c.1
    have hl : n < l := by
      rcases Nat.lt_or_ge n l with z | z
      · exact z
      · exact absurd (by rw [b1]; exact nI_le z (by omega)) c.2.1
    exact ⟨⟨hj, c.1, l, b1, hl, b4⟩, c.2.2.symm, rfl⟩
  · rw [if_neg c] at g
    exact absurd (by decide) g
theorem manN_neg {s : MS} {r : Nat} {x : Int64} {n q : Int32} (hq : q < 0) : ∀ t, manN s r x n q t = 0
  | 0 => rfl
  | t + 1 => by rw [manN, if_neg (fun z => z.1 hq), manN_neg hq t]; rfl
theorem nxU_spec {s : MS} {r j : Nat} {x : Int64} {n f : Int32} : nxU s r x n f j = f ∨ (¬ gON s r j x n < 0 ∧ nxU s r x n f j = gON s r j x n) := by
  unfold nxU
  by_cases c : manN s r x n (gON s r j x n) 4 < 2
  · exact Or.inl (if_pos c)
  · refine Or.inr ⟨fun z => c (by rw [manN_neg z]; decide), if_neg c⟩
theorem nxD_spec {s : MS} {r : Nat} {x : Int64} {n : Int32} : ∀ (j : Nat) (f : Int32), nxD s r x n f j = f ∨ ∃ i, i ≤ j ∧ ¬ gON s r i x n < 0 ∧ nxD s r x n f j = gON s r i x n
  | 0, f => by
    show nxU s r x n f 0 = f ∨ _
    rcases nxU_spec (s := s) (r := r) (j := 0) (x := x) (n := n) (f := f) with z | ⟨z1, z2⟩
    · exact Or.inl z
    · exact Or.inr ⟨0, by omega, z1, z2⟩
  | j + 1, f => by
    have e : nxD s r x n f (j + 1) = nxD s r x n (nxU s r x n f (j + 1)) j := rfl
    rw [e]
    rcases nxD_spec j (nxU s r x n f (j + 1)) with z | ⟨i, z1, z2, z3⟩
    · rw [z]
      rcases nxU_spec (s := s) (r := r) (j := j + 1) (x := x) (n := n) (f := f) with y | ⟨y1, y2⟩
      · exact Or.inl y
      · exact Or.inr ⟨j + 1, by omega, y1, y2⟩
    · exact Or.inr ⟨i, by omega, z2, z3⟩
theorem nxt_nn {s : MS} {t r n : Nat} {x : Int64} (h : Inv s t) (ht : t < 2 ^ 31) (hr : r < 4) (hn : n < 100) (g : ¬ nxt s r x (nI n) < 0) : ∃ j, KR s r j (n + 1) ∧ x = m_begin (s.2 15 (4 * r + j)) (nI n) ∧ nxt s r x (nI n) = m_at (s.2 15 (4 * r + j)) (nI n) := by
  rcases nxD_spec (s := s) (r := r) (x := x) (n := nI n) 3 (-1) with z | ⟨i, z1, z2, z3⟩
  · exact absurd (show nxt s r x (nI n) < 0 by rw [nxt, z]; decide) g
  · obtain ⟨b1, b2, b3⟩ := gON_nn h ht hr (by omega) hn z2
    exact ⟨i, b1, b2, by rw [nxt, z3, b3]⟩
theorem KR.le {s : MS} {r j n : Nat} (h : KR s r j n) : n ≤ 12 := by
  obtain ⟨-, -, l, -, h1, h2⟩ := h
  have := h2.1
  omega
theorem gr_good {s : MS} {t r : Nat} (h : Inv s t) (ht : t < 2 ^ 31) (hr : r < 4) : ∀ (d : Nat) (x : Int64) (n : Nat), n + d ≤ 24 → (∃ j, KR s r j n ∧ x = m_begin (s.2 15 (4 * r + j)) (nI n)) → ∃ j, KR s r j (gr s r d x n).2 ∧ (gr s r d x n).1 = m_begin (s.2 15 (4 * r + j)) (nI (gr s r d x n).2)
  | 0, x, n, _, hg => hg
  | d + 1, x, n, hd, hg => by
    have e : gr s r (d + 1) x n = (if nxt s r x (nI n) < 0 then (x, n) else gr s r d (m_with x (nI n) (nxt s r x (nI n))) (n + 1)) := rfl
    rw [e]
    by_cases c : nxt s r x (nI n) < 0
    · rw [if_pos c]; exact hg
    · rw [if_neg c]
      obtain ⟨j, b1, b2, b3⟩ := nxt_nn h ht hr (by omega) c
      refine gr_good h ht hr d _ _ (by omega) ⟨j, b1, ?_⟩
      obtain ⟨-, -, l, -, c1, c2⟩ := b1
      rw [b3, b2, with_begin c2 (by omega)]
theorem nw_ok {s : MS} {t r : Nat} (h : Inv s t) (ht : t < 2 ^ 31) (hr : r < 4) (hc : ¬ cntN s r (s.1 6 r) 4 < 3) : NewPre s r ∧ Row (nqN s) (nwG s r).1 (nwG s r).2 ∧ ∃ f, f ≤ (nwG s r).2 ∧ s.1 16 (nwB s r) = nI f := by
  have hs : ∃ u, u < 4 ∧ s.1 13 (4 * r + u) = s.1 6 r := cnN_some 4 (by have : ¬ cnN s r (s.1 6 r) 4 < 3 := fun z => hc (cnt_lt.mpr z); omega)
  obtain ⟨b, b1, b2, b3⟩ := saf_ok 4 hs
  obtain ⟨l, f, c1, c2, c3, c4⟩ := h.kr ht hr b1 b3
  have hB : nwB s r = 4 * r + b := by rw [nwB, b2, nI_clamp (by omega)]
  have hl := c4.1
  have e2 : s.1 16 (nwB s r) = nI f := by rw [hB]; exact c2
  obtain ⟨j, g1, g2⟩ := gr_good h ht hr 12 (m_begin (s.2 15 (nwB s r)) (s.1 16 (nwB s r))) (s.1 16 (nwB s r)).toNatClampNeg (by rw [e2, nI_clamp (by omega)]; omega) ⟨b, ⟨b1, b3, l, c1, by rw [e2, nI_clamp (by omega)]; exact c3, c4⟩, by rw [e2, nI_clamp (by omega), hB]⟩
  have hle : f ≤ (nwG s r).2 := by
    have : ∀ d x n, n ≤ (gr s r d x n).2 := by
      intro d
      induction d with
      | zero => intro x n; exact Nat.le_refl _
      | succ d ih =>
        intro x n
        rw [gr]
        split
        · exact Nat.le_refl _
        · exact Nat.le_trans (Nat.le_succ n) (ih _ _)
    have := this 12 (m_begin (s.2 15 (nwB s r)) (s.1 16 (nwB s r))) (s.1 16 (nwB s r)).toNatClampNeg
    rw [e2, nI_clamp (by omega)] at this
    rw [nwG, e2, nI_clamp (by omega)]
    exact this
  have hrow : Row (nqN s) (nwG s r).1 (nwG s r).2 := by
    obtain ⟨-, -, l', -, d1, d2⟩ := g1
    have e : (nwG s r).1 = m_begin (s.2 15 (4 * r + j)) (nI (nwG s r).2) := g2
    rw [e]
    exact (d2.pre d1).1
  refine ⟨⟨⟨b, b1, b2⟩, ⟨f, by omega, e2⟩, fun x n hn hx => ?_, h.1.2.2.1, hrow.ok h.q.2, hrow.1, mN s, h.m.2, h.m.1⟩, hrow, f, hle, e2⟩
  obtain ⟨i, k1, -, -⟩ := nxt_nn h ht hr hn hx
  have := k1.le
  omega
