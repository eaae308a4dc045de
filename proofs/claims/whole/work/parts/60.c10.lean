-- deps: 59.c9
/-! what two agree on; the merge -/
abbrev ltr (G : Nat → Int32) (i : Nat) : Prop := (i < 1 ∧ G 1 = G i) ∨ (i < 2 ∧ G 2 = G i) ∨ (i < 3 ∧ G 3 = G i)
theorem ltr_iff {G : Nat → Int32} {i : Nat} : ltr G i ↔ ∃ j, i < j ∧ j < 4 ∧ G j = G i := by
  constructor
  · rintro (⟨h1, h2⟩ | ⟨h1, h2⟩ | ⟨h1, h2⟩)
    · exact ⟨1, h1, by omega, h2⟩
    · exact ⟨2, h1, by omega, h2⟩
    · exact ⟨3, h1, by omega, h2⟩
  · rintro ⟨j, h1, h2, h3⟩
    rcases (by omega : j = 1 ∨ j = 2 ∨ j = 3) with rfl | rfl | rfl
    · exact Or.inl ⟨h1, h3⟩
    · exact Or.inr (Or.inl ⟨h1, h3⟩)
    · exact Or.inr (Or.inr ⟨h1, h3⟩)
def agN (G : Nat → Int32) : Nat → Nat → Int32
  | 0, _ => -1
  | d + 1, i => if ¬ G i = -1 ∧ ltr G i then G i else agN G d (i + 1)
theorem agN_y {G : Nat → Int32} {d i : Nat} (h : ¬ G i = -1) (h2 : ∃ j, i < j ∧ j < 4 ∧ G j = G i) : agN G (d + 1) i = G i := by rw [agN, if_pos ⟨h, ltr_iff.mpr h2⟩]
theorem agN_n {G : Nat → Int32} {d i : Nat} (h : ¬ (¬ G i = -1 ∧ ∃ j, i < j ∧ j < 4 ∧ G j = G i)) : agN G (d + 1) i = agN G d (i + 1) := by rw [agN, if_neg (fun z => h ⟨z.1, ltr_iff.mp z.2⟩)]
theorem man_ge {s : MS} {r j : Nat} {x : Int64} {n : Int32} (hj : j < 4) : ¬ manN s r x n (gON s r j x n) 4 < 2 ↔ ¬ gON s r j x n < 0 ∧ ∃ t, t < 4 ∧ t ≠ j ∧ gON s r t x n = gON s r j x n := by
  by_cases q : gON s r j x n < 0
  · rw [manN_neg q]
    exact ⟨fun z => absurd (by decide) z, fun z => absurd q z.1⟩
  · have e : ∀ k, manN s r x n (gON s r j x n) (k + 1) = manN s r x n (gON s r j x n) k + (if gON s r k x n = gON s r j x n then 1 else 0) := fun k => by
      rw [manN]
      by_cases z : gON s r k x n = gON s r j x n
      · rw [if_pos ⟨q, z⟩, if_pos z]
      · rw [if_neg (fun w => z w.2), if_neg z]
    rw [e 3, e 2, e 1, e 0, manN]
    constructor
    · intro hm
      refine ⟨q, Classical.byContradiction fun hn => ?_⟩
      have hno : ∀ t, t < 4 → t ≠ j → ¬ gON s r t x n = gON s r j x n := fun t t1 t2 t3 => hn ⟨t, t1, t2, t3⟩
      rcases (by omega : j = 0 ∨ j = 1 ∨ j = 2 ∨ j = 3) with rfl | rfl | rfl | rfl
      · rw [if_pos rfl, if_neg (hno 1 (by omega) (by omega)), if_neg (hno 2 (by omega) (by omega)), if_neg (hno 3 (by omega) (by omega))] at hm
        exact hm (by decide)
      · rw [if_pos rfl, if_neg (hno 0 (by omega) (by omega)), if_neg (hno 2 (by omega) (by omega)), if_neg (hno 3 (by omega) (by omega))] at hm
        exact hm (by decide)
      · rw [if_pos rfl, if_neg (hno 0 (by omega) (by omega)), if_neg (hno 1 (by omega) (by omega)), if_neg (hno 3 (by omega) (by omega))] at hm
        exact hm (by decide)
      · rw [if_pos rfl, if_neg (hno 0 (by omega) (by omega)), if_neg (hno 1 (by omega) (by omega)), if_neg (hno 2 (by omega) (by omega))] at hm
        exact hm (by decide)
    · rintro ⟨-, t, t1, t2, t3⟩
      have hj' : gON s r j x n = gON s r j x n := rfl
      rcases (by omega : j = 0 ∨ j = 1 ∨ j = 2 ∨ j = 3) with rfl | rfl | rfl | rfl <;> rcases (by omega : t = 0 ∨ t = 1 ∨ t = 2 ∨ t = 3) with rfl | rfl | rfl | rfl <;> first | exact absurd rfl t2 | (rw [if_pos rfl, if_pos t3]; split <;> split <;> decide) | (rw [if_pos t3, if_pos rfl]; split <;> split <;> decide)
theorem ag_nxt {s : MS} {r : Nat} {x : Int64} {n : Int32} (hp : ∀ i, i < 4 → gON s r i x n = -1 ∨ ¬ gON s r i x n < 0) : agN (fun i => gON s r i x n) 4 0 = nxt s r x n := by
  have hm : ∀ i, i < 4 → (¬ gON s r i x n = -1 ↔ ¬ gON s r i x n < 0) := fun i hi => by
    constructor
    · intro z
      rcases hp i hi with w | w
      · exact absurd w z
      · exact w
    · intro z w
      exact z (by rw [w]; decide)
  have hU1 : ∀ j, j < 4 → ∀ f, (¬ gON s r j x n < 0 ∧ ∃ t, t < 4 ∧ t ≠ j ∧ gON s r t x n = gON s r j x n) → nxU s r x n f j = gON s r j x n := fun j hj f h => by
    unfold nxU
    rw [if_neg ((man_ge hj).mpr h)]
  have hU0 : ∀ j, j < 4 → ∀ f, ¬ (¬ gON s r j x n < 0 ∧ ∃ t, t < 4 ∧ t ≠ j ∧ gON s r t x n = gON s r j x n) → nxU s r x n f j = f := fun j hj f h => by
    unfold nxU
    by_cases z : manN s r x n (gON s r j x n) 4 < 2
    · rw [if_pos z]
    · exact absurd ((man_ge hj).mp z) h
  have e : nxt s r x n = nxU s r x n (nxU s r x n (nxU s r x n (nxU s r x n (-1) 3) 2) 1) 0 := rfl
  have hD : ∀ i, i < 4 → (∀ j, j < i → ¬ (¬ gON s r j x n = -1 ∧ ∃ k, j < k ∧ k < 4 ∧ gON s r k x n = gON s r j x n)) → ((¬ gON s r i x n = -1 ∧ ∃ j, i < j ∧ j < 4 ∧ gON s r j x n = gON s r i x n) ↔ (¬ gON s r i x n < 0 ∧ ∃ t, t < 4 ∧ t ≠ i ∧ gON s r t x n = gON s r i x n)) := fun i hi hb => by
    constructor
    · rintro ⟨h1, j, h2, h3, h4⟩
      exact ⟨(hm i hi).mp h1, j, h3, by omega, h4⟩
    · rintro ⟨h1, t, h2, h3, h4⟩
      refine ⟨(hm i hi).mpr h1, t, ?_, h2, h4⟩
      rcases Nat.lt_trichotomy t i with z | z | z
      · exact absurd ⟨by rw [h4]; exact (hm i hi).mpr h1, i, z, hi, h4.symm⟩ (hb t z)
      · exact absurd z h3
      · exact z
  rw [e]
  have b0 := hD 0 (by omega) (fun j hj => by omega)
  by_cases c0 : ¬ gON s r 0 x n = -1 ∧ ∃ j, 0 < j ∧ j < 4 ∧ gON s r j x n = gON s r 0 x n
  · rw [hU1 0 (by omega) _ (b0.mp c0)]; exact agN_y c0.1 c0.2
  · rw [hU0 0 (by omega) _ (fun z => c0 (b0.mpr z))]
    refine (agN_n (G := fun i => gON s r i x n) c0).trans ?_
    have b1 := hD 1 (by omega) (fun j hj => by
      obtain rfl : j = 0 := (by omega)
      exact c0)
    by_cases c1 : ¬ gON s r 1 x n = -1 ∧ ∃ j, 1 < j ∧ j < 4 ∧ gON s r j x n = gON s r 1 x n
    · rw [hU1 1 (by omega) _ (b1.mp c1)]; exact agN_y c1.1 c1.2
    · rw [hU0 1 (by omega) _ (fun z => c1 (b1.mpr z))]
      refine (agN_n (G := fun i => gON s r i x n) c1).trans ?_
      have b2 := hD 2 (by omega) (fun j hj => by
        rcases (by omega : j = 0 ∨ j = 1) with rfl | rfl
        · exact c0
        · exact c1)
      by_cases c2 : ¬ gON s r 2 x n = -1 ∧ ∃ j, 2 < j ∧ j < 4 ∧ gON s r j x n = gON s r 2 x n
      · rw [hU1 2 (by omega) _ (b2.mp c2)]; exact agN_y c2.1 c2.2
      · rw [hU0 2 (by omega) _ (fun z => c2 (b2.mpr z))]
        refine (agN_n (G := fun i => gON s r i x n) c2).trans ?_
        have b3 := hD 3 (by omega) (fun j hj => by
          rcases (by omega : j = 0 ∨ j = 1 ∨ j = 2) with rfl | rfl | rfl
          · exact c0
          · exact c1
          · exact c2)
        by_cases c3 : ¬ gON s r 3 x n = -1 ∧ ∃ j, 3 < j ∧ j < 4 ∧ gON s r j x n = gON s r 3 x n
        · rw [hU1 3 (by omega) _ (b3.mp c3)]; exact agN_y c3.1 c3.2
        · rw [hU0 3 (by omega) _ (fun z => c3 (b3.mpr z))]
          exact agN_n (G := fun i => gON s r i x n) c3
theorem gon_nn {s : MS} {t r i n : Nat} {x : Int64} (h : Inv s t) (ht : t < 2 ^ 31) (hr : r < 4) (hi : i < 4) (hn : n < 100) : gON s r i x (nI n) = -1 ∨ ¬ gON s r i x (nI n) < 0 := by
  by_cases z : gON s r i x (nI n) < 0
  · left
    unfold gON at z ⊢
    by_cases c : s.1 13 (4 * r + i) = s.1 6 r ∧ ¬ s.1 14 (4 * r + i) ≤ nI n ∧ m_begin (s.2 15 (4 * r + i)) (nI n) = x
    · rw [if_pos c] at z
      obtain ⟨l, f, k1, k2, k3, k4⟩ := h.kr ht hr hi c.1
      have hl : n < l := by
        rcases Nat.lt_or_ge n l with w | w
        · exact w
        · exact absurd (by rw [k1]; exact nI_le w (by have := k4.1; omega)) c.2.1
      obtain ⟨fq, f1, -, f3⟩ := k4.at
      rw [(f1 n hl).1] at z
      exact absurd z (nI_pos (Nat.lt_trans (f3 n) (by decide)))
    · rw [if_neg c]
  · exact Or.inr z
set_option maxRecDepth 100000 in
set_option maxHeartbeats 1000000 in
theorem l_ai {sc : pm_Sc} {s : MS} {c : CX} {t r p q0 n : Nat} {f0 : Int32} {x : Int64} {g : Nat → Int32} (h : R s c) (hinv : Inv s t) (ht : t < 2 ^ 31) (hr : r < 4) (hp : His (hx c).1 p q0 n f0 g) (hrow : Row (nqN s) x n) (hg : ∀ k, k < n → g k = m_at x (nI k)) {i : Nat} (hi : i < 4) {Q : (Option Value ⊕ Nat) → pm_H → Prop} (HY : ¬ gON s r i x (nI n) = -1 → (∃ j, i < j ∧ j < 4 ∧ gON s r j x (nI n) = gON s r i x (nI n)) → Q (.inl (some (.int (gON s r i x (nI n))))) (hx c)) (HN : (gON s r i x (nI n) = -1 → ∀ lv, pm_ld lv 0 = some (.ref (7 + 6 * r)) → pm_ld lv 1 = some (.ref p) → pm_ld lv 2 = some (.int (nI i)) → pw sc 40 (49, lv, [], hx c) Q)) (HM : (∀ j, i < j → j < 4 → ¬ gON s r j x (nI n) = gON s r i x (nI n)) → ∀ lv, pm_ld lv 0 = some (.ref (7 + 6 * r)) → pm_ld lv 1 = some (.ref p) → pm_ld lv 2 = some (.int (nI i)) → pw sc 40 (49, lv, [], hx c) Q) : ∀ (d j : Nat) (lv : pm_L), j + d = 4 → i < j → (∀ k, i < k → k < j → ¬ gON s r k x (nI n) = gON s r i x (nI n)) → pm_ld lv 0 = some (.ref (7 + 6 * r)) → pm_ld lv 1 = some (.ref p) → pm_ld lv 2 = some (.int (nI i)) → pm_ld lv 3 = some (.int (gON s r i x (nI n))) → pm_ld lv 4 = some (.int (nI j)) → pw sc 40 (19, lv, [], hx c) Q := by
  intro d
  induction d with
  | zero =>
    intro j lv hj hij hno g0 g1 g2 g3 g4
    obtain rfl : 4 = j := by omega
    refine w_iload rfl g4 ?_
    refine w_iconst (v := 4) rfl (by decide) ?_
    refine w_if_icmp_ge rfl rfl (fun c22 => ?_) (fun c22 => ?_)
    · exact HM hno _ g0 g1 g2
    · exact absurd (by decide) c22
  | succ d ih =>
    intro j lv hj hij hno g0 g1 g2 g3 g4
    refine w_iload rfl g4 ?_
    refine w_iconst (v := 4) rfl (by decide) ?_
    refine w_if_icmp_ge rfl rfl (fun c22 => ?_) (fun c22 => ?_)
    · exact absurd c22 (nI_ge (a := j) (b := 4) (by omega) (by omega))
    · refine w_iload_n rfl g3 ?_
      refine w_iconst (v := (-1)) rfl (by decide) ?_
      refine w_if_icmp_eq rfl rfl (fun c27 => ?_) (fun c27 => ?_)
      · exact HN c27 _ g0 g1 g2
      · refine w_aload_n rfl g0 ?_
        refine w_aload_n rfl g1 ?_
        refine w_iload rfl g4 ?_
        refine w_virtual rfl rfl (cs7 h.1 hr) ⟨(Nat.le_of_ble_eq_true rfl), rfl, (Nat.le_of_ble_eq_true rfl), (Nat.le_of_ble_eq_true rfl)⟩ rfl (Nat.le_of_ble_eq_true rfl) (c_na h hinv ht hr (i := j) (by omega) hp hrow hg) ?_
        rintro _ _ ⟨rfl, rfl⟩
        refine ⟨_, rfl, ?_⟩
        refine w_iload_n rfl g3 ?_
        refine w_if_icmp_ne rfl rfl (fun c38 => ?_) (fun c38 => ?_)
        · refine w_iincN (j := j) rfl rfl g4 (Nat.le_of_ble_eq_true rfl) ?_
          refine w_goto rfl rfl ?_
          exact ih (j + 1) _ (by omega) (by omega) (fun k k1 k2 => by
            by_cases ek : k = j
            · subst ek; exact c38
            · exact hno k k1 (by omega)) (ld_s1 (by decide) g0 (fun _ => rfl)) (ld_s1 (by decide) g1 (fun _ => rfl)) (ld_s1 (by decide) g2 (fun _ => rfl)) (ld_s1 (by decide) g3 (fun _ => rfl)) ld_self
        · refine w_iload_n rfl g3 ?_
          exact w_ireturn rfl (Or.inl rfl) (HY c27 ⟨j, by omega, by omega, c38⟩)
set_option maxRecDepth 100000 in
set_option maxHeartbeats 1000000 in
theorem l_ag {sc : pm_Sc} {s : MS} {c : CX} {t r p q0 n : Nat} {f0 : Int32} {x : Int64} {g : Nat → Int32} (h : R s c) (hinv : Inv s t) (ht : t < 2 ^ 31) (hr : r < 4) (hp : His (hx c).1 p q0 n f0 g) (hrow : Row (nqN s) x n) (hg : ∀ k, k < n → g k = m_at x (nI k)) : ∀ (d i : Nat) (lv : pm_L), i + d = 4 → pm_ld lv 0 = some (.ref (7 + 6 * r)) → pm_ld lv 1 = some (.ref p) → pm_ld lv 2 = some (.int (nI i)) → pw sc 40 (2, lv, [], hx c) (pz (some (.int (agN (fun i => gON s r i x (nI n)) d i))) (hx c)) := by
  intro d
  induction d with
  | zero =>
    intro i lv hk g0 g1 g2
    obtain rfl : 4 = i := by omega
    refine w_iload_n rfl g2 ?_
    refine w_iconst (v := 4) rfl (by decide) ?_
    refine w_if_icmp_ge rfl rfl (fun c4 => ?_) (fun c4 => ?_)
    · refine w_iconst (v := (-1)) rfl (by decide) ?_
      exact w_ireturn rfl (Or.inl rfl) ⟨rfl, rfl⟩
    · exact absurd (by decide) c4
  | succ d ih =>
    intro i lv hk g0 g1 g2
    refine w_iload_n rfl g2 ?_
    refine w_iconst (v := 4) rfl (by decide) ?_
    refine w_if_icmp_ge rfl rfl (fun c4 => ?_) (fun c4 => ?_)
    · exact absurd c4 (nI_ge (a := i) (b := 4) (by omega) (by omega))
    · refine w_aload_n rfl g0 ?_
      refine w_aload_n rfl g1 ?_
      refine w_iload_n rfl g2 ?_
      refine w_virtual rfl rfl (cs7 h.1 hr) ⟨(Nat.le_of_ble_eq_true rfl), rfl, (Nat.le_of_ble_eq_true rfl), (Nat.le_of_ble_eq_true rfl)⟩ rfl (Nat.le_of_ble_eq_true rfl) (c_na h hinv ht hr (i := i) (by omega) hp hrow hg) ?_
      rintro _ _ ⟨rfl, rfl⟩
      refine ⟨_, rfl, ?_⟩
      refine w_istore_n rfl (Nat.le_of_ble_eq_true rfl) ?_
      refine w_iload_n rfl (ld_s1 (by decide) g2 (fun _ => rfl)) ?_
      refine w_iconst (v := 1) rfl (by decide) ?_
      refine w_iaddN (x := i) (y := 1) rfl rfl rfl ?_
      refine w_istore rfl (Nat.le_of_ble_eq_true rfl) ?_
      refine l_ai h hinv ht hr hp hrow hg (i := i) (by omega) (fun y1 y2 => ⟨by rw [agN_y y1 y2], rfl⟩) (fun y1 lv k0 k1 k2 => ?_) (fun y1 lv k0 k1 k2 => ?_) (3 - i) (i + 1) _ (by omega) (by omega) (fun k k1 k2 => by omega) (ld_s1 (by decide) (ld_s1 (by decide) g0 (fun _ => rfl)) (fun _ => rfl)) (ld_s1 (by decide) (ld_s1 (by decide) g1 (fun _ => rfl)) (fun _ => rfl)) (ld_s1 (by decide) (ld_s1 (by decide) g2 (fun _ => rfl)) (fun _ => rfl)) (ld_s1 (by decide) ld_self (fun _ => rfl)) ld_self
      · have e : agN (fun i => gON s r i x (nI n)) (d + 1) i = agN (fun i => gON s r i x (nI n)) d (i + 1) := agN_n (fun z => z.1 y1)
        refine w_iincN (j := i) rfl rfl k2 (Nat.le_of_ble_eq_true rfl) ?_
        refine w_goto rfl rfl ?_
        rw [e]
        exact ih (i + 1) _ (by omega) (ld_s1 (by decide) k0 (fun _ => rfl)) (ld_s1 (by decide) k1 (fun _ => rfl)) ld_self
      · have e : agN (fun i => gON s r i x (nI n)) (d + 1) i = agN (fun i => gON s r i x (nI n)) d (i + 1) := agN_n (fun z => by
            obtain ⟨-, j, z1, z2, z3⟩ := z
            exact y1 j z1 z2 z3)
        refine w_iincN (j := i) rfl rfl k2 (Nat.le_of_ble_eq_true rfl) ?_
        refine w_goto rfl rfl ?_
        rw [e]
        exact ih (i + 1) _ (by omega) (ld_s1 (by decide) k0 (fun _ => rfl)) (ld_s1 (by decide) k1 (fun _ => rfl)) ld_self
set_option maxRecDepth 100000 in
set_option maxHeartbeats 1000000 in
theorem c_ag {sc : pm_Sc} {s : MS} {c : CX} {t r p q0 n : Nat} {f0 : Int32} {x : Int64} {g : Nat → Int32} (h : R s c) (hinv : Inv s t) (ht : t < 2 ^ 31) (hr : r < 4) (hp : His (hx c).1 p q0 n f0 g) (hrow : Row (nqN s) x n) (hg : ∀ k, k < n → g k = m_at x (nI k)) : pu sc 40 [.ref (7 + 6 * r), .ref p] (hx c) (pz (some (.int (nxt s r x (nI n)))) (hx c)) := by
  have hn12 : n ≤ 12 := hp.2.2
  rw [← ag_nxt (fun i hi => gon_nn hinv ht hr hi (by omega))]
  refine w_iconst (v := 0) rfl (by decide) ?_
  refine w_istore_n rfl (Nat.le_of_ble_eq_true rfl) ?_
  exact l_ag h hinv ht hr hp hrow hg 4 0 _ (by omega) rfl rfl rfl
def mgX (c : CX) (n : Nat) (f : Int32) (g : Nat → Int32) : CX := (mgC c.1 n f g, c.2.1, c.2.2.1, c.2.2.2.1 + 2, c.2.2.2.2 + 15)
theorem R.mg {s : MS} {c : CX} (h : R s c) (n : Nat) (f : Int32) (g : Nat → Int32) : R s (mgX c n f g) := h.keep (mg_hc h.1) (fun P => mg_kc)
theorem ext_mg {c : CX} (hc : 73 < c.1.length) (n : Nat) (f : Int32) (g : Nat → Int32) : Ext c (mgX c n f g) 2 := by
  refine ⟨fun p _ h2 => ?_, ?_, mg_kc, Nat.le_refl _, by show c.2.2.2.2 + 15 ≤ c.2.2.2.2 + 12 * 2; omega⟩
  · show (mgC c.1 n f g)[p]? = c.1[p]?
    unfold mgC
    rw [List.getElem?_append_left (by rw [List.length_append]; show p < c.1.length + 1; omega), List.getElem?_append_left (by omega)]
  · show c.1.length ≤ (mgC c.1 n f g).length
    rw [mg_len]; omega
theorem nxt_m1 {s : MS} {t r n : Nat} {x : Int64} (h : Inv s t) (ht : t < 2 ^ 31) (hr : r < 4) (hn : n < 100) (z : nxt s r x (nI n) < 0) : nxt s r x (nI n) = -1 := by
  rcases nxD_spec (s := s) (r := r) (x := x) (n := nI n) 3 (-1) with w | ⟨i, w1, w2, w3⟩
  · exact w
  · exact absurd (by have e : nxt s r x (nI n) = gON s r i x (nI n) := w3; rw [← e]; exact z) w2
set_option maxRecDepth 100000 in
set_option maxHeartbeats 1000000 in
theorem l_mg2 {sc : pm_Sc} {s : MS} {c : CX} {t r : Nat} {f : Int32} (h : R s c) (hinv : Inv s t) (ht : t < 2 ^ 31) (hr : r < 4) : ∀ (d i n : Nat) (x : Int64) (g : Nat → Int32), i + d = 12 → (∃ j, KR s r j n ∧ x = m_begin (s.2 15 (4 * r + j)) (nI n)) → (∀ k, k < n → g k = m_at x (nI k)) → ∃ g', (∀ k, k < (gr s r d x n).2 → g' k = m_at (gr s r d x n).1 (nI k)) ∧ ∀ lv, pm_ld lv 0 = some (.ref (7 + 6 * r)) → pm_ld lv 1 = some (.ref c.1.length) → pm_ld lv 3 = some (.int (nI i)) → pw sc 38 (52, lv, [], hx (mgX c n f g)) (pz (some (.ref c.1.length)) (hx (mgX c (gr s r d x n).2 f g'))) := by
  have hc : 73 < c.1.length := h.1
  intro d
  induction d with
  | zero =>
    intro i n x g hk hx hg
    obtain rfl : 12 = i := by omega
    refine ⟨g, hg, fun lv g0 g1 g3 => ?_⟩
    refine w_iload_n rfl g3 ?_
    refine w_bipush (v := 12) rfl (by decide) ?_
    refine w_if_icmp_ge rfl rfl (fun c55 => ?_) (fun c55 => ?_)
    · refine w_aload_n rfl g1 ?_
      exact w_areturn rfl rfl ⟨rfl, rfl⟩
    · exact absurd (by decide) c55
  | succ d ih =>
    intro i n x g hk hx hg
    have hn12 : n ≤ 12 := by obtain ⟨j, j1, -⟩ := hx; exact j1.le
    have hrow : Row (nqN s) x n := by
      obtain ⟨j, ⟨-, -, l, -, l2, l3⟩, j2⟩ := hx
      rw [j2]; exact (l3.pre l2).1
    have e : gr s r (d + 1) x n = (if nxt s r x (nI n) < 0 then (x, n) else gr s r d (m_with x (nI n) (nxt s r x (nI n))) (n + 1)) := rfl
    rw [e]
    by_cases Z : nxt s r x (nI n) < 0
    · rw [if_pos Z]
      refine ⟨g, hg, fun lv g0 g1 g3 => ?_⟩
      refine w_iload_n rfl g3 ?_
      refine w_bipush (v := 12) rfl (by decide) ?_
      refine w_if_icmp_ge rfl rfl (fun c55 => ?_) (fun c55 => ?_)
      · exact absurd c55 (nI_ge (a := i) (b := 12) (by omega) (by omega))
      · refine w_aload_n rfl g0 ?_
        refine w_aload_n rfl g1 ?_
        refine w_virtual rfl rfl (cs7 (mg_hc hc) hr) ⟨(Nat.le_of_ble_eq_true rfl), rfl, (Nat.le_of_ble_eq_true rfl), (Nat.le_of_ble_eq_true rfl)⟩ rfl (Nat.le_of_ble_eq_true rfl) (c_ag (c := mgX c n f g) (h.mg n f g) hinv ht hr (mg_his hc (by omega)) hrow hg) ?_
        rintro _ _ ⟨rfl, rfl⟩
        refine ⟨_, rfl, ?_⟩
        refine w_istore rfl (Nat.le_of_ble_eq_true rfl) ?_
        refine w_iload rfl ld_self ?_
        refine w_iconst (v := (-1)) rfl (by decide) ?_
        refine w_if_icmp_ne rfl rfl (fun c68 => ?_) (fun c68 => ?_)
        · exact absurd (nxt_m1 hinv ht hr (by omega) Z) c68
        · refine w_goto rfl rfl ?_
          refine w_aload_n rfl (ld_s1 (by decide) g1 (fun _ => rfl)) ?_
          exact w_areturn rfl rfl ⟨rfl, rfl⟩
    · rw [if_neg Z]
      obtain ⟨j, b1, b2, b3⟩ := nxt_nn hinv ht hr (by omega) Z
      have hn11 : n + 1 ≤ 12 := b1.le
      obtain ⟨-, -, l, -, l2, l3⟩ := id b1
      have ew : m_with x (nI n) (nxt s r x (nI n)) = m_begin (s.2 15 (4 * r + j)) (nI (n + 1)) := by rw [b3, b2, with_begin l3 (by omega)]
      obtain ⟨g', q1, H⟩ := ih (i + 1) (n + 1) (m_with x (nI n) (nxt s r x (nI n))) (fun b => if b = n then nxt s r x (nI n) else g b) (by omega) ⟨j, b1, ew⟩ (fun k hk => by
        show (if k = n then nxt s r x (nI n) else g k) = _
        rw [ew, (l3.pre l2).2 k hk]
        by_cases ek : k = n
        · subst ek; rw [if_pos rfl, b3]
        · rw [if_neg ek, hg k (by omega), b2, (l3.pre (m := n) (by omega)).2 k (by omega)])
      refine ⟨g', q1, fun lv g0 g1 g3 => ?_⟩
      refine w_iload_n rfl g3 ?_
      refine w_bipush (v := 12) rfl (by decide) ?_
      refine w_if_icmp_ge rfl rfl (fun c55 => ?_) (fun c55 => ?_)
      · exact absurd c55 (nI_ge (a := i) (b := 12) (by omega) (by omega))
      · refine w_aload_n rfl g0 ?_
        refine w_aload_n rfl g1 ?_
        refine w_virtual rfl rfl (cs7 (mg_hc hc) hr) ⟨(Nat.le_of_ble_eq_true rfl), rfl, (Nat.le_of_ble_eq_true rfl), (Nat.le_of_ble_eq_true rfl)⟩ rfl (Nat.le_of_ble_eq_true rfl) (c_ag (c := mgX c n f g) (h.mg n f g) hinv ht hr (mg_his hc (by omega)) hrow hg) ?_
        rintro _ _ ⟨rfl, rfl⟩
        refine ⟨_, rfl, ?_⟩
        refine w_istore rfl (Nat.le_of_ble_eq_true rfl) ?_
        refine w_iload rfl ld_self ?_
        refine w_iconst (v := (-1)) rfl (by decide) ?_
        refine w_if_icmp_ne rfl rfl (fun c68 => ?_) (fun c68 => ?_)
        · refine w_aload_n rfl (ld_s1 (by decide) g1 (fun _ => rfl)) ?_
          refine w_iload rfl ld_self ?_
          refine w_virtual rfl rfl ((cset_out (Nat.not_le_of_gt (hc30 hc))).trans mg_o) ⟨(Nat.le_of_ble_eq_true rfl), rfl, (Nat.le_of_ble_eq_true rfl), (Nat.le_of_ble_eq_true rfl)⟩ rfl (Nat.le_of_ble_eq_true rfl) (c_h_addM hc (by omega) (nxt s r x (nI n))) ?_
          rintro _ _ ⟨rfl, rfl⟩
          refine ⟨_, rfl, ?_⟩
          refine w_iincN (j := i) rfl rfl (ld_s1 (by decide) g3 (fun _ => rfl)) (Nat.le_of_ble_eq_true rfl) ?_
          refine w_goto rfl rfl ?_
          exact H _ (ld_s1 (by decide) (ld_s1 (by decide) g0 (fun _ => rfl)) (fun _ => rfl)) (ld_s1 (by decide) (ld_s1 (by decide) g1 (fun _ => rfl)) (fun _ => rfl)) ld_self
        · exact absurd c68 (fun w => Z (by rw [w]; decide))
set_option maxRecDepth 100000 in
set_option maxHeartbeats 1000000 in
theorem l_mg1 {sc : pm_Sc} {s : MS} {c : CX} {t r f l y j : Nat} {z : Int64} (h : R s c) (hinv : Inv s t) (ht : t < 2 ^ 31) (hr : r < 4) (hf : f ≤ l) (hl12 : l ≤ 12) (hH : HisX c.1 y l (nI f) z) (hz : z = s.2 15 (4 * r + j)) (hK : KR s r j f) (hrow : Row (nqN s) z l) : ∀ (d i : Nat) (g : Nat → Int32), i + d = f → (∀ k, k < i → g k = m_at z (nI k)) → ∃ g', (∀ k, k < (gr s r 12 (m_begin z (nI f)) f).2 → g' k = m_at (gr s r 12 (m_begin z (nI f)) f).1 (nI k)) ∧ ∀ lv, pm_ld lv 0 = some (.ref (7 + 6 * r)) → pm_ld lv 1 = some (.ref c.1.length) → pm_ld lv 2 = some (.ref y) → pm_ld lv 3 = some (.int (nI i)) → pw sc 38 (27, lv, [], hx (mgX c i (nI f) g)) (pz (some (.ref c.1.length)) (hx (mgX c (gr s r 12 (m_begin z (nI f)) f).2 (nI f) g'))) := by
  have hc : 73 < c.1.length := h.1
  intro d
  induction d with
  | zero =>
    intro i g hk hg
    obtain rfl : f = i := by omega
    obtain ⟨yq, yg, yh, yg2⟩ := ChO.out (a := c.2.1) (Y := c.2.2.1) (s := s) (r := r) (i := 0) (hH.kl (mg_kc (n := f) (f := nI f) (g := g)))
    obtain ⟨g', q1, H⟩ := l_mg2 (sc := sc) (f := nI f) h hinv ht hr 12 0 f (m_begin z (nI f)) g (by omega) ⟨j, hK, by rw [hz]⟩ (fun k hk => by rw [(hrow.pre hf).2 k hk]; exact hg k hk)
    refine ⟨g', q1, fun lv g0 g1 g2 g3 => ?_⟩
    refine w_iload_n rfl g3 ?_
    refine w_aload_n rfl g2 ?_
    refine w_getfield rfl yh.1 rfl ?_
    refine w_if_icmp_ge rfl rfl (fun c32 => ?_) (fun c32 => ?_)
    · refine w_iconst (v := 0) rfl (by decide) ?_
      refine w_istore_n rfl (Nat.le_of_ble_eq_true rfl) ?_
      exact H _ (ld_s1 (by decide) g0 (fun _ => rfl)) (ld_s1 (by decide) g1 (fun _ => rfl)) ld_self
    · exact absurd (Int32.le_refl _) c32
  | succ d ih =>
    intro i g hk hg
    obtain ⟨yq, yg, yh, yg2⟩ := ChO.out (a := c.2.1) (Y := c.2.2.1) (s := s) (r := r) (i := 0) (hH.kl (mg_kc (n := i) (f := nI f) (g := g)))
    obtain ⟨g', q1, H⟩ := ih (i + 1) (fun b => if b = i then m_at z (nI i) else g b) (by omega) (fun k hk => by
      show (if k = i then m_at z (nI i) else g k) = _
      by_cases ek : k = i
      · subst ek; rw [if_pos rfl]
      · rw [if_neg ek]; exact hg k (by omega))
    refine ⟨g', q1, fun lv g0 g1 g2 g3 => ?_⟩
    refine w_iload_n rfl g3 ?_
    refine w_aload_n rfl g2 ?_
    refine w_getfield rfl yh.1 rfl ?_
    refine w_if_icmp_ge rfl rfl (fun c32 => ?_) (fun c32 => ?_)
    · exact absurd c32 (nI_ge (a := i) (b := f) (by omega) (by omega))
    · refine w_aload_n rfl g1 ?_
      refine w_aload_n rfl g2 ?_
      refine w_iload_n rfl g3 ?_
      refine w_virtual rfl rfl yh.1 ⟨(Nat.le_of_ble_eq_true rfl), rfl, (Nat.le_of_ble_eq_true rfl), (Nat.le_of_ble_eq_true rfl)⟩ rfl (Nat.le_of_ble_eq_true rfl) (c_h_at (h := hx (mgX c i (nI f) g)) yh i (by omega)) ?_
      rintro _ _ ⟨rfl, rfl⟩
      refine ⟨_, rfl, ?_⟩
      rw [if_pos (by omega), yg2 i (by omega)]
      refine w_virtual rfl rfl ((cset_out (Nat.not_le_of_gt (hc30 hc))).trans mg_o) ⟨(Nat.le_of_ble_eq_true rfl), rfl, (Nat.le_of_ble_eq_true rfl), (Nat.le_of_ble_eq_true rfl)⟩ rfl (Nat.le_of_ble_eq_true rfl) (c_h_addM hc (by omega) (m_at z (nI i))) ?_
      rintro _ _ ⟨rfl, rfl⟩
      refine ⟨_, rfl, ?_⟩
      refine w_iincN (j := i) rfl rfl g3 (Nat.le_of_ble_eq_true rfl) ?_
      refine w_goto rfl rfl ?_
      exact H _ (ld_s1 (by decide) g0 (fun _ => rfl)) (ld_s1 (by decide) g1 (fun _ => rfl)) (ld_s1 (by decide) g2 (fun _ => rfl)) ld_self
set_option maxRecDepth 100000 in
set_option maxHeartbeats 1000000 in
theorem c_merge {sc : pm_Sc} {s : MS} {c : CX} {t r : Nat} (h : R s c) (hinv : Inv s t) (ht : t < 2 ^ 31) (hr : r < 4) (hcnt : ¬ cntN s r (s.1 6 r) 4 < 3) : ∃ g, (∀ k, k < (nwG s r).2 → g k = m_at (nwG s r).1 (nI k)) ∧ pu sc 38 [.ref (7 + 6 * r)] (hx c) (pz (some (.ref c.1.length)) (hx (mgX c (nwG s r).2 (s.1 16 (nwB s r)) g))) := by
  have hc : 73 < c.1.length := h.1
  have hv : ¬ s.1 6 r = -1 := by
    obtain ⟨-, -, -, -, ⟨v, v1, v2⟩, -⟩ := hinv.r hr
    rw [v2]; exact nI_nm1 (by omega)
  have hs : ∃ u, u < 4 ∧ s.1 13 (4 * r + u) = s.1 6 r := cnN_some 4 (by have : ¬ cnN s r (s.1 6 r) 4 < 3 := fun z => hcnt (cnt_lt.mpr z); omega)
  obtain ⟨b0, b1, b2, b3⟩ := saf_ok 4 hs
  obtain ⟨w, m1, m2⟩ := c_mf (sc := sc) (h.mg 0 0 (fun _ => 0)) hr hv
  rcases m1 with ⟨z1, -⟩ | ⟨b, y, n, z0, z1, z2, rfl, z3, z4, z5⟩
  · rw [b2] at z1
    exact absurd z1 (nI_nm1 (by omega))
  · have eb : b = b0 := (nI_eq (by omega) (by omega)).mp (z1.symm.trans b2)
    subst eb
    obtain ⟨l, f, c1, c2, c3, c4⟩ := hinv.kr ht hr b1 b3
    have hB : nwB s r = 4 * r + b := by rw [nwB, b2, nI_clamp (by omega)]
    have e16 : s.1 16 (nwB s r) = nI f := by rw [hB]; exact c2
    have hl12 := c4.1
    have hy : HisX c.1 y l (nI f) (s.2 15 (4 * r + b)) := by
      rcases h.2.2.2.1 (4 * r + b) (by omega) with ⟨_, e2⟩ | ⟨l', y', q', d', e', n', e1, e2, e3, e4, e5⟩
      · exact absurd (b3.symm.trans e2) hv
      · obtain ⟨l2, k2, v2, q2, p2, d2, x2, f1, f2, f3⟩ := z5
        have el : l2 = l' := by
          have w := f1.symm.trans e1
          cases w; rfl
        subst el
        have g3 := (mg_kc (P := lkc) (n := 0) (f := 0) (g := fun _ => 0)) l2 _ e2 lkL e3
        have w := f3.symm.trans g3
        unfold letC at w
        injection w with w1
        injection w1 with w2
        injection w2 with w3 w4
        injection w4 with w5 w6
        injection w6 with w7 w8
        injection w8 with w9 w10
        injection w10 with w11 w12
        injection w12 with w13 w14
        injection w14 with w15 w16
        injection w16 with w17 w18
        have w17' : Value.ref y = Value.ref y' := w17
        have ey : y = y' := by injection w17'
        subst ey
        obtain ⟨-, -, -, -, ⟨-, -, hn12⟩, -⟩ := id e5
        have en : n' = l := (nI_eq (by omega) (by omega)).mp (e4.symm.trans c1)
        subst en
        rw [c2] at e5
        exact e5
    have eG : nwG s r = gr s r 12 (m_begin (s.2 15 (4 * r + b)) (nI f)) f := by rw [nwG, e16, nI_clamp (by omega), hB]
    rw [eG, e16]
    obtain ⟨g, q1, H⟩ := l_mg1 (sc := sc) h hinv ht hr c3 hl12 hy rfl ⟨b1, b3, l, c1, c3, c4⟩ c4 f 0 (fun _ => 0) (by omega) (fun k hk => by omega)
    obtain ⟨yq, yg, yh, -⟩ := ChO.out (a := c.2.1) (Y := c.2.2.1) (s := s) (r := r) (i := 0) (hy.kl (mg_kc (n := 0) (f := 0) (g := fun _ => 0)))
    refine ⟨g, q1, ?_⟩
    show pu sc 38 [.ref (7 + 6 * r)] (cset c.1 c.2.1 c.2.2.1, c.2.2.2) _
    refine w_cnew rfl hc (Nat.le_of_ble_eq_true rfl) ?_
    refine w_dup rfl rfl ?_
    refine w_special rfl (by decide) rfl ⟨(Nat.le_of_ble_eq_true rfl), (Nat.le_of_ble_eq_true rfl), (Nat.le_of_ble_eq_true rfl)⟩ rfl (Nat.le_of_ble_eq_true rfl) (c_his_init (hcA hc) (hc30 hc) ga_new) ?_
    rintro _ _ ⟨rfl, rfl⟩
    refine ⟨_, rfl, ?_⟩
    rw [set_app2, List.length_append]
    show pw sc 38 (_, _, _, (cset (mgC c.1 0 0 (fun _ => 0)) c.2.1 c.2.2.1, c.2.2.2.1 + 2, c.2.2.2.2 + 15)) _
    refine w_astore_n rfl (Nat.le_of_ble_eq_true rfl) ?_
    refine w_aload_n rfl rfl ?_
    refine w_virtual rfl rfl (cs7 (mg_hc hc) hr) ⟨(Nat.le_of_ble_eq_true rfl), rfl, (Nat.le_of_ble_eq_true rfl), (Nat.le_of_ble_eq_true rfl)⟩ rfl (Nat.le_of_ble_eq_true rfl) (m2) ?_
    rintro _ _ ⟨rfl, rfl⟩
    refine ⟨_, rfl, ?_⟩
    refine w_astore_n rfl (Nat.le_of_ble_eq_true rfl) ?_
    refine w_aload_n rfl rfl ?_
    refine w_ifnull rfl rfl ?_
    refine w_aload_n rfl rfl ?_
    refine w_aload_n rfl rfl ?_
    refine w_getfield rfl yh.1 rfl ?_
    refine w_dp rfl (mg_hc hc) ⟨hc30 hc, mg_o⟩ (Nat.le_of_ble_eq_true rfl) rfl ?_
    show pw sc 38 (_, _, _, (cset ((mgC c.1 0 0 _).set c.1.length (.inr (1, [.ref (c.1.length + 1), .int (nI 0), .int (nI f)]))) c.2.1 c.2.2.1, _)) _
    rw [mg_so]
    refine w_iconst (v := 0) rfl (by decide) ?_
    refine w_istore_n rfl (Nat.le_of_ble_eq_true rfl) ?_
    exact H _ rfl rfl rfl rfl
