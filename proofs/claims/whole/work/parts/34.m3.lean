-- deps: 33.m2
/-! THE REFERENCE: the change of the primary -/
def gON (s : MS) (r t : Nat) (x : Int64) (n : Int32) : Int32 := if s.1 13 (4 * r + t) = s.1 6 r ∧ ¬ s.1 14 (4 * r + t) ≤ n ∧ m_begin (s.2 15 (4 * r + t)) n = x then m_at (s.2 15 (4 * r + t)) n else -1
def manN (s : MS) (r : Nat) (x : Int64) (n q : Int32) : Nat → Int32
  | 0 => 0
  | t + 1 => manN s r x n q t + (if ¬ q < 0 ∧ gON s r t x n = q then 1 else 0)
def nxU (s : MS) (r : Nat) (x : Int64) (n f : Int32) (j : Nat) : Int32 := if manN s r x n (gON s r j x n) 4 < 2 then f else gON s r j x n
def nxD (s : MS) (r : Nat) (x : Int64) (n : Int32) : Int32 → Nat → Int32
  | f, 0 => nxU s r x n f 0
  | f, j + 1 => nxD s r x n (nxU s r x n f (j + 1)) j
def nxt (s : MS) (r : Nat) (x : Int64) (n : Int32) : Int32 := nxD s r x n (-1) 3
def safN (s : MS) (r : Nat) : Nat → Int32
  | 0 => -1
  | t + 1 => if s.1 13 (4 * r + t) = s.1 6 r ∧ (safN s r t < 0 ∨ ¬ s.1 16 (4 * r + t) ≤ s.1 16 (4 * r + (safN s r t).toNatClampNeg)) then nI t else safN s r t
theorem saf_nat (s : MS) (r : Nat) : ∀ t, safN s r t < 0 ∨ ∃ b, b < t ∧ safN s r t = nI b := by
  intro t
  induction t with
  | zero => exact Or.inl (by show (-1 : Int32) < 0; decide)
  | succ t ih =>
    rw [safN]
    split
    · exact Or.inr ⟨t, by omega, rfl⟩
    · rcases ih with h | ⟨b, h1, h2⟩
      · exact Or.inl h
      · exact Or.inr ⟨b, by omega, h2⟩
theorem nI_m1 (j : Nat) : nI (j + 1) + Int32.ofInt (-1) = nI j := by
  have e1 : Int32.ofInt (-1) = -1 := by decide
  have e2 : (1 : Int32) + -1 = 0 := by decide
  rw [e1, nI_succ, Int32.add_assoc, e2, Int32.add_zero]
set_option maxRecDepth 100000 in
set_option maxHeartbeats 400000 in
theorem c_m_goes {sc : pm_Sc} {cs : List pm_C} {s : MS} {kn : Nat × Nat} (hc : 72 < cs.length) (r t : Nat) (hr : r < 4) (ht : t < 4) (x : Int64) (n : Int32) : pu sc 95 [.ref 31, .int (nI r), .int (nI t), .long x, .int n] (mset cs s, kn) (pz (some (.int (gON s r t x n))) (mset cs s, kn)) := by
  refine w_iconst (v := 4) rfl (by decide) ?_
  refine w_iload_n rfl rfl ?_
  refine w_imulN (x := 4) (y := r) rfl rfl rfl ?_
  refine w_iload_n rfl rfl ?_
  refine w_iaddN (x := (4 * r)) (y := t) rfl rfl rfl ?_
  refine w_istore rfl (Nat.le_of_ble_eq_true rfl) ?_
  refine w_aload_n rfl rfl ?_
  refine w_getfield rfl (mset_ob hc) rfl ?_
  refine w_iload rfl rfl ?_
  refine w_mil (k := 13) (j := ((4 * r) + t)) rfl hc (by decide) rfl ⟨show ((4 * r) + t) < 16 from by omega, by decide⟩ ?_
  refine w_aload_n rfl rfl ?_
  refine w_getfield rfl (mset_ob hc) rfl ?_
  refine w_iload_n rfl rfl ?_
  refine w_mil (k := 6) (j := r) rfl hc (by decide) rfl ⟨show r < 4 from by omega, by decide⟩ ?_
  refine w_if_icmp_ne rfl rfl (fun c20 => ?_) (fun c20 => ?_)
  · refine w_iconst (v := 0) rfl (by decide) ?_
    refine w_istore rfl (Nat.le_of_ble_eq_true rfl) ?_
    refine w_iload rfl rfl ?_
    refine w_ifCond_eq rfl rfl (fun c61 => ?_) (fun c61 => ?_)
    · refine w_iconst (v := (-1)) rfl (by decide) ?_
      exact w_ireturn rfl (by first | exact Or.inl rfl | exact Or.inr ⟨rfl, Or.inl rfl⟩ | exact Or.inr ⟨rfl, Or.inr rfl⟩ | exact Or.inr ⟨rfl, by assumption⟩) ⟨(by first | (simp only [gON, c20, (eq_true c61), if_true, if_false, and_true, true_and, and_false, false_and, or_true, true_or, or_false, false_or, not_true_eq_false, not_false_eq_true, ite_self]; done) | (simp only [gON, c20, (eq_true c61), if_true, if_false, and_true, true_and, and_false, false_and, or_true, true_or, or_false, false_or, not_true_eq_false, not_false_eq_true, ite_self]; rfl) | rfl), (by first | (simp only [gON, c20, (eq_true c61), if_true, if_false, and_true, true_and, and_false, false_and, or_true, true_or, or_false, false_or, not_true_eq_false, not_false_eq_true, ite_self]; done) | (simp only [gON, c20, (eq_true c61), if_true, if_false, and_true, true_and, and_false, false_and, or_true, true_or, or_false, false_or, not_true_eq_false, not_false_eq_true, ite_self]; rfl) | rfl)⟩
    · exact absurd (by decide) c61
  · refine w_aload_n rfl rfl ?_
    refine w_getfield rfl (mset_ob hc) rfl ?_
    refine w_iload rfl rfl ?_
    refine w_mil (k := 14) (j := ((4 * r) + t)) rfl hc (by decide) rfl ⟨show ((4 * r) + t) < 16 from by omega, by decide⟩ ?_
    refine w_iload rfl rfl ?_
    refine w_if_icmp_le rfl rfl (fun c32 => ?_) (fun c32 => ?_)
    · refine w_iconst (v := 0) rfl (by decide) ?_
      refine w_istore rfl (Nat.le_of_ble_eq_true rfl) ?_
      refine w_iload rfl rfl ?_
      refine w_ifCond_eq rfl rfl (fun c61 => ?_) (fun c61 => ?_)
      · refine w_iconst (v := (-1)) rfl (by decide) ?_
        exact w_ireturn rfl (by first | exact Or.inl rfl | exact Or.inr ⟨rfl, Or.inl rfl⟩ | exact Or.inr ⟨rfl, Or.inr rfl⟩ | exact Or.inr ⟨rfl, by assumption⟩) ⟨(by first | (simp only [gON, (eq_true c20), c32, (eq_true c61), if_true, if_false, and_true, true_and, and_false, false_and, or_true, true_or, or_false, false_or, not_true_eq_false, not_false_eq_true, ite_self]; done) | (simp only [gON, (eq_true c20), c32, (eq_true c61), if_true, if_false, and_true, true_and, and_false, false_and, or_true, true_or, or_false, false_or, not_true_eq_false, not_false_eq_true, ite_self]; rfl) | rfl), (by first | (simp only [gON, (eq_true c20), c32, (eq_true c61), if_true, if_false, and_true, true_and, and_false, false_and, or_true, true_or, or_false, false_or, not_true_eq_false, not_false_eq_true, ite_self]; done) | (simp only [gON, (eq_true c20), c32, (eq_true c61), if_true, if_false, and_true, true_and, and_false, false_and, or_true, true_or, or_false, false_or, not_true_eq_false, not_false_eq_true, ite_self]; rfl) | rfl)⟩
      · exact absurd (by decide) c61
    · refine w_aload_n rfl rfl ?_
      refine w_getfield rfl (mset_ob hc) rfl ?_
      refine w_iload rfl rfl ?_
      refine w_mll (k := 15) (j := ((4 * r) + t)) rfl hc (by decide) rfl ⟨show ((4 * r) + t) < 16 from by omega, by decide⟩ ?_
      refine w_iload rfl rfl ?_
      refine w_static rfl (by decide) rfl ⟨(Nat.le_of_ble_eq_true rfl), (Nat.le_of_ble_eq_true rfl), (Nat.le_of_ble_eq_true rfl)⟩ rfl (Nat.le_of_ble_eq_true rfl) (c_m_begin _ n) ?_
      rintro _ _ ⟨rfl, rfl⟩
      refine ⟨_, rfl, ?_⟩
      refine w_lload_n rfl rfl ?_
      refine w_lcmp rfl ?_
      refine w_ifCond_ne rfl rfl (fun c49 => ?_) (fun c49 => ?_)
      · replace c49 : ¬ (m_begin (s.2 15 (4 * r + t)) n = x) := fun e => c49 ((lg_cmp_eq _ _).mpr e)
        refine w_iconst (v := 0) rfl (by decide) ?_
        refine w_istore rfl (Nat.le_of_ble_eq_true rfl) ?_
        refine w_iload rfl rfl ?_
        refine w_ifCond_eq rfl rfl (fun c61 => ?_) (fun c61 => ?_)
        · refine w_iconst (v := (-1)) rfl (by decide) ?_
          exact w_ireturn rfl (by first | exact Or.inl rfl | exact Or.inr ⟨rfl, Or.inl rfl⟩ | exact Or.inr ⟨rfl, Or.inr rfl⟩ | exact Or.inr ⟨rfl, by assumption⟩) ⟨(by first | (simp only [gON, (eq_true c20), c32, c49, (eq_true c61), if_true, if_false, and_true, true_and, and_false, false_and, or_true, true_or, or_false, false_or, not_true_eq_false, not_false_eq_true, ite_self]; done) | (simp only [gON, (eq_true c20), c32, c49, (eq_true c61), if_true, if_false, and_true, true_and, and_false, false_and, or_true, true_or, or_false, false_or, not_true_eq_false, not_false_eq_true, ite_self]; rfl) | rfl), (by first | (simp only [gON, (eq_true c20), c32, c49, (eq_true c61), if_true, if_false, and_true, true_and, and_false, false_and, or_true, true_or, or_false, false_or, not_true_eq_false, not_false_eq_true, ite_self]; done) | (simp only [gON, (eq_true c20), c32, c49, (eq_true c61), if_true, if_false, and_true, true_and, and_false, false_and, or_true, true_or, or_false, false_or, not_true_eq_false, not_false_eq_true, ite_self]; rfl) | rfl)⟩
        · exact absurd (by decide) c61
      · replace c49 := (lg_cmp_eq _ _).mp c49
        refine w_iconst (v := 1) rfl (by decide) ?_
        refine w_goto rfl rfl ?_
        refine w_istore rfl (Nat.le_of_ble_eq_true rfl) ?_
        refine w_iload rfl rfl ?_
        refine w_ifCond_eq rfl rfl (fun c61 => ?_) (fun c61 => ?_)
        · exact absurd c61 (by decide)
        · refine w_aload_n rfl rfl ?_
          refine w_getfield rfl (mset_ob hc) rfl ?_
          refine w_iload rfl rfl ?_
          refine w_mll (k := 15) (j := ((4 * r) + t)) rfl hc (by decide) rfl ⟨show ((4 * r) + t) < 16 from by omega, by decide⟩ ?_
          refine w_iload rfl rfl ?_
          refine w_static rfl (by decide) rfl ⟨(Nat.le_of_ble_eq_true rfl), (Nat.le_of_ble_eq_true rfl), (Nat.le_of_ble_eq_true rfl)⟩ rfl (Nat.le_of_ble_eq_true rfl) (c_m_at _ n) ?_
          rintro _ _ ⟨rfl, rfl⟩
          refine ⟨_, rfl, ?_⟩
          refine w_goto rfl rfl ?_
          exact w_ireturn rfl (by first | exact Or.inl rfl | exact Or.inr ⟨rfl, Or.inl rfl⟩ | exact Or.inr ⟨rfl, Or.inr rfl⟩ | exact Or.inr ⟨rfl, by assumption⟩) ⟨(by first | (simp only [gON, (eq_true c20), c32, (eq_true c49), c61, if_true, if_false, and_true, true_and, and_false, false_and, or_true, true_or, or_false, false_or, not_true_eq_false, not_false_eq_true, ite_self]; done) | (simp only [gON, (eq_true c20), c32, (eq_true c49), c61, if_true, if_false, and_true, true_and, and_false, false_and, or_true, true_or, or_false, false_or, not_true_eq_false, not_false_eq_true, ite_self]; rfl) | rfl), (by first | (simp only [gON, (eq_true c20), c32, (eq_true c49), c61, if_true, if_false, and_true, true_and, and_false, false_and, or_true, true_or, or_false, false_or, not_true_eq_false, not_false_eq_true, ite_self]; done) | (simp only [gON, (eq_true c20), c32, (eq_true c49), c61, if_true, if_false, and_true, true_and, and_false, false_and, or_true, true_or, or_false, false_or, not_true_eq_false, not_false_eq_true, ite_self]; rfl) | rfl)⟩
set_option maxRecDepth 100000 in
set_option maxHeartbeats 400000 in
theorem l_m_man {sc : pm_Sc} {cs : List pm_C} {kn : Nat × Nat} (hc : 72 < cs.length) {s : MS} (r : Nat) (hr : r < 4) (x : Int64) (n fo sj q : Int32) {Q : (Option Value ⊕ Nat) → pm_H → Prop} (G : ∀ lv, pm_ld lv 0 = some (.ref 31) → pm_ld lv 1 = some (.int (nI r)) → pm_ld lv 2 = some (.long x) → pm_ld lv 4 = some (.int n) → pm_ld lv 5 = some (.int fo) → pm_ld lv 6 = some (.int sj) → pm_ld lv 7 = some (.int q) → pm_ld lv 8 = some (.int (manN s r x n q 4)) → pw sc 96 (71, lv, [], (mset cs s, kn)) Q) : ∀ (d k : Nat) (lv : pm_L), k + d = 4 → pm_ld lv 0 = some (.ref 31) → pm_ld lv 1 = some (.int (nI r)) → pm_ld lv 2 = some (.long x) → pm_ld lv 4 = some (.int n) → pm_ld lv 5 = some (.int fo) → pm_ld lv 6 = some (.int sj) → pm_ld lv 7 = some (.int q) → pm_ld lv 8 = some (.int (manN s r x n q k)) → pm_ld lv 9 = some (.int (nI k)) → pw sc 96 (29, lv, [], (mset cs s, kn)) (Q) := by
  intro d
  induction d with
  | zero =>
    intro k lv hk g0 g1 g2 g4 g5 g6 g7 g8 g9
    obtain rfl : 4 = k := by omega
    refine w_iload rfl g9 ?_
    refine w_iconst (v := 4) rfl (by decide) ?_
    refine w_if_icmp_ge rfl rfl (fun c32 => ?_) (fun c32 => ?_)
    · exact G _ g0 g1 g2 g4 g5 g6 g7 g8
    · exact absurd (nI_le (a := 4) (b := 4) (Nat.le_refl _) (by omega)) c32
  | succ d ih =>
    intro k lv hk g0 g1 g2 g4 g5 g6 g7 g8 g9
    refine w_iload rfl g9 ?_
    refine w_iconst (v := 4) rfl (by decide) ?_
    refine w_if_icmp_ge rfl rfl (fun c32 => ?_) (fun c32 => ?_)
    · exact absurd c32 (nI_ge (a := k) (b := 4) (by omega) (by omega))
    · refine w_iload rfl g8 ?_
      refine w_iload rfl g7 ?_
      refine w_ifCond_lt rfl rfl (fun c39 => ?_) (fun c39 => ?_)
      · refine w_iconst (v := 0) rfl (by decide) ?_
        refine w_iadd rfl ?_
        refine w_istore rfl (Nat.le_of_ble_eq_true rfl) ?_
        refine w_iincN (j := k) rfl rfl (ld_s1 (by decide) g9 (fun _ => rfl)) (Nat.le_of_ble_eq_true rfl) ?_
        refine w_goto rfl rfl ?_
        have e : manN s r x n q (k + 1) = manN s r x n q k + (if ¬ q < 0 ∧ gON s r k x n = q then 1 else 0) := rfl
        rw [if_neg (fun z => z.1 c39)] at e
        have ih2 := ih (k + 1)
        rw [e] at ih2
        exact ih2 _ (by omega) (ld_s1 (by decide) (ld_s1 (by decide) g0 (fun _ => rfl)) (fun _ => rfl)) (ld_s1 (by decide) (ld_s1 (by decide) g1 (fun _ => rfl)) (fun _ => rfl)) (ld_s1 (by decide) (ld_s1 (by decide) g2 (fun e => absurd e (by decide))) (fun e => absurd e (by decide))) (ld_s1 (by decide) (ld_s1 (by decide) g4 (fun _ => rfl)) (fun _ => rfl)) (ld_s1 (by decide) (ld_s1 (by decide) g5 (fun _ => rfl)) (fun _ => rfl)) (ld_s1 (by decide) (ld_s1 (by decide) g6 (fun _ => rfl)) (fun _ => rfl)) (ld_s1 (by decide) (ld_s1 (by decide) g7 (fun _ => rfl)) (fun _ => rfl)) (ld_s1 (by decide) ld_self (fun _ => rfl)) ld_self
      · refine w_aload_n rfl g0 ?_
        refine w_iload_n rfl g1 ?_
        refine w_iload rfl g9 ?_
        refine w_lload_n rfl g2 ?_
        refine w_iload rfl g4 ?_
        refine w_virtual rfl rfl (mset_ob hc) ⟨(Nat.le_of_ble_eq_true rfl), rfl, (Nat.le_of_ble_eq_true rfl), (Nat.le_of_ble_eq_true rfl)⟩ rfl (Nat.le_of_ble_eq_true rfl) (c_m_goes hc r k hr (by omega) x n) ?_
        rintro _ _ ⟨rfl, rfl⟩
        refine ⟨_, rfl, ?_⟩
        refine w_iload rfl g7 ?_
        refine w_if_icmp_ne rfl rfl (fun c54 => ?_) (fun c54 => ?_)
        · refine w_iconst (v := 0) rfl (by decide) ?_
          refine w_iadd rfl ?_
          refine w_istore rfl (Nat.le_of_ble_eq_true rfl) ?_
          refine w_iincN (j := k) rfl rfl (ld_s1 (by decide) g9 (fun _ => rfl)) (Nat.le_of_ble_eq_true rfl) ?_
          refine w_goto rfl rfl ?_
          have e : manN s r x n q (k + 1) = manN s r x n q k + (if ¬ q < 0 ∧ gON s r k x n = q then 1 else 0) := rfl
          rw [if_neg (fun z => c54 z.2)] at e
          have ih2 := ih (k + 1)
          rw [e] at ih2
          exact ih2 _ (by omega) (ld_s1 (by decide) (ld_s1 (by decide) g0 (fun _ => rfl)) (fun _ => rfl)) (ld_s1 (by decide) (ld_s1 (by decide) g1 (fun _ => rfl)) (fun _ => rfl)) (ld_s1 (by decide) (ld_s1 (by decide) g2 (fun e => absurd e (by decide))) (fun e => absurd e (by decide))) (ld_s1 (by decide) (ld_s1 (by decide) g4 (fun _ => rfl)) (fun _ => rfl)) (ld_s1 (by decide) (ld_s1 (by decide) g5 (fun _ => rfl)) (fun _ => rfl)) (ld_s1 (by decide) (ld_s1 (by decide) g6 (fun _ => rfl)) (fun _ => rfl)) (ld_s1 (by decide) (ld_s1 (by decide) g7 (fun _ => rfl)) (fun _ => rfl)) (ld_s1 (by decide) ld_self (fun _ => rfl)) ld_self
        · refine w_iconst (v := 1) rfl (by decide) ?_
          refine w_goto rfl rfl ?_
          refine w_iadd rfl ?_
          refine w_istore rfl (Nat.le_of_ble_eq_true rfl) ?_
          refine w_iincN (j := k) rfl rfl (ld_s1 (by decide) g9 (fun _ => rfl)) (Nat.le_of_ble_eq_true rfl) ?_
          refine w_goto rfl rfl ?_
          have e : manN s r x n q (k + 1) = manN s r x n q k + (if ¬ q < 0 ∧ gON s r k x n = q then 1 else 0) := rfl
          rw [if_pos ⟨c39, c54⟩] at e
          have ih2 := ih (k + 1)
          rw [e] at ih2
          exact ih2 _ (by omega) (ld_s1 (by decide) (ld_s1 (by decide) g0 (fun _ => rfl)) (fun _ => rfl)) (ld_s1 (by decide) (ld_s1 (by decide) g1 (fun _ => rfl)) (fun _ => rfl)) (ld_s1 (by decide) (ld_s1 (by decide) g2 (fun e => absurd e (by decide))) (fun e => absurd e (by decide))) (ld_s1 (by decide) (ld_s1 (by decide) g4 (fun _ => rfl)) (fun _ => rfl)) (ld_s1 (by decide) (ld_s1 (by decide) g5 (fun _ => rfl)) (fun _ => rfl)) (ld_s1 (by decide) (ld_s1 (by decide) g6 (fun _ => rfl)) (fun _ => rfl)) (ld_s1 (by decide) (ld_s1 (by decide) g7 (fun _ => rfl)) (fun _ => rfl)) (ld_s1 (by decide) ld_self (fun _ => rfl)) ld_self
set_option maxRecDepth 100000 in
set_option maxHeartbeats 400000 in
theorem l_m_nx {sc : pm_Sc} {cs : List pm_C} {kn : Nat × Nat} (hc : 72 < cs.length) {s : MS} (r : Nat) (hr : r < 4) (x : Int64) (n : Int32) : ∀ (j : Nat), j < 4 → ∀ (fo : Int32) (lv : pm_L), pm_ld lv 0 = some (.ref 31) → pm_ld lv 1 = some (.int (nI r)) → pm_ld lv 2 = some (.long x) → pm_ld lv 4 = some (.int n) → pm_ld lv 5 = some (.int fo) → pm_ld lv 6 = some (.int (nI j)) → pw sc 96 (6, lv, [], (mset cs s, kn)) (pz (some (.int (nxD s r x n fo j))) (mset cs s, kn)) := by
  intro j
  induction j with
  | zero =>
    intro hj fo lv g0 g1 g2 g4 g5 g6
    refine w_iload rfl g6 ?_
    refine w_ifCond_lt rfl rfl (fun c8 => ?_) (fun c8 => ?_)
    · exact absurd c8 (by decide)
    · refine w_aload_n rfl g0 ?_
      refine w_iload_n rfl g1 ?_
      refine w_iload rfl g6 ?_
      refine w_lload_n rfl g2 ?_
      refine w_iload rfl g4 ?_
      refine w_virtual rfl rfl (mset_ob hc) ⟨(Nat.le_of_ble_eq_true rfl), rfl, (Nat.le_of_ble_eq_true rfl), (Nat.le_of_ble_eq_true rfl)⟩ rfl (Nat.le_of_ble_eq_true rfl) (c_m_goes hc r 0 hr (by omega) x n) ?_
      rintro _ _ ⟨rfl, rfl⟩
      refine ⟨_, rfl, ?_⟩
      refine w_istore rfl (Nat.le_of_ble_eq_true rfl) ?_
      refine w_iconst (v := 0) rfl (by decide) ?_
      refine w_istore rfl (Nat.le_of_ble_eq_true rfl) ?_
      refine w_iconst (v := 0) rfl (by decide) ?_
      refine w_istore rfl (Nat.le_of_ble_eq_true rfl) ?_
      refine l_m_man hc r hr x n _ _ _ (fun lv e0 e1 e2 e4 e5 e6 e7 e8 => ?_) 4 0 _ (by omega) (ld_s1 (by decide) (ld_s1 (by decide) (ld_s1 (by decide) g0 (fun _ => rfl)) (fun _ => rfl)) (fun _ => rfl)) (ld_s1 (by decide) (ld_s1 (by decide) (ld_s1 (by decide) g1 (fun _ => rfl)) (fun _ => rfl)) (fun _ => rfl)) (ld_s1 (by decide) (ld_s1 (by decide) (ld_s1 (by decide) g2 (fun e => absurd e (by decide))) (fun e => absurd e (by decide))) (fun e => absurd e (by decide))) (ld_s1 (by decide) (ld_s1 (by decide) (ld_s1 (by decide) g4 (fun _ => rfl)) (fun _ => rfl)) (fun _ => rfl)) (ld_s1 (by decide) (ld_s1 (by decide) (ld_s1 (by decide) g5 (fun _ => rfl)) (fun _ => rfl)) (fun _ => rfl)) (ld_s1 (by decide) (ld_s1 (by decide) (ld_s1 (by decide) g6 (fun _ => rfl)) (fun _ => rfl)) (fun _ => rfl)) (ld_s1 (by decide) (ld_s1 (by decide) ld_self (fun _ => rfl)) (fun _ => rfl)) (ld_s1 (by decide) ld_self (fun _ => rfl)) ld_self
      refine w_iload rfl e8 ?_
      refine w_iconst (v := 2) rfl (by decide) ?_
      refine w_if_icmp_lt rfl rfl (fun c74 => ?_) (fun c74 => ?_)
      · refine w_iload rfl e5 ?_
        refine w_istore rfl (Nat.le_of_ble_eq_true rfl) ?_
        have N : nxD s r x n fo 0 = nxU s r x n fo 0 := rfl
        have U : nxU s r x n fo 0 = (if manN s r x n (gON s r 0 x n) 4 < 2 then fo else gON s r 0 x n) := rfl
        rw [if_pos c74] at U
        refine w_iinc rfl (ld_s1 (by decide) e6 (fun _ => rfl)) (Nat.le_of_ble_eq_true rfl) (v := -1) (by decide) ?_
        refine w_goto rfl rfl ?_
        refine w_iload rfl ld_self ?_
        refine w_ifCond_lt rfl rfl (fun c => ?_) (fun c => absurd (by decide) c)
        refine w_iload rfl (ld_s1 (by decide) ld_self (fun _ => rfl)) ?_
        exact w_ireturn rfl (Or.inl rfl) ⟨by rw [N, U], rfl⟩
      · refine w_iload rfl e7 ?_
        refine w_goto rfl rfl ?_
        refine w_istore rfl (Nat.le_of_ble_eq_true rfl) ?_
        have N : nxD s r x n fo 0 = nxU s r x n fo 0 := rfl
        have U : nxU s r x n fo 0 = (if manN s r x n (gON s r 0 x n) 4 < 2 then fo else gON s r 0 x n) := rfl
        rw [if_neg c74] at U
        refine w_iinc rfl (ld_s1 (by decide) e6 (fun _ => rfl)) (Nat.le_of_ble_eq_true rfl) (v := -1) (by decide) ?_
        refine w_goto rfl rfl ?_
        refine w_iload rfl ld_self ?_
        refine w_ifCond_lt rfl rfl (fun c => ?_) (fun c => absurd (by decide) c)
        refine w_iload rfl (ld_s1 (by decide) ld_self (fun _ => rfl)) ?_
        exact w_ireturn rfl (Or.inl rfl) ⟨by rw [N, U], rfl⟩
  | succ j ih =>
    intro hj fo lv g0 g1 g2 g4 g5 g6
    have ih := ih (by omega)
    refine w_iload rfl g6 ?_
    refine w_ifCond_lt rfl rfl (fun c8 => ?_) (fun c8 => ?_)
    · exact absurd c8 (nI_pos (by omega))
    · refine w_aload_n rfl g0 ?_
      refine w_iload_n rfl g1 ?_
      refine w_iload rfl g6 ?_
      refine w_lload_n rfl g2 ?_
      refine w_iload rfl g4 ?_
      refine w_virtual rfl rfl (mset_ob hc) ⟨(Nat.le_of_ble_eq_true rfl), rfl, (Nat.le_of_ble_eq_true rfl), (Nat.le_of_ble_eq_true rfl)⟩ rfl (Nat.le_of_ble_eq_true rfl) (c_m_goes hc r (j + 1) hr (by omega) x n) ?_
      rintro _ _ ⟨rfl, rfl⟩
      refine ⟨_, rfl, ?_⟩
      refine w_istore rfl (Nat.le_of_ble_eq_true rfl) ?_
      refine w_iconst (v := 0) rfl (by decide) ?_
      refine w_istore rfl (Nat.le_of_ble_eq_true rfl) ?_
      refine w_iconst (v := 0) rfl (by decide) ?_
      refine w_istore rfl (Nat.le_of_ble_eq_true rfl) ?_
      refine l_m_man hc r hr x n _ _ _ (fun lv e0 e1 e2 e4 e5 e6 e7 e8 => ?_) 4 0 _ (by omega) (ld_s1 (by decide) (ld_s1 (by decide) (ld_s1 (by decide) g0 (fun _ => rfl)) (fun _ => rfl)) (fun _ => rfl)) (ld_s1 (by decide) (ld_s1 (by decide) (ld_s1 (by decide) g1 (fun _ => rfl)) (fun _ => rfl)) (fun _ => rfl)) (ld_s1 (by decide) (ld_s1 (by decide) (ld_s1 (by decide) g2 (fun e => absurd e (by decide))) (fun e => absurd e (by decide))) (fun e => absurd e (by decide))) (ld_s1 (by decide) (ld_s1 (by decide) (ld_s1 (by decide) g4 (fun _ => rfl)) (fun _ => rfl)) (fun _ => rfl)) (ld_s1 (by decide) (ld_s1 (by decide) (ld_s1 (by decide) g5 (fun _ => rfl)) (fun _ => rfl)) (fun _ => rfl)) (ld_s1 (by decide) (ld_s1 (by decide) (ld_s1 (by decide) g6 (fun _ => rfl)) (fun _ => rfl)) (fun _ => rfl)) (ld_s1 (by decide) (ld_s1 (by decide) ld_self (fun _ => rfl)) (fun _ => rfl)) (ld_s1 (by decide) ld_self (fun _ => rfl)) ld_self
      refine w_iload rfl e8 ?_
      refine w_iconst (v := 2) rfl (by decide) ?_
      refine w_if_icmp_lt rfl rfl (fun c74 => ?_) (fun c74 => ?_)
      · refine w_iload rfl e5 ?_
        refine w_istore rfl (Nat.le_of_ble_eq_true rfl) ?_
        have N : nxD s r x n fo (j + 1) = nxD s r x n (nxU s r x n fo (j + 1)) j := rfl
        have U : nxU s r x n fo (j + 1) = (if manN s r x n (gON s r (j + 1) x n) 4 < 2 then fo else gON s r (j + 1) x n) := rfl
        rw [if_pos c74] at U
        refine w_iinc rfl (ld_s1 (by decide) e6 (fun _ => rfl)) (Nat.le_of_ble_eq_true rfl) (v := nI j) (nI_m1 j) ?_
        refine w_goto rfl rfl ?_
        have ih2 := ih (nxU s r x n fo (j + 1))
        rw [U] at ih2
        rw [N, U]
        exact ih2 _ (ld_s1 (by decide) (ld_s1 (by decide) e0 (fun _ => rfl)) (fun _ => rfl)) (ld_s1 (by decide) (ld_s1 (by decide) e1 (fun _ => rfl)) (fun _ => rfl)) (ld_s1 (by decide) (ld_s1 (by decide) e2 (fun e => absurd e (by decide))) (fun e => absurd e (by decide))) (ld_s1 (by decide) (ld_s1 (by decide) e4 (fun _ => rfl)) (fun _ => rfl)) (ld_s1 (by decide) ld_self (fun _ => rfl)) ld_self
      · refine w_iload rfl e7 ?_
        refine w_goto rfl rfl ?_
        refine w_istore rfl (Nat.le_of_ble_eq_true rfl) ?_
        have N : nxD s r x n fo (j + 1) = nxD s r x n (nxU s r x n fo (j + 1)) j := rfl
        have U : nxU s r x n fo (j + 1) = (if manN s r x n (gON s r (j + 1) x n) 4 < 2 then fo else gON s r (j + 1) x n) := rfl
        rw [if_neg c74] at U
        refine w_iinc rfl (ld_s1 (by decide) e6 (fun _ => rfl)) (Nat.le_of_ble_eq_true rfl) (v := nI j) (nI_m1 j) ?_
        refine w_goto rfl rfl ?_
        have ih2 := ih (nxU s r x n fo (j + 1))
        rw [U] at ih2
        rw [N, U]
        exact ih2 _ (ld_s1 (by decide) (ld_s1 (by decide) e0 (fun _ => rfl)) (fun _ => rfl)) (ld_s1 (by decide) (ld_s1 (by decide) e1 (fun _ => rfl)) (fun _ => rfl)) (ld_s1 (by decide) (ld_s1 (by decide) e2 (fun e => absurd e (by decide))) (fun e => absurd e (by decide))) (ld_s1 (by decide) (ld_s1 (by decide) e4 (fun _ => rfl)) (fun _ => rfl)) (ld_s1 (by decide) ld_self (fun _ => rfl)) ld_self
set_option maxRecDepth 100000 in
set_option maxHeartbeats 400000 in
theorem c_m_next {sc : pm_Sc} {cs : List pm_C} {s : MS} {kn : Nat × Nat} (hc : 72 < cs.length) (r : Nat) (hr : r < 4) (x : Int64) (n : Int32) : pu sc 96 [.ref 31, .int (nI r), .long x, .int n] (mset cs s, kn) (pz (some (.int (nxt s r x n))) (mset cs s, kn)) := by
  refine w_iconst (v := (-1)) rfl (by decide) ?_
  refine w_istore rfl (Nat.le_of_ble_eq_true rfl) ?_
  refine w_iconst (v := 3) rfl (by decide) ?_
  refine w_istore rfl (Nat.le_of_ble_eq_true rfl) ?_
  exact l_m_nx hc r hr x n 3 (by omega) (-1) _ rfl rfl rfl rfl rfl rfl
set_option maxRecDepth 100000 in
set_option maxHeartbeats 400000 in
theorem l_m_saf {sc : pm_Sc} {cs : List pm_C} {kn : Nat × Nat} (hc : 72 < cs.length) {s : MS} (r : Nat) (hr : r < 4) : ∀ (d k : Nat) (lv : pm_L), k + d = 4 → pm_ld lv 0 = some (.ref 31) → pm_ld lv 1 = some (.int (nI r)) → pm_ld lv 2 = some (.int (safN s r k)) → pm_ld lv 3 = some (.int (nI k)) → pw sc 94 (4, lv, [], (mset cs s, kn)) (pz (some (.int (safN s r 4))) (mset cs s, kn)) := by
  intro d
  induction d with
  | zero =>
    intro k lv hk g0 g1 g2 g3
    obtain rfl : 4 = k := by omega
    refine w_iload_n rfl g3 ?_
    refine w_iconst (v := 4) rfl (by decide) ?_
    refine w_if_icmp_ge rfl rfl (fun c6 => ?_) (fun c6 => ?_)
    · refine w_iload_n rfl g2 ?_
      exact w_ireturn rfl (by first | exact Or.inl rfl | exact Or.inr ⟨rfl, Or.inl rfl⟩ | exact Or.inr ⟨rfl, Or.inr rfl⟩ | exact Or.inr ⟨rfl, by assumption⟩) ⟨(by first | rfl | (simp only [c6, if_true, if_false, and_true, true_and, and_false, false_and, or_true, true_or, or_false, false_or, not_true_eq_false, not_false_eq_true, ite_self]; done) | (simp only [c6, if_true, if_false, and_true, true_and, and_false, false_and, or_true, true_or, or_false, false_or, not_true_eq_false, not_false_eq_true, ite_self]; rfl)), (by first | rfl | (simp only [c6, if_true, if_false, and_true, true_and, and_false, false_and, or_true, true_or, or_false, false_or, not_true_eq_false, not_false_eq_true, ite_self]; done) | (simp only [c6, if_true, if_false, and_true, true_and, and_false, false_and, or_true, true_or, or_false, false_or, not_true_eq_false, not_false_eq_true, ite_self]; rfl))⟩
    · exact absurd (nI_le (a := 4) (b := 4) (Nat.le_refl _) (by omega)) c6
  | succ d ih =>
    intro k lv hk g0 g1 g2 g3
    refine w_iload_n rfl g3 ?_
    refine w_iconst (v := 4) rfl (by decide) ?_
    refine w_if_icmp_ge rfl rfl (fun c6 => ?_) (fun c6 => ?_)
    · exact absurd c6 (nI_ge (a := k) (b := 4) (by omega) (by omega))
    · refine w_aload_n rfl g0 ?_
      refine w_getfield rfl (mset_ob hc) rfl ?_
      refine w_iconst (v := 4) rfl (by decide) ?_
      refine w_iload_n rfl g1 ?_
      refine w_imulN (x := 4) (y := r) rfl rfl rfl ?_
      refine w_iload_n rfl g3 ?_
      refine w_iaddN (x := (4 * r)) (y := k) rfl rfl rfl ?_
      refine w_mil (k := 13) (j := ((4 * r) + k)) rfl hc (by decide) rfl ⟨show ((4 * r) + k) < 16 from by omega, by decide⟩ ?_
      refine w_aload_n rfl g0 ?_
      refine w_getfield rfl (mset_ob hc) rfl ?_
      refine w_iload_n rfl g1 ?_
      refine w_mil (k := 6) (j := r) rfl hc (by decide) rfl ⟨show r < 4 from by omega, by decide⟩ ?_
      refine w_if_icmp_ne rfl rfl (fun c25 => ?_) (fun c25 => ?_)
      · refine w_iconst (v := 0) rfl (by decide) ?_
        refine w_istore rfl (Nat.le_of_ble_eq_true rfl) ?_
        refine w_iload rfl ld_self ?_
        refine w_ifCond_eq rfl rfl (fun c37 => ?_) (fun c37 => ?_)
        · refine w_iload_n rfl (ld_s1 (by decide) g2 (fun _ => rfl)) ?_
          refine w_istore_n rfl (Nat.le_of_ble_eq_true rfl) ?_
          refine w_iincN (j := k) rfl rfl (ld_s1 (by decide) (ld_s1 (by decide) g3 (fun _ => rfl)) (fun _ => rfl)) (Nat.le_of_ble_eq_true rfl) ?_
          refine w_goto rfl rfl ?_
          have e : safN s r (k + 1) = (if s.1 13 (4 * r + k) = s.1 6 r ∧ (safN s r k < 0 ∨ ¬ s.1 16 (4 * r + k) ≤ s.1 16 (4 * r + (safN s r k).toNatClampNeg)) then nI k else safN s r k) := rfl
          rw [if_neg (fun z => c25 z.1)] at e
          have ih2 := ih (k + 1)
          rw [e] at ih2
          exact ih2 _ (by omega) (ld_s1 (by decide) (ld_s1 (by decide) (ld_s1 (by decide) g0 (fun _ => rfl)) (fun _ => rfl)) (fun _ => rfl)) (ld_s1 (by decide) (ld_s1 (by decide) (ld_s1 (by decide) g1 (fun _ => rfl)) (fun _ => rfl)) (fun _ => rfl)) (ld_s1 (by decide) ld_self (fun _ => rfl)) ld_self
        · exact absurd (by decide) c37
      · refine w_iconst (v := 1) rfl (by decide) ?_
        refine w_goto rfl rfl ?_
        refine w_istore rfl (Nat.le_of_ble_eq_true rfl) ?_
        refine w_iload rfl ld_self ?_
        refine w_ifCond_eq rfl rfl (fun c37 => ?_) (fun c37 => ?_)
        · exact absurd c37 (by decide)
        · refine w_iload_n rfl (ld_s1 (by decide) g2 (fun _ => rfl)) ?_
          refine w_ifCond_lt rfl rfl (fun c41 => ?_) (fun c41 => ?_)
          · refine w_iload_n rfl (ld_s1 (by decide) g3 (fun _ => rfl)) ?_
            refine w_goto rfl rfl ?_
            refine w_istore_n rfl (Nat.le_of_ble_eq_true rfl) ?_
            refine w_iincN (j := k) rfl rfl (ld_s1 (by decide) (ld_s1 (by decide) g3 (fun _ => rfl)) (fun _ => rfl)) (Nat.le_of_ble_eq_true rfl) ?_
            refine w_goto rfl rfl ?_
            have e : safN s r (k + 1) = (if s.1 13 (4 * r + k) = s.1 6 r ∧ (safN s r k < 0 ∨ ¬ s.1 16 (4 * r + k) ≤ s.1 16 (4 * r + (safN s r k).toNatClampNeg)) then nI k else safN s r k) := rfl
            rw [if_pos ⟨c25, Or.inl c41⟩] at e
            have ih2 := ih (k + 1)
            rw [e] at ih2
            exact ih2 _ (by omega) (ld_s1 (by decide) (ld_s1 (by decide) (ld_s1 (by decide) g0 (fun _ => rfl)) (fun _ => rfl)) (fun _ => rfl)) (ld_s1 (by decide) (ld_s1 (by decide) (ld_s1 (by decide) g1 (fun _ => rfl)) (fun _ => rfl)) (fun _ => rfl)) (ld_s1 (by decide) ld_self (fun _ => rfl)) ld_self
          · obtain ⟨b, hb, eb⟩ : ∃ b, b < k ∧ safN s r k = nI b := (saf_nat s r k).resolve_left c41
            refine w_aload_n rfl (ld_s1 (by decide) g0 (fun _ => rfl)) ?_
            refine w_getfield rfl (mset_ob hc) rfl ?_
            refine w_iconst (v := 4) rfl (by decide) ?_
            refine w_iload_n rfl (ld_s1 (by decide) g1 (fun _ => rfl)) ?_
            refine w_imulN (x := 4) (y := r) rfl rfl rfl ?_
            refine w_iload_n rfl (ld_s1 (by decide) g3 (fun _ => rfl)) ?_
            refine w_iaddN (x := (4 * r)) (y := k) rfl rfl rfl ?_
            refine w_mil (k := 16) (j := ((4 * r) + k)) rfl hc (by decide) rfl ⟨show ((4 * r) + k) < 16 from by omega, by decide⟩ ?_
            refine w_aload_n rfl (ld_s1 (by decide) g0 (fun _ => rfl)) ?_
            refine w_getfield rfl (mset_ob hc) rfl ?_
            refine w_iconst (v := 4) rfl (by decide) ?_
            refine w_iload_n rfl (ld_s1 (by decide) g1 (fun _ => rfl)) ?_
            refine w_imulN (x := 4) (y := r) rfl rfl rfl ?_
            refine w_iload_n rfl (ld_s1 (by decide) g2 (fun _ => rfl)) ?_
            refine w_iaddN (x := (4 * r)) (y := b) rfl rfl eb ?_
            refine w_mil (k := 16) (j := ((4 * r) + b)) rfl hc (by decide) rfl ⟨show ((4 * r) + b) < 16 from by omega, by decide⟩ ?_
            refine w_if_icmp_le rfl rfl (fun c64 => ?_) (fun c64 => ?_)
            · refine w_iload_n rfl (ld_s1 (by decide) g2 (fun _ => rfl)) ?_
              refine w_istore_n rfl (Nat.le_of_ble_eq_true rfl) ?_
              refine w_iincN (j := k) rfl rfl (ld_s1 (by decide) (ld_s1 (by decide) g3 (fun _ => rfl)) (fun _ => rfl)) (Nat.le_of_ble_eq_true rfl) ?_
              refine w_goto rfl rfl ?_
              have e : safN s r (k + 1) = (if s.1 13 (4 * r + k) = s.1 6 r ∧ (safN s r k < 0 ∨ ¬ s.1 16 (4 * r + k) ≤ s.1 16 (4 * r + (safN s r k).toNatClampNeg)) then nI k else safN s r k) := rfl
              rw [eb, nI_clamp (by omega), if_neg (fun z => z.2.elim (fun y => absurd y (nI_pos (by omega))) (fun y => y c64)), ← eb] at e
              have ih2 := ih (k + 1)
              rw [e] at ih2
              exact ih2 _ (by omega) (ld_s1 (by decide) (ld_s1 (by decide) (ld_s1 (by decide) g0 (fun _ => rfl)) (fun _ => rfl)) (fun _ => rfl)) (ld_s1 (by decide) (ld_s1 (by decide) (ld_s1 (by decide) g1 (fun _ => rfl)) (fun _ => rfl)) (fun _ => rfl)) (ld_s1 (by decide) ld_self (fun _ => rfl)) ld_self
            · refine w_iload_n rfl (ld_s1 (by decide) g3 (fun _ => rfl)) ?_
              refine w_goto rfl rfl ?_
              refine w_istore_n rfl (Nat.le_of_ble_eq_true rfl) ?_
              refine w_iincN (j := k) rfl rfl (ld_s1 (by decide) (ld_s1 (by decide) g3 (fun _ => rfl)) (fun _ => rfl)) (Nat.le_of_ble_eq_true rfl) ?_
              refine w_goto rfl rfl ?_
              have e : safN s r (k + 1) = (if s.1 13 (4 * r + k) = s.1 6 r ∧ (safN s r k < 0 ∨ ¬ s.1 16 (4 * r + k) ≤ s.1 16 (4 * r + (safN s r k).toNatClampNeg)) then nI k else safN s r k) := rfl
              rw [eb, nI_clamp (by omega), if_pos ⟨c25, Or.inr c64⟩] at e
              have ih2 := ih (k + 1)
              rw [e] at ih2
              exact ih2 _ (by omega) (ld_s1 (by decide) (ld_s1 (by decide) (ld_s1 (by decide) g0 (fun _ => rfl)) (fun _ => rfl)) (fun _ => rfl)) (ld_s1 (by decide) (ld_s1 (by decide) (ld_s1 (by decide) g1 (fun _ => rfl)) (fun _ => rfl)) (fun _ => rfl)) (ld_s1 (by decide) ld_self (fun _ => rfl)) ld_self
set_option maxRecDepth 100000 in
set_option maxHeartbeats 400000 in
theorem c_m_saf {sc : pm_Sc} {cs : List pm_C} {s : MS} {kn : Nat × Nat} (hc : 72 < cs.length) (r : Nat) (hr : r < 4) : pu sc 94 [.ref 31, .int (nI r)] (mset cs s, kn) (pz (some (.int (safN s r 4))) (mset cs s, kn)) := by
  refine w_iconst (v := (-1)) rfl (by decide) ?_
  refine w_istore_n rfl (Nat.le_of_ble_eq_true rfl) ?_
  refine w_iconst (v := 0) rfl (by decide) ?_
  refine w_istore_n rfl (Nat.le_of_ble_eq_true rfl) ?_
  exact l_m_saf hc r hr 4 0 _ (by omega) rfl rfl rfl rfl
