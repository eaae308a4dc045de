-- deps: 41.crules 36.m5
theorem hcA {cs : List pm_C} {c : pm_C} (h : 73 < cs.length) : 73 < (cs ++ [c]).length := by rw [List.length_append]; omega
theorem hcS {cs : List pm_C} {c : pm_C} {p : Nat} (h : 73 < cs.length) : 73 < (cs.set p c).length := by rw [List.length_set]; exact h
theorem hc30 {n : Nat} (h : 73 < n) : 30 < n := by omega
/-- a History: its object at p, its row at q -/
def His (h : List pm_C) (p q n : Nat) (f : Int32) (g : Nat → Int32) : Prop := h[p]? = some (.inr (1, [.ref q, .int (nI n), .int f])) ∧ h[q]? = some (.inl (0, (List.range 12).map fun b => Value.int (g b))) ∧ n ≤ 12
def dgG (g : Nat → Int32) : Nat → Int32
  | 0 => 7
  | n + 1 => 31 * dgG g n + g n + 1
def pfG (g : Nat → Int32) (q : Int32) : Nat → Nat → Nat
  | _, 0 => 0
  | i, d + 1 => if g i = q then i + 1 else pfG g q (i + 1) d
set_option maxRecDepth 100000 in
set_option maxHeartbeats 400000 in
theorem c_isRep {sc : pm_Sc} {h : pm_H} (x : Int32) : pu sc 69 [.int x] h (pz (some (.int (b01 (¬ x < 0 ∧ ¬ 4 ≤ x)))) h) := by
  refine w_iload_n rfl rfl ?_
  refine w_ifCond_lt rfl rfl (fun c1 => ?_) (fun c1 => ?_)
  · refine w_iconst (v := 0) rfl (by decide) ?_
    exact w_ireturn rfl (by first | exact Or.inl rfl | exact Or.inr ⟨rfl, Or.inl rfl⟩ | exact Or.inr ⟨rfl, Or.inr rfl⟩ | exact Or.inr ⟨rfl, by assumption⟩) ⟨(by first | (simp only [b01, c1, if_true, if_false, and_true, true_and, and_false, false_and, or_true, true_or, or_false, false_or, not_true_eq_false, not_false_eq_true, ite_self]; done) | (simp only [b01, c1, if_true, if_false, and_true, true_and, and_false, false_and, or_true, true_or, or_false, false_or, not_true_eq_false, not_false_eq_true, ite_self]; rfl) | rfl), (by first | (simp only [b01, c1, if_true, if_false, and_true, true_and, and_false, false_and, or_true, true_or, or_false, false_or, not_true_eq_false, not_false_eq_true, ite_self]; done) | (simp only [b01, c1, if_true, if_false, and_true, true_and, and_false, false_and, or_true, true_or, or_false, false_or, not_true_eq_false, not_false_eq_true, ite_self]; rfl) | rfl)⟩
  · refine w_iload_n rfl rfl ?_
    refine w_iconst (v := 4) rfl (by decide) ?_
    refine w_if_icmp_ge rfl rfl (fun c6 => ?_) (fun c6 => ?_)
    · refine w_iconst (v := 0) rfl (by decide) ?_
      exact w_ireturn rfl (by first | exact Or.inl rfl | exact Or.inr ⟨rfl, Or.inl rfl⟩ | exact Or.inr ⟨rfl, Or.inr rfl⟩ | exact Or.inr ⟨rfl, by assumption⟩) ⟨(by first | (simp only [b01, c1, c6, if_true, if_false, and_true, true_and, and_false, false_and, or_true, true_or, or_false, false_or, not_true_eq_false, not_false_eq_true, ite_self]; done) | (simp only [b01, c1, c6, if_true, if_false, and_true, true_and, and_false, false_and, or_true, true_or, or_false, false_or, not_true_eq_false, not_false_eq_true, ite_self]; rfl) | rfl), (by first | (simp only [b01, c1, c6, if_true, if_false, and_true, true_and, and_false, false_and, or_true, true_or, or_false, false_or, not_true_eq_false, not_false_eq_true, ite_self]; done) | (simp only [b01, c1, c6, if_true, if_false, and_true, true_and, and_false, false_and, or_true, true_or, or_false, false_or, not_true_eq_false, not_false_eq_true, ite_self]; rfl) | rfl)⟩
    · refine w_iconst (v := 1) rfl (by decide) ?_
      refine w_goto rfl rfl ?_
      exact w_ireturn rfl (by first | exact Or.inl rfl | exact Or.inr ⟨rfl, Or.inl rfl⟩ | exact Or.inr ⟨rfl, Or.inr rfl⟩ | exact Or.inr ⟨rfl, by assumption⟩) ⟨(by first | (simp only [b01, c1, c6, if_true, if_false, and_true, true_and, and_false, false_and, or_true, true_or, or_false, false_or, not_true_eq_false, not_false_eq_true, ite_self]; done) | (simp only [b01, c1, c6, if_true, if_false, and_true, true_and, and_false, false_and, or_true, true_or, or_false, false_or, not_true_eq_false, not_false_eq_true, ite_self]; rfl) | rfl), (by first | (simp only [b01, c1, c6, if_true, if_false, and_true, true_and, and_false, false_and, or_true, true_or, or_false, false_or, not_true_eq_false, not_false_eq_true, ite_self]; done) | (simp only [b01, c1, c6, if_true, if_false, and_true, true_and, and_false, false_and, or_true, true_or, or_false, false_or, not_true_eq_false, not_false_eq_true, ite_self]; rfl) | rfl)⟩
set_option maxRecDepth 100000 in
set_option maxHeartbeats 400000 in
theorem c_prim {sc : pm_Sc} {h : pm_H} (x : Int32) : pu sc 70 [.int x] h (pz (some (.int (rm4 x))) h) := by
  refine w_iload_n rfl rfl ?_
  refine w_iconst (v := 4) rfl (by decide) ?_
  refine w_irem4 rfl ?_
  exact w_ireturn rfl (by first | exact Or.inl rfl | exact Or.inr ⟨rfl, Or.inl rfl⟩ | exact Or.inr ⟨rfl, Or.inr rfl⟩ | exact Or.inr ⟨rfl, by assumption⟩) ⟨(by first | rfl | (simp only [if_true, if_false, and_true, true_and, and_false, false_and, or_true, true_or, or_false, false_or, not_true_eq_false, not_false_eq_true, ite_self]; done) | (simp only [if_true, if_false, and_true, true_and, and_false, false_and, or_true, true_or, or_false, false_or, not_true_eq_false, not_false_eq_true, ite_self]; rfl)), (by first | rfl | (simp only [if_true, if_false, and_true, true_and, and_false, false_and, or_true, true_or, or_false, false_or, not_true_eq_false, not_false_eq_true, ite_self]; done) | (simp only [if_true, if_false, and_true, true_and, and_false, false_and, or_true, true_or, or_false, false_or, not_true_eq_false, not_false_eq_true, ite_self]; rfl))⟩
set_option maxRecDepth 100000 in
set_option maxHeartbeats 400000 in
theorem c_dw {sc : pm_Sc} {h : pm_H} (x y : Int32) : pu sc 14 [.int x, .int y] h (pz (some (.int (31 * x + y + 1))) h) := by
  refine w_bipush (v := 31) rfl (by decide) ?_
  refine w_iload_n rfl rfl ?_
  refine w_imul rfl ?_
  refine w_iload_n rfl rfl ?_
  refine w_iadd rfl ?_
  refine w_iconst (v := 1) rfl (by decide) ?_
  refine w_iadd rfl ?_
  exact w_ireturn rfl (by first | exact Or.inl rfl | exact Or.inr ⟨rfl, Or.inl rfl⟩ | exact Or.inr ⟨rfl, Or.inr rfl⟩ | exact Or.inr ⟨rfl, by assumption⟩) ⟨(by first | rfl | (simp only [if_true, if_false, and_true, true_and, and_false, false_and, or_true, true_or, or_false, false_or, not_true_eq_false, not_false_eq_true, ite_self]; done) | (simp only [if_true, if_false, and_true, true_and, and_false, false_and, or_true, true_or, or_false, false_or, not_true_eq_false, not_false_eq_true, ite_self]; rfl)), (by first | rfl | (simp only [if_true, if_false, and_true, true_and, and_false, false_and, or_true, true_or, or_false, false_or, not_true_eq_false, not_false_eq_true, ite_self]; done) | (simp only [if_true, if_false, and_true, true_and, and_false, false_and, or_true, true_or, or_false, false_or, not_true_eq_false, not_false_eq_true, ite_self]; rfl))⟩
set_option maxRecDepth 100000 in
set_option maxHeartbeats 400000 in
theorem c_h_at {sc : pm_Sc} {h : pm_H} {p q n : Nat} {f : Int32} {g : Nat → Int32} (hh : His h.1 p q n f g) (k : Nat) (hk : k < 2 ^ 31) : pu sc 9 [.ref p, .int (nI k)] h (pz (some (.int (if k < n then g k else -1))) h) := by
  have hn := hh.2.2
  refine w_iload_n rfl rfl ?_
  refine w_ifCond_lt rfl rfl (fun c1 => ?_) (fun c1 => ?_)
  · exact absurd c1 (nI_pos (by omega))
  · refine w_iload_n rfl rfl ?_
    refine w_aload_n rfl rfl ?_
    refine w_getfield rfl hh.1 rfl ?_
    refine w_if_icmp_ge rfl rfl (fun c9 => ?_) (fun c9 => ?_)
    · rw [if_neg (fun z => absurd c9 (nI_ge z (by omega)))]
      refine w_iconst (v := (-1)) rfl (by decide) ?_
      exact w_ireturn rfl (by first | exact Or.inl rfl | exact Or.inr ⟨rfl, Or.inl rfl⟩ | exact Or.inr ⟨rfl, Or.inr rfl⟩ | exact Or.inr ⟨rfl, by assumption⟩) ⟨(by first | rfl | (simp only [c1, c9, if_true, if_false, and_true, true_and, and_false, false_and, or_true, true_or, or_false, false_or, not_true_eq_false, not_false_eq_true, ite_self]; done) | (simp only [c1, c9, if_true, if_false, and_true, true_and, and_false, false_and, or_true, true_or, or_false, false_or, not_true_eq_false, not_false_eq_true, ite_self]; rfl)), (by first | rfl | (simp only [c1, c9, if_true, if_false, and_true, true_and, and_false, false_and, or_true, true_or, or_false, false_or, not_true_eq_false, not_false_eq_true, ite_self]; done) | (simp only [c1, c9, if_true, if_false, and_true, true_and, and_false, false_and, or_true, true_or, or_false, false_or, not_true_eq_false, not_false_eq_true, ite_self]; rfl))⟩
    · have hkn : k < n := Nat.lt_of_not_ge (fun z => c9 (nI_le z (by omega)))
      rw [if_pos hkn]
      refine w_aload_n rfl rfl ?_
      refine w_getfield rfl hh.1 rfl ?_
      refine w_iload_n rfl rfl ?_
      refine w_hil (j := k) rfl hh.2.1 rfl ⟨show k < 12 from by omega, by decide⟩ ?_
      refine w_goto rfl rfl ?_
      exact w_ireturn rfl (by first | exact Or.inl rfl | exact Or.inr ⟨rfl, Or.inl rfl⟩ | exact Or.inr ⟨rfl, Or.inr rfl⟩ | exact Or.inr ⟨rfl, by assumption⟩) ⟨(by first | rfl | (simp only [c1, c9, if_true, if_false, and_true, true_and, and_false, false_and, or_true, true_or, or_false, false_or, not_true_eq_false, not_false_eq_true, ite_self]; done) | (simp only [c1, c9, if_true, if_false, and_true, true_and, and_false, false_and, or_true, true_or, or_false, false_or, not_true_eq_false, not_false_eq_true, ite_self]; rfl)), (by first | rfl | (simp only [c1, c9, if_true, if_false, and_true, true_and, and_false, false_and, or_true, true_or, or_false, false_or, not_true_eq_false, not_false_eq_true, ite_self]; done) | (simp only [c1, c9, if_true, if_false, and_true, true_and, and_false, false_and, or_true, true_or, or_false, false_or, not_true_eq_false, not_false_eq_true, ite_self]; rfl))⟩
set_option maxRecDepth 100000 in
set_option maxHeartbeats 400000 in
theorem l_h_dig {sc : pm_Sc} {h : pm_H} {p q n : Nat} {f : Int32} {g : Nat → Int32} (hh : His h.1 p q n f g) (m : Nat) (hm : m < 2 ^ 31) : ∀ (d k : Nat) (lv : pm_L), k + d = min m n → pm_ld lv 0 = some (.ref p) → pm_ld lv 1 = some (.int (nI m)) → pm_ld lv 2 = some (.int (dgG g k)) → pm_ld lv 3 = some (.int (nI k)) → pw sc 11 (5, lv, [], h) (pz (some (.int (dgG g (min m n)))) h) := by
  intro d
  have hn := hh.2.2
  induction d with
  | zero =>
    intro k lv hk g0 g1 g2 g3
    rw [← hk]
    refine w_iload_n rfl g3 ?_
    refine w_iload_n rfl g1 ?_
    refine w_if_icmp_ge rfl rfl (fun c7 => ?_) (fun c7 => ?_)
    · refine w_iload_n rfl g2 ?_
      exact w_ireturn rfl (by first | exact Or.inl rfl | exact Or.inr ⟨rfl, Or.inl rfl⟩ | exact Or.inr ⟨rfl, Or.inr rfl⟩ | exact Or.inr ⟨rfl, by assumption⟩) ⟨(by first | rfl | (simp only [c7, if_true, if_false, and_true, true_and, and_false, false_and, or_true, true_or, or_false, false_or, not_true_eq_false, not_false_eq_true, ite_self]; done) | (simp only [c7, if_true, if_false, and_true, true_and, and_false, false_and, or_true, true_or, or_false, false_or, not_true_eq_false, not_false_eq_true, ite_self]; rfl)), (by first | rfl | (simp only [c7, if_true, if_false, and_true, true_and, and_false, false_and, or_true, true_or, or_false, false_or, not_true_eq_false, not_false_eq_true, ite_self]; done) | (simp only [c7, if_true, if_false, and_true, true_and, and_false, false_and, or_true, true_or, or_false, false_or, not_true_eq_false, not_false_eq_true, ite_self]; rfl))⟩
    · have hkm : k < m := Nat.lt_of_not_ge (fun z => c7 (nI_le z (by omega)))
      refine w_iload_n rfl g3 ?_
      refine w_aload_n rfl g0 ?_
      refine w_getfield rfl hh.1 rfl ?_
      refine w_if_icmp_ge rfl rfl (fun c15 => ?_) (fun c15 => ?_)
      · refine w_iload_n rfl g2 ?_
        exact w_ireturn rfl (by first | exact Or.inl rfl | exact Or.inr ⟨rfl, Or.inl rfl⟩ | exact Or.inr ⟨rfl, Or.inr rfl⟩ | exact Or.inr ⟨rfl, by assumption⟩) ⟨(by first | rfl | (simp only [c7, c15, if_true, if_false, and_true, true_and, and_false, false_and, or_true, true_or, or_false, false_or, not_true_eq_false, not_false_eq_true, ite_self]; done) | (simp only [c7, c15, if_true, if_false, and_true, true_and, and_false, false_and, or_true, true_or, or_false, false_or, not_true_eq_false, not_false_eq_true, ite_self]; rfl)), (by first | rfl | (simp only [c7, c15, if_true, if_false, and_true, true_and, and_false, false_and, or_true, true_or, or_false, false_or, not_true_eq_false, not_false_eq_true, ite_self]; done) | (simp only [c7, c15, if_true, if_false, and_true, true_and, and_false, false_and, or_true, true_or, or_false, false_or, not_true_eq_false, not_false_eq_true, ite_self]; rfl))⟩
      · exact absurd (nI_le (a := n) (b := k) (by omega) (by omega)) c15
  | succ d ih =>
    intro k lv hk g0 g1 g2 g3
    refine w_iload_n rfl g3 ?_
    refine w_iload_n rfl g1 ?_
    refine w_if_icmp_ge rfl rfl (fun c7 => ?_) (fun c7 => ?_)
    · exact absurd c7 (nI_ge (a := k) (b := m) (by omega) (by omega))
    · refine w_iload_n rfl g3 ?_
      refine w_aload_n rfl g0 ?_
      refine w_getfield rfl hh.1 rfl ?_
      refine w_if_icmp_ge rfl rfl (fun c15 => ?_) (fun c15 => ?_)
      · exact absurd c15 (nI_ge (a := k) (b := n) (by omega) (by omega))
      · refine w_iload_n rfl g2 ?_
        refine w_aload_n rfl g0 ?_
        refine w_getfield rfl hh.1 rfl ?_
        refine w_iload_n rfl g3 ?_
        refine w_hil (j := k) rfl hh.2.1 rfl ⟨show k < 12 from by omega, by decide⟩ ?_
        refine w_static rfl (by decide) rfl ⟨(Nat.le_of_ble_eq_true rfl), (Nat.le_of_ble_eq_true rfl), (Nat.le_of_ble_eq_true rfl)⟩ rfl (Nat.le_of_ble_eq_true rfl) (c_dw _ _) ?_
        rintro _ _ ⟨rfl, rfl⟩
        refine ⟨_, rfl, ?_⟩
        refine w_istore_n rfl (Nat.le_of_ble_eq_true rfl) ?_
        refine w_iincN (j := k) rfl rfl (ld_s1 (by decide) g3 (fun _ => rfl)) (Nat.le_of_ble_eq_true rfl) ?_
        refine w_goto rfl rfl ?_
        exact ih (k + 1) _ (by omega) (ld_s1 (by decide) (ld_s1 (by decide) g0 (fun _ => rfl)) (fun _ => rfl)) (ld_s1 (by decide) (ld_s1 (by decide) g1 (fun _ => rfl)) (fun _ => rfl)) (ld_s1 (by decide) ld_self (fun _ => rfl)) ld_self
set_option maxRecDepth 100000 in
set_option maxHeartbeats 400000 in
theorem c_h_dig {sc : pm_Sc} {h : pm_H} {p q n : Nat} {f : Int32} {g : Nat → Int32} (hh : His h.1 p q n f g) (m : Nat) (hm : m < 2 ^ 31) : pu sc 11 [.ref p, .int (nI m)] h (pz (some (.int (dgG g (min m n)))) h) := by
  refine w_bipush (v := 7) rfl (by decide) ?_
  refine w_istore_n rfl (Nat.le_of_ble_eq_true rfl) ?_
  refine w_iconst (v := 0) rfl (by decide) ?_
  refine w_istore_n rfl (Nat.le_of_ble_eq_true rfl) ?_
  exact l_h_dig hh m hm (min m n) 0 _ (by omega) rfl rfl rfl rfl
set_option maxRecDepth 100000 in
set_option maxHeartbeats 400000 in
theorem l_h_pl {sc : pm_Sc} {h : pm_H} {p q n : Nat} {f : Int32} {g : Nat → Int32} (hh : His h.1 p q n f g) (x : Int32) : ∀ (d k : Nat) (lv : pm_L), k + d = n → pm_ld lv 0 = some (.ref p) → pm_ld lv 1 = some (.int x) → pm_ld lv 2 = some (.int (nI k)) → pw sc 10 (2, lv, [], h) (pz (some (.int (nI (pfG g x k d)))) h) := by
  intro d
  have hn := hh.2.2
  induction d with
  | zero =>
    intro k lv hk g0 g1 g2
    refine w_iload_n rfl g2 ?_
    refine w_aload_n rfl g0 ?_
    refine w_getfield rfl hh.1 rfl ?_
    refine w_if_icmp_ge rfl rfl (fun c7 => ?_) (fun c7 => ?_)
    · refine w_iconst (v := 0) rfl (by decide) ?_
      exact w_ireturn rfl (by first | exact Or.inl rfl | exact Or.inr ⟨rfl, Or.inl rfl⟩ | exact Or.inr ⟨rfl, Or.inr rfl⟩ | exact Or.inr ⟨rfl, by assumption⟩) ⟨(by first | rfl | (simp only [c7, if_true, if_false, and_true, true_and, and_false, false_and, or_true, true_or, or_false, false_or, not_true_eq_false, not_false_eq_true, ite_self]; done) | (simp only [c7, if_true, if_false, and_true, true_and, and_false, false_and, or_true, true_or, or_false, false_or, not_true_eq_false, not_false_eq_true, ite_self]; rfl)), (by first | rfl | (simp only [c7, if_true, if_false, and_true, true_and, and_false, false_and, or_true, true_or, or_false, false_or, not_true_eq_false, not_false_eq_true, ite_self]; done) | (simp only [c7, if_true, if_false, and_true, true_and, and_false, false_and, or_true, true_or, or_false, false_or, not_true_eq_false, not_false_eq_true, ite_self]; rfl))⟩
    · exact absurd (nI_le (a := n) (b := k) (by omega) (by omega)) c7
  | succ d ih =>
    intro k lv hk g0 g1 g2
    rw [pfG]
    refine w_iload_n rfl g2 ?_
    refine w_aload_n rfl g0 ?_
    refine w_getfield rfl hh.1 rfl ?_
    refine w_if_icmp_ge rfl rfl (fun c7 => ?_) (fun c7 => ?_)
    · exact absurd c7 (nI_ge (a := k) (b := n) (by omega) (by omega))
    · refine w_aload_n rfl g0 ?_
      refine w_getfield rfl hh.1 rfl ?_
      refine w_iload_n rfl g2 ?_
      refine w_hil (j := k) rfl hh.2.1 rfl ⟨show k < 12 from by omega, by decide⟩ ?_
      refine w_iload_n rfl g1 ?_
      refine w_if_icmp_ne rfl rfl (fun c17 => ?_) (fun c17 => ?_)
      · rw [if_neg c17]
        refine w_iincN (j := k) rfl rfl g2 (Nat.le_of_ble_eq_true rfl) ?_
        refine w_goto rfl rfl ?_
        exact ih (k + 1) _ (by omega) (ld_s1 (by decide) g0 (fun _ => rfl)) (ld_s1 (by decide) g1 (fun _ => rfl)) ld_self
      · rw [if_pos c17]
        refine w_iload_n rfl g2 ?_
        refine w_iconst (v := 1) rfl (by decide) ?_
        refine w_iaddN (x := k) (y := 1) rfl rfl rfl ?_
        exact w_ireturn rfl (by first | exact Or.inl rfl | exact Or.inr ⟨rfl, Or.inl rfl⟩ | exact Or.inr ⟨rfl, Or.inr rfl⟩ | exact Or.inr ⟨rfl, by assumption⟩) ⟨(by first | rfl | (simp only [c7, (eq_true c17), if_true, if_false, and_true, true_and, and_false, false_and, or_true, true_or, or_false, false_or, not_true_eq_false, not_false_eq_true, ite_self]; done) | (simp only [c7, (eq_true c17), if_true, if_false, and_true, true_and, and_false, false_and, or_true, true_or, or_false, false_or, not_true_eq_false, not_false_eq_true, ite_self]; rfl)), (by first | rfl | (simp only [c7, (eq_true c17), if_true, if_false, and_true, true_and, and_false, false_and, or_true, true_or, or_false, false_or, not_true_eq_false, not_false_eq_true, ite_self]; done) | (simp only [c7, (eq_true c17), if_true, if_false, and_true, true_and, and_false, false_and, or_true, true_or, or_false, false_or, not_true_eq_false, not_false_eq_true, ite_self]; rfl))⟩
set_option maxRecDepth 100000 in
set_option maxHeartbeats 400000 in
theorem c_h_pl {sc : pm_Sc} {h : pm_H} {p q n : Nat} {f : Int32} {g : Nat → Int32} (hh : His h.1 p q n f g) (x : Int32) : pu sc 10 [.ref p, .int x] h (pz (some (.int (nI (pfG g x 0 n)))) h) := by
  refine w_iconst (v := 0) rfl (by decide) ?_
  refine w_istore_n rfl (Nat.le_of_ble_eq_true rfl) ?_
  exact l_h_pl hh x n 0 _ (by omega) rfl rfl rfl
theorem ext1 {g g' : Nat → Int32} {k : Nat} (h : ∀ j, j < k → g j = g' j) (e : g k = g' k) : ∀ j, j < k + 1 → g j = g' j := fun j hj => by
  rcases Nat.lt_or_ge j k with z | z
  · exact h j z
  · obtain rfl : j = k := by omega
    exact e
set_option maxRecDepth 100000 in
set_option maxHeartbeats 400000 in
theorem l_h_bg {sc : pm_Sc} {h : pm_H} {p q n : Nat} {f : Int32} {g : Nat → Int32} (hh : His h.1 p q n f g) {p' q' n' : Nat} {f' : Int32} {g' : Nat → Int32} (hk : His h.1 p' q' n' f' g') (hle : n' ≤ n) : ∀ (d k : Nat) (lv : pm_L), k + d = n' → (∀ j, j < k → g j = g' j) → pm_ld lv 0 = some (.ref p) → pm_ld lv 1 = some (.ref p') → pm_ld lv 2 = some (.int (nI k)) → pw sc 12 (15, lv, [], h) (pz (some (.int (if ∀ j, j < n' → g j = g' j then 1 else 0))) h) := by
  intro d
  have hn := hh.2.2
  induction d with
  | zero =>
    intro k lv hk2 hall g0 g1 g2
    obtain rfl : k = n' := by omega
    rw [if_pos hall]
    refine w_iload_n rfl g2 ?_
    refine w_aload_n rfl g1 ?_
    refine w_getfield rfl hk.1 rfl ?_
    refine w_if_icmp_ge rfl rfl (fun c20 => ?_) (fun c20 => ?_)
    · refine w_iconst (v := 1) rfl (by decide) ?_
      exact w_ireturn rfl (by first | exact Or.inl rfl | exact Or.inr ⟨rfl, Or.inl rfl⟩ | exact Or.inr ⟨rfl, Or.inr rfl⟩ | exact Or.inr ⟨rfl, by assumption⟩) ⟨(by first | rfl | (simp only [c20, if_true, if_false, and_true, true_and, and_false, false_and, or_true, true_or, or_false, false_or, not_true_eq_false, not_false_eq_true, ite_self]; done) | (simp only [c20, if_true, if_false, and_true, true_and, and_false, false_and, or_true, true_or, or_false, false_or, not_true_eq_false, not_false_eq_true, ite_self]; rfl)), (by first | rfl | (simp only [c20, if_true, if_false, and_true, true_and, and_false, false_and, or_true, true_or, or_false, false_or, not_true_eq_false, not_false_eq_true, ite_self]; done) | (simp only [c20, if_true, if_false, and_true, true_and, and_false, false_and, or_true, true_or, or_false, false_or, not_true_eq_false, not_false_eq_true, ite_self]; rfl))⟩
    · exact absurd (nI_le (a := k) (b := k) (by omega) (by omega)) c20
  | succ d ih =>
    intro k lv hk2 hall g0 g1 g2
    refine w_iload_n rfl g2 ?_
    refine w_aload_n rfl g1 ?_
    refine w_getfield rfl hk.1 rfl ?_
    refine w_if_icmp_ge rfl rfl (fun c20 => ?_) (fun c20 => ?_)
    · exact absurd c20 (nI_ge (a := k) (b := n') (by omega) (by omega))
    · refine w_aload_n rfl g0 ?_
      refine w_getfield rfl hh.1 rfl ?_
      refine w_iload_n rfl g2 ?_
      refine w_hil (j := k) rfl hh.2.1 rfl ⟨show k < 12 from by omega, by decide⟩ ?_
      refine w_aload_n rfl g1 ?_
      refine w_getfield rfl hk.1 rfl ?_
      refine w_iload_n rfl g2 ?_
      refine w_hil (j := k) rfl hk.2.1 rfl ⟨show k < 12 from by omega, by decide⟩ ?_
      refine w_if_icmp_eq rfl rfl (fun c35 => ?_) (fun c35 => ?_)
      · refine w_iincN (j := k) rfl rfl g2 (Nat.le_of_ble_eq_true rfl) ?_
        refine w_goto rfl rfl ?_
        exact ih (k + 1) _ (by omega) (ext1 hall c35) (ld_s1 (by decide) g0 (fun _ => rfl)) (ld_s1 (by decide) g1 (fun _ => rfl)) ld_self
      · rw [if_neg (fun z => c35 (z k (by omega)))]
        refine w_iconst (v := 0) rfl (by decide) ?_
        exact w_ireturn rfl (by first | exact Or.inl rfl | exact Or.inr ⟨rfl, Or.inl rfl⟩ | exact Or.inr ⟨rfl, Or.inr rfl⟩ | exact Or.inr ⟨rfl, by assumption⟩) ⟨(by first | rfl | (simp only [c20, c35, if_true, if_false, and_true, true_and, and_false, false_and, or_true, true_or, or_false, false_or, not_true_eq_false, not_false_eq_true, ite_self]; done) | (simp only [c20, c35, if_true, if_false, and_true, true_and, and_false, false_and, or_true, true_or, or_false, false_or, not_true_eq_false, not_false_eq_true, ite_self]; rfl)), (by first | rfl | (simp only [c20, c35, if_true, if_false, and_true, true_and, and_false, false_and, or_true, true_or, or_false, false_or, not_true_eq_false, not_false_eq_true, ite_self]; done) | (simp only [c20, c35, if_true, if_false, and_true, true_and, and_false, false_and, or_true, true_or, or_false, false_or, not_true_eq_false, not_false_eq_true, ite_self]; rfl))⟩
set_option maxRecDepth 100000 in
set_option maxHeartbeats 400000 in
theorem c_h_bg {sc : pm_Sc} {h : pm_H} {p q n : Nat} {f : Int32} {g : Nat → Int32} (hh : His h.1 p q n f g) {p' q' n' : Nat} {f' : Int32} {g' : Nat → Int32} (hk : His h.1 p' q' n' f' g')  : pu sc 12 [.ref p, .ref p'] h (pz (some (.int (if n' ≤ n ∧ ∀ j, j < n' → g j = g' j then 1 else 0))) h) := by
  have hn := hh.2.2
  have hn' := hk.2.2
  refine w_aload_n rfl rfl ?_
  refine w_getfield rfl hh.1 rfl ?_
  refine w_aload_n rfl rfl ?_
  refine w_getfield rfl hk.1 rfl ?_
  refine w_if_icmp_ge rfl rfl (fun c8 => ?_) (fun c8 => ?_)
  · have hle : n' ≤ n := Nat.le_of_not_lt (fun z => absurd c8 (nI_ge z (by omega)))
    rw [show (if n' ≤ n ∧ ∀ j, j < n' → g j = g' j then (1 : Int32) else 0) = (if ∀ j, j < n' → g j = g' j then 1 else 0) by simp [hle]]
    refine w_iconst (v := 0) rfl (by decide) ?_
    refine w_istore_n rfl (Nat.le_of_ble_eq_true rfl) ?_
    exact l_h_bg hh hk hle n' 0 _ (by omega) (fun j hj => absurd hj (by omega)) rfl rfl rfl
  · rw [if_neg (fun z => c8 (nI_le z.1 (by omega)))]
    refine w_iconst (v := 0) rfl (by decide) ?_
    exact w_ireturn rfl (by first | exact Or.inl rfl | exact Or.inr ⟨rfl, Or.inl rfl⟩ | exact Or.inr ⟨rfl, Or.inr rfl⟩ | exact Or.inr ⟨rfl, by assumption⟩) ⟨(by first | rfl | (simp only [c8, if_true, if_false, and_true, true_and, and_false, false_and, or_true, true_or, or_false, false_or, not_true_eq_false, not_false_eq_true, ite_self]; done) | (simp only [c8, if_true, if_false, and_true, true_and, and_false, false_and, or_true, true_or, or_false, false_or, not_true_eq_false, not_false_eq_true, ite_self]; rfl)), (by first | rfl | (simp only [c8, if_true, if_false, and_true, true_and, and_false, false_and, or_true, true_or, or_false, false_or, not_true_eq_false, not_false_eq_true, ite_self]; done) | (simp only [c8, if_true, if_false, and_true, true_and, and_false, false_and, or_true, true_or, or_false, false_or, not_true_eq_false, not_false_eq_true, ite_self]; rfl))⟩
