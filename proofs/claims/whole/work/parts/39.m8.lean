-- deps: 38.m7
/-! THE REFERENCE: what the calls tell -/
def rpN (s : MS) (q : Nat) : Nat → Int32
  | 0 => 0
  | t + 1 => rpN s q t + (if s.1 30 (4 * q + t) < 0 then 0 else 1)
theorem sw7 (x : Int32) : (x.toInt < 0 ∨ 6 < x.toInt) ∨ x = 0 ∨ x = 1 ∨ x = 2 ∨ x = 3 ∨ x = 4 ∨ x = 5 ∨ x = 6 := by
  rcases Classical.em (x.toInt < 0 ∨ 6 < x.toInt) with h | h
  · exact Or.inl h
  · right
    have e : ∀ k : Int32, x.toInt = k.toInt → x = k := fun k hk => Int32.toInt_inj.mp hk
    have h0 : (0 : Int32).toInt = 0 := by decide
    have h1 : (1 : Int32).toInt = 1 := by decide
    have h2 : (2 : Int32).toInt = 2 := by decide
    have h3 : (3 : Int32).toInt = 3 := by decide
    have h4 : (4 : Int32).toInt = 4 := by decide
    have h5 : (5 : Int32).toInt = 5 := by decide
    have h6 : (6 : Int32).toInt = 6 := by decide
    have hx : x.toInt = 0 ∨ x.toInt = 1 ∨ x.toInt = 2 ∨ x.toInt = 3 ∨ x.toInt = 4 ∨ x.toInt = 5 ∨ x.toInt = 6 := by omega
    rcases hx with g | g | g | g | g | g | g
    · exact Or.inl (e 0 (by omega))
    · exact Or.inr (Or.inl (e 1 (by omega)))
    · exact Or.inr (Or.inr (Or.inl (e 2 (by omega))))
    · exact Or.inr (Or.inr (Or.inr (Or.inl (e 3 (by omega)))))
    · exact Or.inr (Or.inr (Or.inr (Or.inr (Or.inl (e 4 (by omega))))))
    · exact Or.inr (Or.inr (Or.inr (Or.inr (Or.inr (Or.inl (e 5 (by omega)))))))
    · exact Or.inr (Or.inr (Or.inr (Or.inr (Or.inr (Or.inr (e 6 (by omega)))))))
def v_msg (s : MS) (j : Nat) (x : Int32) : Int32 := if x = 0 then s.1 18 j else if x = 1 then s.1 19 j else if x = 2 then s.1 20 j else if x = 3 then s.1 21 j else if x = 4 then s.1 23 j else if x = 5 then s.1 22 j else s.1 28 j
def v_req (s : MS) (q : Nat) (x : Int32) : Int32 := if x = 0 then (if s.1 42 q = 0 then 1 else 2) else if x = 1 then s.1 43 q else if x = 2 then s.1 44 q else if x = 3 then rpN s q 4 else (if s.1 37 q = 0 then 0 else 1)
def v_rep (s : MS) (r : Nat) (x : Int32) : Int32 := if x = 0 then s.1 6 r else if x = 1 then s.1 7 r else if x = 2 then s.1 9 r else if x = 3 then (if s.1 10 r = 0 then 0 else 1) else if x = 4 then s.1 11 r else if x = 5 then s.1 12 r else digN (s.2 8 r) (lnN s r)
set_option maxRecDepth 100000 in
set_option maxHeartbeats 4000000 in
theorem l_m_rp {sc : pm_Sc} {cs : List pm_C} {kn : Nat × Nat} (hc : 72 < cs.length) {s : MS} (q : Nat) (hq : q < 12) : ∀ (d k : Nat) (lv : pm_L), k + d = 4 → pm_ld lv 0 = some (.ref 31) → pm_ld lv 1 = some (.int (nI q)) → pm_ld lv 2 = some (.int (rpN s q k)) → pm_ld lv 3 = some (.int (nI k)) → pw sc 122 (4, lv, [], (mset cs s, kn)) (pz (some (.int (rpN s q 4))) (mset cs s, kn)) := by
  intro d
  induction d with
  | zero =>
    intro k lv hk g0 g1 g2 g3
    obtain rfl : 4 = k := by omega
    refine w_iload_n rfl g3 ?_
    refine w_iconst (v := 4) rfl (by decide) ?_
    refine w_if_icmp_ge rfl rfl (fun c6 => ?_) (fun c6 => ?_)
    · refine w_iload_n rfl g2 ?_
      exact w_ireturn rfl (by first | exact Or.inl rfl | exact Or.inr ⟨rfl, Or.inl rfl⟩ | exact Or.inr ⟨rfl, Or.inr rfl⟩ | exact Or.inr ⟨rfl, by assumption⟩) ⟨(by first | rfl | (simp only [c6, if_true, if_false, and_true, true_and, and_false, false_and, or_true, true_or, or_false, false_or, not_true_eq_false, not_false_eq_true, ite_self]; done) | (simp only [c6, if_true, if_false, and_true, true_and, and_false, false_and, or_true, true_or, or_false, false_or, not_true_eq_false, not_false_eq_true, ite_self]; rfl)), (by first | rfl | (simp only [c6, if_true, if_false, and_true, true_and, and_false, false_and, or_true, true_or, or_false, false_or, not_true_eq_false, not_false_eq_true, ite_self]; done) | (simp only [c6, if_true, if_false, and_true, true_and, and_false, false_and, or_true, true_or, or_false, false_or, not_true_eq_false, not_false_eq_true, ite_self]; rfl))⟩
    · exact absurd (nI_le (a := 4) (b := 4) (Nat.le_refl _) (by omega)) c6
  | succ d ih =>
    intro k lv hk g0 g1 g2 g3
    refine w_iload_n rfl g3 ?_
    refine w_iconst (v := 4) rfl (by decide) ?_
    refine w_if_icmp_ge rfl rfl (fun c6 => ?_) (fun c6 => ?_)
    · exact absurd c6 (nI_ge (a := k) (b := 4) (by omega) (by omega))
    · refine w_iload_n rfl g2 ?_
      refine w_aload_n rfl g0 ?_
      refine w_getfield rfl (mset_ob hc) rfl ?_
      refine w_iconst (v := 4) rfl (by decide) ?_
      refine w_iload_n rfl g1 ?_
      refine w_imulN (x := 4) (y := q) rfl rfl rfl ?_
      refine w_iload_n rfl g3 ?_
      refine w_iaddN (x := (4 * q)) (y := k) rfl rfl rfl ?_
      refine w_mil (k := 30) (j := ((4 * q) + k)) rfl hc (by decide) rfl ⟨show ((4 * q) + k) < 48 from by omega, by decide⟩ ?_
      refine w_ifCond_lt rfl rfl (fun c20 => ?_) (fun c20 => ?_)
      · refine w_iconst (v := 0) rfl (by decide) ?_
        refine w_iadd rfl ?_
        refine w_istore_n rfl (Nat.le_of_ble_eq_true rfl) ?_
        refine w_iincN (j := k) rfl rfl (ld_s1 (by decide) g3 (fun _ => rfl)) (Nat.le_of_ble_eq_true rfl) ?_
        refine w_goto rfl rfl ?_
        have e : rpN s q (k + 1) = rpN s q k + (if s.1 30 (4 * q + k) < 0 then 0 else 1) := rfl
        rw [if_pos c20] at e
        have ih2 := ih (k + 1)
        rw [e] at ih2
        exact ih2 _ (by omega) (ld_s1 (by decide) (ld_s1 (by decide) g0 (fun _ => rfl)) (fun _ => rfl)) (ld_s1 (by decide) (ld_s1 (by decide) g1 (fun _ => rfl)) (fun _ => rfl)) (ld_s1 (by decide) ld_self (fun _ => rfl)) ld_self
      · refine w_iconst (v := 1) rfl (by decide) ?_
        refine w_goto rfl rfl ?_
        refine w_iadd rfl ?_
        refine w_istore_n rfl (Nat.le_of_ble_eq_true rfl) ?_
        refine w_iincN (j := k) rfl rfl (ld_s1 (by decide) g3 (fun _ => rfl)) (Nat.le_of_ble_eq_true rfl) ?_
        refine w_goto rfl rfl ?_
        have e : rpN s q (k + 1) = rpN s q k + (if s.1 30 (4 * q + k) < 0 then 0 else 1) := rfl
        rw [if_neg c20] at e
        have ih2 := ih (k + 1)
        rw [e] at ih2
        exact ih2 _ (by omega) (ld_s1 (by decide) (ld_s1 (by decide) g0 (fun _ => rfl)) (fun _ => rfl)) (ld_s1 (by decide) (ld_s1 (by decide) g1 (fun _ => rfl)) (fun _ => rfl)) (ld_s1 (by decide) ld_self (fun _ => rfl)) ld_self
set_option maxRecDepth 100000 in
set_option maxHeartbeats 4000000 in
theorem c_m_rp {sc : pm_Sc} {cs : List pm_C} {s : MS} {kn : Nat × Nat} (hc : 72 < cs.length) (q : Nat) (hq : q < 12) : pu sc 122 [.ref 31, .int (nI q)] (mset cs s, kn) (pz (some (.int (rpN s q 4))) (mset cs s, kn)) := by
  refine w_iconst (v := 0) rfl (by decide) ?_
  refine w_istore_n rfl (Nat.le_of_ble_eq_true rfl) ?_
  refine w_iconst (v := 0) rfl (by decide) ?_
  refine w_istore_n rfl (Nat.le_of_ble_eq_true rfl) ?_
  exact l_m_rp hc q hq 4 0 _ (by omega) rfl rfl rfl rfl
set_option maxRecDepth 100000 in
set_option maxHeartbeats 4000000 in
theorem c_m_msg0 {sc : pm_Sc} {cs : List pm_C} {s : MS} {kn : Nat × Nat} (hc : 72 < cs.length) {z : MS} (hz : up s 0 0 0 = z) (x y : Int32) (h : x < 0 ∨ ¬ x < z.1 17 0) : pu sc 121 [.ref 31, .int x, .int y] (mset cs s, kn) (pz (some (.int (0))) (mset cs (up z 0 0 1), kn)) := by
  refine w_aload_n rfl rfl ?_
  refine w_iconst (v := 0) rfl (by decide) ?_
  refine w_mps rfl hc (by decide) rfl ?_
  rw [hz]
  refine w_iload_n rfl rfl ?_
  refine w_ifCond_lt rfl rfl (fun c6 => ?_) (fun c6 => ?_)
  · refine w_aload_n rfl rfl ?_
    refine w_iconst (v := 1) rfl (by decide) ?_
    refine w_virtual rfl rfl (mset_ob hc) ⟨(Nat.le_of_ble_eq_true rfl), rfl, (Nat.le_of_ble_eq_true rfl), (Nat.le_of_ble_eq_true rfl)⟩ rfl (Nat.le_of_ble_eq_true rfl) (c_m_refuse hc 1) ?_
    rintro _ _ ⟨rfl, rfl⟩
    refine ⟨_, rfl, ?_⟩
    exact w_ireturn rfl (by first | exact Or.inl rfl | exact Or.inr ⟨rfl, Or.inl rfl⟩ | exact Or.inr ⟨rfl, Or.inr rfl⟩ | exact Or.inr ⟨rfl, by assumption⟩) ⟨(by first | rfl | (simp only [c6, if_true, if_false, and_true, true_and, and_false, false_and, or_true, true_or, or_false, false_or, not_true_eq_false, not_false_eq_true, ite_self]; done) | (simp only [c6, if_true, if_false, and_true, true_and, and_false, false_and, or_true, true_or, or_false, false_or, not_true_eq_false, not_false_eq_true, ite_self]; rfl)), (by first | rfl | (simp only [c6, if_true, if_false, and_true, true_and, and_false, false_and, or_true, true_or, or_false, false_or, not_true_eq_false, not_false_eq_true, ite_self]; done) | (simp only [c6, if_true, if_false, and_true, true_and, and_false, false_and, or_true, true_or, or_false, false_or, not_true_eq_false, not_false_eq_true, ite_self]; rfl))⟩
  · refine w_iload_n rfl rfl ?_
    refine w_aload_n rfl rfl ?_
    refine w_getfield rfl (mset_ob hc) rfl ?_
    refine w_if_icmp_lt rfl rfl (fun c14 => ?_) (fun c14 => ?_)
    · exact absurd h (fun g => g.elim c6 (fun a => a c14))
    · refine w_aload_n rfl rfl ?_
      refine w_iconst (v := 1) rfl (by decide) ?_
      refine w_virtual rfl rfl (mset_ob hc) ⟨(Nat.le_of_ble_eq_true rfl), rfl, (Nat.le_of_ble_eq_true rfl), (Nat.le_of_ble_eq_true rfl)⟩ rfl (Nat.le_of_ble_eq_true rfl) (c_m_refuse hc 1) ?_
      rintro _ _ ⟨rfl, rfl⟩
      refine ⟨_, rfl, ?_⟩
      exact w_ireturn rfl (by first | exact Or.inl rfl | exact Or.inr ⟨rfl, Or.inl rfl⟩ | exact Or.inr ⟨rfl, Or.inr rfl⟩ | exact Or.inr ⟨rfl, by assumption⟩) ⟨(by first | rfl | (simp only [c6, c14, if_true, if_false, and_true, true_and, and_false, false_and, or_true, true_or, or_false, false_or, not_true_eq_false, not_false_eq_true, ite_self]; done) | (simp only [c6, c14, if_true, if_false, and_true, true_and, and_false, false_and, or_true, true_or, or_false, false_or, not_true_eq_false, not_false_eq_true, ite_self]; rfl)), (by first | rfl | (simp only [c6, c14, if_true, if_false, and_true, true_and, and_false, false_and, or_true, true_or, or_false, false_or, not_true_eq_false, not_false_eq_true, ite_self]; done) | (simp only [c6, c14, if_true, if_false, and_true, true_and, and_false, false_and, or_true, true_or, or_false, false_or, not_true_eq_false, not_false_eq_true, ite_self]; rfl))⟩
set_option maxRecDepth 100000 in
set_option maxHeartbeats 4000000 in
theorem c_m_msg1 {sc : pm_Sc} {cs : List pm_C} {s : MS} {kn : Nat × Nat} (hc : 72 < cs.length) {z : MS} (hz : up s 0 0 0 = z) (j : Nat) {m : Nat} (hm : z.1 17 0 = nI m) (h6 : m ≤ 600) (hj : j < m) (y : Int32) (hy : y.toInt < 0 ∨ 6 < y.toInt) : pu sc 121 [.ref 31, .int (nI j), .int y] (mset cs s, kn) (pz (some (.int (0))) (mset cs (up z 0 0 1), kn)) := by
  refine w_aload_n rfl rfl ?_
  refine w_iconst (v := 0) rfl (by decide) ?_
  refine w_mps rfl hc (by decide) rfl ?_
  rw [hz]
  refine w_iload_n rfl rfl ?_
  refine w_ifCond_lt rfl rfl (fun c6 => ?_) (fun c6 => ?_)
  · exact absurd c6 (nI_pos (by omega))
  · refine w_iload_n rfl rfl ?_
    refine w_aload_n rfl rfl ?_
    refine w_getfield rfl (mset_ob hc) rfl ?_
    refine w_if_icmp_lt rfl rfl (fun c14 => ?_) (fun c14 => ?_)
    · refine w_iload_n rfl rfl ?_
      refine w_tableOut rfl hy rfl ?_
      refine w_aload_n rfl rfl ?_
      refine w_iconst (v := 1) rfl (by decide) ?_
      refine w_virtual rfl rfl (mset_ob hc) ⟨(Nat.le_of_ble_eq_true rfl), rfl, (Nat.le_of_ble_eq_true rfl), (Nat.le_of_ble_eq_true rfl)⟩ rfl (Nat.le_of_ble_eq_true rfl) (c_m_refuse hc 1) ?_
      rintro _ _ ⟨rfl, rfl⟩
      refine ⟨_, rfl, ?_⟩
      exact w_ireturn rfl (by first | exact Or.inl rfl | exact Or.inr ⟨rfl, Or.inl rfl⟩ | exact Or.inr ⟨rfl, Or.inr rfl⟩ | exact Or.inr ⟨rfl, by assumption⟩) ⟨(by first | rfl | (simp only [c6, c14, if_true, if_false, and_true, true_and, and_false, false_and, or_true, true_or, or_false, false_or, not_true_eq_false, not_false_eq_true, ite_self]; done) | (simp only [c6, c14, if_true, if_false, and_true, true_and, and_false, false_and, or_true, true_or, or_false, false_or, not_true_eq_false, not_false_eq_true, ite_self]; rfl)), (by first | rfl | (simp only [c6, c14, if_true, if_false, and_true, true_and, and_false, false_and, or_true, true_or, or_false, false_or, not_true_eq_false, not_false_eq_true, ite_self]; done) | (simp only [c6, c14, if_true, if_false, and_true, true_and, and_false, false_and, or_true, true_or, or_false, false_or, not_true_eq_false, not_false_eq_true, ite_self]; rfl))⟩
    · exact absurd (by rw [hm]; exact nI_lt hj (by omega)) c14
set_option maxRecDepth 100000 in
set_option maxHeartbeats 4000000 in
theorem c_m_msgk0 {sc : pm_Sc} {cs : List pm_C} {s : MS} {kn : Nat × Nat} (hc : 72 < cs.length) {z : MS} (hz : up s 0 0 0 = z) (j : Nat) {m : Nat} (hm : z.1 17 0 = nI m) (h6 : m ≤ 600) (hj : j < m) : pu sc 121 [.ref 31, .int (nI j), .int 0] (mset cs s, kn) (pz (some (.int (v_msg z j 0))) (mset cs (z), kn)) := by
  refine w_aload_n rfl rfl ?_
  refine w_iconst (v := 0) rfl (by decide) ?_
  refine w_mps rfl hc (by decide) rfl ?_
  rw [hz]
  refine w_iload_n rfl rfl ?_
  refine w_ifCond_lt rfl rfl (fun c6 => ?_) (fun c6 => ?_)
  · exact absurd c6 (nI_pos (by omega))
  · refine w_iload_n rfl rfl ?_
    refine w_aload_n rfl rfl ?_
    refine w_getfield rfl (mset_ob hc) rfl ?_
    refine w_if_icmp_lt rfl rfl (fun c14 => ?_) (fun c14 => ?_)
    · refine w_iload_n rfl rfl ?_
      refine w_tableIn rfl (by decide) rfl rfl ?_
      refine w_aload_n rfl rfl ?_
      refine w_getfield rfl (mset_ob hc) rfl ?_
      refine w_iload_n rfl rfl ?_
      refine w_mil (k := 18) (j := j) rfl hc (by decide) rfl ⟨show j < 600 from by omega, by decide⟩ ?_
      exact w_ireturn rfl (by first | exact Or.inl rfl | exact Or.inr ⟨rfl, Or.inl rfl⟩ | exact Or.inr ⟨rfl, Or.inr rfl⟩ | exact Or.inr ⟨rfl, by assumption⟩) ⟨(by first | rfl | (simp only [c6, c14, if_true, if_false, and_true, true_and, and_false, false_and, or_true, true_or, or_false, false_or, not_true_eq_false, not_false_eq_true, ite_self]; done) | (simp only [c6, c14, if_true, if_false, and_true, true_and, and_false, false_and, or_true, true_or, or_false, false_or, not_true_eq_false, not_false_eq_true, ite_self]; rfl)), (by first | rfl | (simp only [c6, c14, if_true, if_false, and_true, true_and, and_false, false_and, or_true, true_or, or_false, false_or, not_true_eq_false, not_false_eq_true, ite_self]; done) | (simp only [c6, c14, if_true, if_false, and_true, true_and, and_false, false_and, or_true, true_or, or_false, false_or, not_true_eq_false, not_false_eq_true, ite_self]; rfl))⟩
    · exact absurd (by rw [hm]; exact nI_lt hj (by omega)) c14
set_option maxRecDepth 100000 in
set_option maxHeartbeats 4000000 in
theorem c_m_msgk1 {sc : pm_Sc} {cs : List pm_C} {s : MS} {kn : Nat × Nat} (hc : 72 < cs.length) {z : MS} (hz : up s 0 0 0 = z) (j : Nat) {m : Nat} (hm : z.1 17 0 = nI m) (h6 : m ≤ 600) (hj : j < m) : pu sc 121 [.ref 31, .int (nI j), .int 1] (mset cs s, kn) (pz (some (.int (v_msg z j 1))) (mset cs (z), kn)) := by
  refine w_aload_n rfl rfl ?_
  refine w_iconst (v := 0) rfl (by decide) ?_
  refine w_mps rfl hc (by decide) rfl ?_
  rw [hz]
  refine w_iload_n rfl rfl ?_
  refine w_ifCond_lt rfl rfl (fun c6 => ?_) (fun c6 => ?_)
  · exact absurd c6 (nI_pos (by omega))
  · refine w_iload_n rfl rfl ?_
    refine w_aload_n rfl rfl ?_
    refine w_getfield rfl (mset_ob hc) rfl ?_
    refine w_if_icmp_lt rfl rfl (fun c14 => ?_) (fun c14 => ?_)
    · refine w_iload_n rfl rfl ?_
      refine w_tableIn rfl (by decide) rfl rfl ?_
      refine w_aload_n rfl rfl ?_
      refine w_getfield rfl (mset_ob hc) rfl ?_
      refine w_iload_n rfl rfl ?_
      refine w_mil (k := 19) (j := j) rfl hc (by decide) rfl ⟨show j < 600 from by omega, by decide⟩ ?_
      exact w_ireturn rfl (by first | exact Or.inl rfl | exact Or.inr ⟨rfl, Or.inl rfl⟩ | exact Or.inr ⟨rfl, Or.inr rfl⟩ | exact Or.inr ⟨rfl, by assumption⟩) ⟨(by first | rfl | (simp only [c6, c14, if_true, if_false, and_true, true_and, and_false, false_and, or_true, true_or, or_false, false_or, not_true_eq_false, not_false_eq_true, ite_self]; done) | (simp only [c6, c14, if_true, if_false, and_true, true_and, and_false, false_and, or_true, true_or, or_false, false_or, not_true_eq_false, not_false_eq_true, ite_self]; rfl)), (by first | rfl | (simp only [c6, c14, if_true, if_false, and_true, true_and, and_false, false_and, or_true, true_or, or_false, false_or, not_true_eq_false, not_false_eq_true, ite_self]; done) | (simp only [c6, c14, if_true, if_false, and_true, true_and, and_false, false_and, or_true, true_or, or_false, false_or, not_true_eq_false, not_false_eq_true, ite_self]; rfl))⟩
    · exact absurd (by rw [hm]; exact nI_lt hj (by omega)) c14
set_option maxRecDepth 100000 in
set_option maxHeartbeats 4000000 in
theorem c_m_msgk2 {sc : pm_Sc} {cs : List pm_C} {s : MS} {kn : Nat × Nat} (hc : 72 < cs.length) {z : MS} (hz : up s 0 0 0 = z) (j : Nat) {m : Nat} (hm : z.1 17 0 = nI m) (h6 : m ≤ 600) (hj : j < m) : pu sc 121 [.ref 31, .int (nI j), .int 2] (mset cs s, kn) (pz (some (.int (v_msg z j 2))) (mset cs (z), kn)) := by
  refine w_aload_n rfl rfl ?_
  refine w_iconst (v := 0) rfl (by decide) ?_
  refine w_mps rfl hc (by decide) rfl ?_
  rw [hz]
  refine w_iload_n rfl rfl ?_
  refine w_ifCond_lt rfl rfl (fun c6 => ?_) (fun c6 => ?_)
  · exact absurd c6 (nI_pos (by omega))
  · refine w_iload_n rfl rfl ?_
    refine w_aload_n rfl rfl ?_
    refine w_getfield rfl (mset_ob hc) rfl ?_
    refine w_if_icmp_lt rfl rfl (fun c14 => ?_) (fun c14 => ?_)
    · refine w_iload_n rfl rfl ?_
      refine w_tableIn rfl (by decide) rfl rfl ?_
      refine w_aload_n rfl rfl ?_
      refine w_getfield rfl (mset_ob hc) rfl ?_
      refine w_iload_n rfl rfl ?_
      refine w_mil (k := 20) (j := j) rfl hc (by decide) rfl ⟨show j < 600 from by omega, by decide⟩ ?_
      exact w_ireturn rfl (by first | exact Or.inl rfl | exact Or.inr ⟨rfl, Or.inl rfl⟩ | exact Or.inr ⟨rfl, Or.inr rfl⟩ | exact Or.inr ⟨rfl, by assumption⟩) ⟨(by first | rfl | (simp only [c6, c14, if_true, if_false, and_true, true_and, and_false, false_and, or_true, true_or, or_false, false_or, not_true_eq_false, not_false_eq_true, ite_self]; done) | (simp only [c6, c14, if_true, if_false, and_true, true_and, and_false, false_and, or_true, true_or, or_false, false_or, not_true_eq_false, not_false_eq_true, ite_self]; rfl)), (by first | rfl | (simp only [c6, c14, if_true, if_false, and_true, true_and, and_false, false_and, or_true, true_or, or_false, false_or, not_true_eq_false, not_false_eq_true, ite_self]; done) | (simp only [c6, c14, if_true, if_false, and_true, true_and, and_false, false_and, or_true, true_or, or_false, false_or, not_true_eq_false, not_false_eq_true, ite_self]; rfl))⟩
    · exact absurd (by rw [hm]; exact nI_lt hj (by omega)) c14
set_option maxRecDepth 100000 in
set_option maxHeartbeats 4000000 in
theorem c_m_msgk3 {sc : pm_Sc} {cs : List pm_C} {s : MS} {kn : Nat × Nat} (hc : 72 < cs.length) {z : MS} (hz : up s 0 0 0 = z) (j : Nat) {m : Nat} (hm : z.1 17 0 = nI m) (h6 : m ≤ 600) (hj : j < m) : pu sc 121 [.ref 31, .int (nI j), .int 3] (mset cs s, kn) (pz (some (.int (v_msg z j 3))) (mset cs (z), kn)) := by
  refine w_aload_n rfl rfl ?_
  refine w_iconst (v := 0) rfl (by decide) ?_
  refine w_mps rfl hc (by decide) rfl ?_
  rw [hz]
  refine w_iload_n rfl rfl ?_
  refine w_ifCond_lt rfl rfl (fun c6 => ?_) (fun c6 => ?_)
  · exact absurd c6 (nI_pos (by omega))
  · refine w_iload_n rfl rfl ?_
    refine w_aload_n rfl rfl ?_
    refine w_getfield rfl (mset_ob hc) rfl ?_
    refine w_if_icmp_lt rfl rfl (fun c14 => ?_) (fun c14 => ?_)
    · refine w_iload_n rfl rfl ?_
      refine w_tableIn rfl (by decide) rfl rfl ?_
      refine w_aload_n rfl rfl ?_
      refine w_getfield rfl (mset_ob hc) rfl ?_
      refine w_iload_n rfl rfl ?_
      refine w_mil (k := 21) (j := j) rfl hc (by decide) rfl ⟨show j < 600 from by omega, by decide⟩ ?_
      exact w_ireturn rfl (by first | exact Or.inl rfl | exact Or.inr ⟨rfl, Or.inl rfl⟩ | exact Or.inr ⟨rfl, Or.inr rfl⟩ | exact Or.inr ⟨rfl, by assumption⟩) ⟨(by first | rfl | (simp only [c6, c14, if_true, if_false, and_true, true_and, and_false, false_and, or_true, true_or, or_false, false_or, not_true_eq_false, not_false_eq_true, ite_self]; done) | (simp only [c6, c14, if_true, if_false, and_true, true_and, and_false, false_and, or_true, true_or, or_false, false_or, not_true_eq_false, not_false_eq_true, ite_self]; rfl)), (by first | rfl | (simp only [c6, c14, if_true, if_false, and_true, true_and, and_false, false_and, or_true, true_or, or_false, false_or, not_true_eq_false, not_false_eq_true, ite_self]; done) | (simp only [c6, c14, if_true, if_false, and_true, true_and, and_false, false_and, or_true, true_or, or_false, false_or, not_true_eq_false, not_false_eq_true, ite_self]; rfl))⟩
    · exact absurd (by rw [hm]; exact nI_lt hj (by omega)) c14
set_option maxRecDepth 100000 in
set_option maxHeartbeats 4000000 in
theorem c_m_msgk4 {sc : pm_Sc} {cs : List pm_C} {s : MS} {kn : Nat × Nat} (hc : 72 < cs.length) {z : MS} (hz : up s 0 0 0 = z) (j : Nat) {m : Nat} (hm : z.1 17 0 = nI m) (h6 : m ≤ 600) (hj : j < m) : pu sc 121 [.ref 31, .int (nI j), .int 4] (mset cs s, kn) (pz (some (.int (v_msg z j 4))) (mset cs (z), kn)) := by
  refine w_aload_n rfl rfl ?_
  refine w_iconst (v := 0) rfl (by decide) ?_
  refine w_mps rfl hc (by decide) rfl ?_
  rw [hz]
  refine w_iload_n rfl rfl ?_
  refine w_ifCond_lt rfl rfl (fun c6 => ?_) (fun c6 => ?_)
  · exact absurd c6 (nI_pos (by omega))
  · refine w_iload_n rfl rfl ?_
    refine w_aload_n rfl rfl ?_
    refine w_getfield rfl (mset_ob hc) rfl ?_
    refine w_if_icmp_lt rfl rfl (fun c14 => ?_) (fun c14 => ?_)
    · refine w_iload_n rfl rfl ?_
      refine w_tableIn rfl (by decide) rfl rfl ?_
      refine w_aload_n rfl rfl ?_
      refine w_getfield rfl (mset_ob hc) rfl ?_
      refine w_iload_n rfl rfl ?_
      refine w_mil (k := 23) (j := j) rfl hc (by decide) rfl ⟨show j < 600 from by omega, by decide⟩ ?_
      exact w_ireturn rfl (by first | exact Or.inl rfl | exact Or.inr ⟨rfl, Or.inl rfl⟩ | exact Or.inr ⟨rfl, Or.inr rfl⟩ | exact Or.inr ⟨rfl, by assumption⟩) ⟨(by first | rfl | (simp only [c6, c14, if_true, if_false, and_true, true_and, and_false, false_and, or_true, true_or, or_false, false_or, not_true_eq_false, not_false_eq_true, ite_self]; done) | (simp only [c6, c14, if_true, if_false, and_true, true_and, and_false, false_and, or_true, true_or, or_false, false_or, not_true_eq_false, not_false_eq_true, ite_self]; rfl)), (by first | rfl | (simp only [c6, c14, if_true, if_false, and_true, true_and, and_false, false_and, or_true, true_or, or_false, false_or, not_true_eq_false, not_false_eq_true, ite_self]; done) | (simp only [c6, c14, if_true, if_false, and_true, true_and, and_false, false_and, or_true, true_or, or_false, false_or, not_true_eq_false, not_false_eq_true, ite_self]; rfl))⟩
    · exact absurd (by rw [hm]; exact nI_lt hj (by omega)) c14
set_option maxRecDepth 100000 in
set_option maxHeartbeats 4000000 in
theorem c_m_msgk5 {sc : pm_Sc} {cs : List pm_C} {s : MS} {kn : Nat × Nat} (hc : 72 < cs.length) {z : MS} (hz : up s 0 0 0 = z) (j : Nat) {m : Nat} (hm : z.1 17 0 = nI m) (h6 : m ≤ 600) (hj : j < m) : pu sc 121 [.ref 31, .int (nI j), .int 5] (mset cs s, kn) (pz (some (.int (v_msg z j 5))) (mset cs (z), kn)) := by
  refine w_aload_n rfl rfl ?_
  refine w_iconst (v := 0) rfl (by decide) ?_
  refine w_mps rfl hc (by decide) rfl ?_
  rw [hz]
  refine w_iload_n rfl rfl ?_
  refine w_ifCond_lt rfl rfl (fun c6 => ?_) (fun c6 => ?_)
  · exact absurd c6 (nI_pos (by omega))
  · refine w_iload_n rfl rfl ?_
    refine w_aload_n rfl rfl ?_
    refine w_getfield rfl (mset_ob hc) rfl ?_
    refine w_if_icmp_lt rfl rfl (fun c14 => ?_) (fun c14 => ?_)
    · refine w_iload_n rfl rfl ?_
      refine w_tableIn rfl (by decide) rfl rfl ?_
      refine w_aload_n rfl rfl ?_
      refine w_getfield rfl (mset_ob hc) rfl ?_
      refine w_iload_n rfl rfl ?_
      refine w_mil (k := 22) (j := j) rfl hc (by decide) rfl ⟨show j < 600 from by omega, by decide⟩ ?_
      exact w_ireturn rfl (by first | exact Or.inl rfl | exact Or.inr ⟨rfl, Or.inl rfl⟩ | exact Or.inr ⟨rfl, Or.inr rfl⟩ | exact Or.inr ⟨rfl, by assumption⟩) ⟨(by first | rfl | (simp only [c6, c14, if_true, if_false, and_true, true_and, and_false, false_and, or_true, true_or, or_false, false_or, not_true_eq_false, not_false_eq_true, ite_self]; done) | (simp only [c6, c14, if_true, if_false, and_true, true_and, and_false, false_and, or_true, true_or, or_false, false_or, not_true_eq_false, not_false_eq_true, ite_self]; rfl)), (by first | rfl | (simp only [c6, c14, if_true, if_false, and_true, true_and, and_false, false_and, or_true, true_or, or_false, false_or, not_true_eq_false, not_false_eq_true, ite_self]; done) | (simp only [c6, c14, if_true, if_false, and_true, true_and, and_false, false_and, or_true, true_or, or_false, false_or, not_true_eq_false, not_false_eq_true, ite_self]; rfl))⟩
    · exact absurd (by rw [hm]; exact nI_lt hj (by omega)) c14
set_option maxRecDepth 100000 in
set_option maxHeartbeats 4000000 in
theorem c_m_msgk6 {sc : pm_Sc} {cs : List pm_C} {s : MS} {kn : Nat × Nat} (hc : 72 < cs.length) {z : MS} (hz : up s 0 0 0 = z) (j : Nat) {m : Nat} (hm : z.1 17 0 = nI m) (h6 : m ≤ 600) (hj : j < m) : pu sc 121 [.ref 31, .int (nI j), .int 6] (mset cs s, kn) (pz (some (.int (v_msg z j 6))) (mset cs (z), kn)) := by
  refine w_aload_n rfl rfl ?_
  refine w_iconst (v := 0) rfl (by decide) ?_
  refine w_mps rfl hc (by decide) rfl ?_
  rw [hz]
  refine w_iload_n rfl rfl ?_
  refine w_ifCond_lt rfl rfl (fun c6 => ?_) (fun c6 => ?_)
  · exact absurd c6 (nI_pos (by omega))
  · refine w_iload_n rfl rfl ?_
    refine w_aload_n rfl rfl ?_
    refine w_getfield rfl (mset_ob hc) rfl ?_
    refine w_if_icmp_lt rfl rfl (fun c14 => ?_) (fun c14 => ?_)
    · refine w_iload_n rfl rfl ?_
      refine w_tableIn rfl (by decide) rfl rfl ?_
      refine w_aload_n rfl rfl ?_
      refine w_getfield rfl (mset_ob hc) rfl ?_
      refine w_iload_n rfl rfl ?_
      refine w_mil (k := 28) (j := j) rfl hc (by decide) rfl ⟨show j < 600 from by omega, by decide⟩ ?_
      exact w_ireturn rfl (by first | exact Or.inl rfl | exact Or.inr ⟨rfl, Or.inl rfl⟩ | exact Or.inr ⟨rfl, Or.inr rfl⟩ | exact Or.inr ⟨rfl, by assumption⟩) ⟨(by first | rfl | (simp only [c6, c14, if_true, if_false, and_true, true_and, and_false, false_and, or_true, true_or, or_false, false_or, not_true_eq_false, not_false_eq_true, ite_self]; done) | (simp only [c6, c14, if_true, if_false, and_true, true_and, and_false, false_and, or_true, true_or, or_false, false_or, not_true_eq_false, not_false_eq_true, ite_self]; rfl)), (by first | rfl | (simp only [c6, c14, if_true, if_false, and_true, true_and, and_false, false_and, or_true, true_or, or_false, false_or, not_true_eq_false, not_false_eq_true, ite_self]; done) | (simp only [c6, c14, if_true, if_false, and_true, true_and, and_false, false_and, or_true, true_or, or_false, false_or, not_true_eq_false, not_false_eq_true, ite_self]; rfl))⟩
    · exact absurd (by rw [hm]; exact nI_lt hj (by omega)) c14
set_option maxRecDepth 100000 in
set_option maxHeartbeats 4000000 in
theorem c_m_req0 {sc : pm_Sc} {cs : List pm_C} {s : MS} {kn : Nat × Nat} (hc : 72 < cs.length) {z : MS} (hz : up s 0 0 0 = z) (x y : Int32) (h : ¬ (¬ x < 0 ∧ ¬ z.1 2 0 ≤ x)) : pu sc 123 [.ref 31, .int x, .int y] (mset cs s, kn) (pz (some (.int (0))) (mset cs (up z 0 0 1), kn)) := by
  refine w_aload_n rfl rfl ?_
  refine w_iconst (v := 0) rfl (by decide) ?_
  refine w_mps rfl hc (by decide) rfl ?_
  rw [hz]
  refine w_aload_n rfl rfl ?_
  refine w_iload_n rfl rfl ?_
  refine w_virtual rfl rfl (mset_ob hc) ⟨(Nat.le_of_ble_eq_true rfl), rfl, (Nat.le_of_ble_eq_true rfl), (Nat.le_of_ble_eq_true rfl)⟩ rfl (Nat.le_of_ble_eq_true rfl) (c_m_isReq hc x) ?_
  rintro _ _ ⟨rfl, rfl⟩
  refine ⟨_, rfl, ?_⟩
  refine w_ifCond_ne rfl rfl (fun c10 => ?_) (fun c10 => ?_)
  · replace c10 := b01_t c10
    exact absurd c10 h
  · replace c10 := b01_f c10
    refine w_aload_n rfl rfl ?_
    refine w_iconst (v := 1) rfl (by decide) ?_
    refine w_virtual rfl rfl (mset_ob hc) ⟨(Nat.le_of_ble_eq_true rfl), rfl, (Nat.le_of_ble_eq_true rfl), (Nat.le_of_ble_eq_true rfl)⟩ rfl (Nat.le_of_ble_eq_true rfl) (c_m_refuse hc 1) ?_
    rintro _ _ ⟨rfl, rfl⟩
    refine ⟨_, rfl, ?_⟩
    exact w_ireturn rfl (by first | exact Or.inl rfl | exact Or.inr ⟨rfl, Or.inl rfl⟩ | exact Or.inr ⟨rfl, Or.inr rfl⟩ | exact Or.inr ⟨rfl, by assumption⟩) ⟨(by first | rfl | (simp only [c10, if_true, if_false, and_true, true_and, and_false, false_and, or_true, true_or, or_false, false_or, not_true_eq_false, not_false_eq_true, ite_self]; done) | (simp only [c10, if_true, if_false, and_true, true_and, and_false, false_and, or_true, true_or, or_false, false_or, not_true_eq_false, not_false_eq_true, ite_self]; rfl)), (by first | rfl | (simp only [c10, if_true, if_false, and_true, true_and, and_false, false_and, or_true, true_or, or_false, false_or, not_true_eq_false, not_false_eq_true, ite_self]; done) | (simp only [c10, if_true, if_false, and_true, true_and, and_false, false_and, or_true, true_or, or_false, false_or, not_true_eq_false, not_false_eq_true, ite_self]; rfl))⟩
set_option maxRecDepth 100000 in
set_option maxHeartbeats 4000000 in
theorem c_m_req1 {sc : pm_Sc} {cs : List pm_C} {s : MS} {kn : Nat × Nat} (hc : 72 < cs.length) {z : MS} (hz : up s 0 0 0 = z) (q : Nat) {n : Nat} (hqn : z.1 2 0 = nI n) (hn12 : n ≤ 12) (hq : q < n) (y : Int32) (hy : y.toInt < 0 ∨ 4 < y.toInt) : pu sc 123 [.ref 31, .int (nI q), .int y] (mset cs s, kn) (pz (some (.int (0))) (mset cs (up z 0 0 1), kn)) := by
  refine w_aload_n rfl rfl ?_
  refine w_iconst (v := 0) rfl (by decide) ?_
  refine w_mps rfl hc (by decide) rfl ?_
  rw [hz]
  refine w_aload_n rfl rfl ?_
  refine w_iload_n rfl rfl ?_
  refine w_virtual rfl rfl (mset_ob hc) ⟨(Nat.le_of_ble_eq_true rfl), rfl, (Nat.le_of_ble_eq_true rfl), (Nat.le_of_ble_eq_true rfl)⟩ rfl (Nat.le_of_ble_eq_true rfl) (c_m_isReq hc (nI q)) ?_
  rintro _ _ ⟨rfl, rfl⟩
  refine ⟨_, rfl, ?_⟩
  refine w_ifCond_ne rfl rfl (fun c10 => ?_) (fun c10 => ?_)
  · replace c10 := b01_t c10
    refine w_iload_n rfl rfl ?_
    refine w_tableOut rfl hy rfl ?_
    refine w_aload_n rfl rfl ?_
    refine w_iconst (v := 1) rfl (by decide) ?_
    refine w_virtual rfl rfl (mset_ob hc) ⟨(Nat.le_of_ble_eq_true rfl), rfl, (Nat.le_of_ble_eq_true rfl), (Nat.le_of_ble_eq_true rfl)⟩ rfl (Nat.le_of_ble_eq_true rfl) (c_m_refuse hc 1) ?_
    rintro _ _ ⟨rfl, rfl⟩
    refine ⟨_, rfl, ?_⟩
    exact w_ireturn rfl (by first | exact Or.inl rfl | exact Or.inr ⟨rfl, Or.inl rfl⟩ | exact Or.inr ⟨rfl, Or.inr rfl⟩ | exact Or.inr ⟨rfl, by assumption⟩) ⟨(by first | rfl | (simp only [c10, if_true, if_false, and_true, true_and, and_false, false_and, or_true, true_or, or_false, false_or, not_true_eq_false, not_false_eq_true, ite_self]; done) | (simp only [c10, if_true, if_false, and_true, true_and, and_false, false_and, or_true, true_or, or_false, false_or, not_true_eq_false, not_false_eq_true, ite_self]; rfl)), (by first | rfl | (simp only [c10, if_true, if_false, and_true, true_and, and_false, false_and, or_true, true_or, or_false, false_or, not_true_eq_false, not_false_eq_true, ite_self]; done) | (simp only [c10, if_true, if_false, and_true, true_and, and_false, false_and, or_true, true_or, or_false, false_or, not_true_eq_false, not_false_eq_true, ite_self]; rfl))⟩
  · replace c10 := b01_f c10
    exact absurd ⟨nI_pos (by omega), by rw [hqn]; exact nI_ge hq (by omega)⟩ c10
set_option maxRecDepth 100000 in
set_option maxHeartbeats 4000000 in
theorem c_m_reqk0 {sc : pm_Sc} {cs : List pm_C} {s : MS} {kn : Nat × Nat} (hc : 72 < cs.length) {z : MS} (hz : up s 0 0 0 = z) (q : Nat) {n : Nat} (hqn : z.1 2 0 = nI n) (hn12 : n ≤ 12) (hq : q < n) : pu sc 123 [.ref 31, .int (nI q), .int 0] (mset cs s, kn) (pz (some (.int (v_req z q 0))) (mset cs (z), kn)) := by
  refine w_aload_n rfl rfl ?_
  refine w_iconst (v := 0) rfl (by decide) ?_
  refine w_mps rfl hc (by decide) rfl ?_
  rw [hz]
  refine w_aload_n rfl rfl ?_
  refine w_iload_n rfl rfl ?_
  refine w_virtual rfl rfl (mset_ob hc) ⟨(Nat.le_of_ble_eq_true rfl), rfl, (Nat.le_of_ble_eq_true rfl), (Nat.le_of_ble_eq_true rfl)⟩ rfl (Nat.le_of_ble_eq_true rfl) (c_m_isReq hc (nI q)) ?_
  rintro _ _ ⟨rfl, rfl⟩
  refine ⟨_, rfl, ?_⟩
  refine w_ifCond_ne rfl rfl (fun c10 => ?_) (fun c10 => ?_)
  · replace c10 := b01_t c10
    refine w_iload_n rfl rfl ?_
    refine w_tableIn rfl (by decide) rfl rfl ?_
    refine w_aload_n rfl rfl ?_
    refine w_getfield rfl (mset_ob hc) rfl ?_
    refine w_iload_n rfl rfl ?_
    refine w_mbl (k := 42) (j := q) rfl hc (by decide) rfl ⟨show q < 12 from by omega, by decide⟩ ?_
    refine w_ifCond_eq rfl rfl (fun c62 => ?_) (fun c62 => ?_)
    · refine w_iconst (v := 1) rfl (by decide) ?_
      exact w_ireturn rfl (Or.inl rfl) ⟨by show _ = Sum.inl (some (Value.int (if z.1 42 q = 0 then 1 else 2))); rw [if_pos c62], rfl⟩
    · refine w_iconst (v := 2) rfl (by decide) ?_
      refine w_goto rfl rfl ?_
      exact w_ireturn rfl (Or.inl rfl) ⟨by show _ = Sum.inl (some (Value.int (if z.1 42 q = 0 then 1 else 2))); rw [if_neg c62], rfl⟩
  · replace c10 := b01_f c10
    exact absurd ⟨nI_pos (by omega), by rw [hqn]; exact nI_ge hq (by omega)⟩ c10
set_option maxRecDepth 100000 in
set_option maxHeartbeats 4000000 in
theorem c_m_reqk1 {sc : pm_Sc} {cs : List pm_C} {s : MS} {kn : Nat × Nat} (hc : 72 < cs.length) {z : MS} (hz : up s 0 0 0 = z) (q : Nat) {n : Nat} (hqn : z.1 2 0 = nI n) (hn12 : n ≤ 12) (hq : q < n) : pu sc 123 [.ref 31, .int (nI q), .int 1] (mset cs s, kn) (pz (some (.int (v_req z q 1))) (mset cs (z), kn)) := by
  refine w_aload_n rfl rfl ?_
  refine w_iconst (v := 0) rfl (by decide) ?_
  refine w_mps rfl hc (by decide) rfl ?_
  rw [hz]
  refine w_aload_n rfl rfl ?_
  refine w_iload_n rfl rfl ?_
  refine w_virtual rfl rfl (mset_ob hc) ⟨(Nat.le_of_ble_eq_true rfl), rfl, (Nat.le_of_ble_eq_true rfl), (Nat.le_of_ble_eq_true rfl)⟩ rfl (Nat.le_of_ble_eq_true rfl) (c_m_isReq hc (nI q)) ?_
  rintro _ _ ⟨rfl, rfl⟩
  refine ⟨_, rfl, ?_⟩
  refine w_ifCond_ne rfl rfl (fun c10 => ?_) (fun c10 => ?_)
  · replace c10 := b01_t c10
    refine w_iload_n rfl rfl ?_
    refine w_tableIn rfl (by decide) rfl rfl ?_
    refine w_aload_n rfl rfl ?_
    refine w_getfield rfl (mset_ob hc) rfl ?_
    refine w_iload_n rfl rfl ?_
    refine w_mil (k := 43) (j := q) rfl hc (by decide) rfl ⟨show q < 12 from by omega, by decide⟩ ?_
    exact w_ireturn rfl (Or.inl rfl) ⟨by rfl, rfl⟩
  · replace c10 := b01_f c10
    exact absurd ⟨nI_pos (by omega), by rw [hqn]; exact nI_ge hq (by omega)⟩ c10
set_option maxRecDepth 100000 in
set_option maxHeartbeats 4000000 in
theorem c_m_reqk2 {sc : pm_Sc} {cs : List pm_C} {s : MS} {kn : Nat × Nat} (hc : 72 < cs.length) {z : MS} (hz : up s 0 0 0 = z) (q : Nat) {n : Nat} (hqn : z.1 2 0 = nI n) (hn12 : n ≤ 12) (hq : q < n) : pu sc 123 [.ref 31, .int (nI q), .int 2] (mset cs s, kn) (pz (some (.int (v_req z q 2))) (mset cs (z), kn)) := by
  refine w_aload_n rfl rfl ?_
  refine w_iconst (v := 0) rfl (by decide) ?_
  refine w_mps rfl hc (by decide) rfl ?_
  rw [hz]
  refine w_aload_n rfl rfl ?_
  refine w_iload_n rfl rfl ?_
  refine w_virtual rfl rfl (mset_ob hc) ⟨(Nat.le_of_ble_eq_true rfl), rfl, (Nat.le_of_ble_eq_true rfl), (Nat.le_of_ble_eq_true rfl)⟩ rfl (Nat.le_of_ble_eq_true rfl) (c_m_isReq hc (nI q)) ?_
  rintro _ _ ⟨rfl, rfl⟩
  refine ⟨_, rfl, ?_⟩
  refine w_ifCond_ne rfl rfl (fun c10 => ?_) (fun c10 => ?_)
  · replace c10 := b01_t c10
    refine w_iload_n rfl rfl ?_
    refine w_tableIn rfl (by decide) rfl rfl ?_
    refine w_aload_n rfl rfl ?_
    refine w_getfield rfl (mset_ob hc) rfl ?_
    refine w_iload_n rfl rfl ?_
    refine w_mil (k := 44) (j := q) rfl hc (by decide) rfl ⟨show q < 12 from by omega, by decide⟩ ?_
    exact w_ireturn rfl (Or.inl rfl) ⟨by rfl, rfl⟩
  · replace c10 := b01_f c10
    exact absurd ⟨nI_pos (by omega), by rw [hqn]; exact nI_ge hq (by omega)⟩ c10
set_option maxRecDepth 100000 in
set_option maxHeartbeats 4000000 in
theorem c_m_reqk3 {sc : pm_Sc} {cs : List pm_C} {s : MS} {kn : Nat × Nat} (hc : 72 < cs.length) {z : MS} (hz : up s 0 0 0 = z) (q : Nat) {n : Nat} (hqn : z.1 2 0 = nI n) (hn12 : n ≤ 12) (hq : q < n) : pu sc 123 [.ref 31, .int (nI q), .int 3] (mset cs s, kn) (pz (some (.int (v_req z q 3))) (mset cs (z), kn)) := by
  refine w_aload_n rfl rfl ?_
  refine w_iconst (v := 0) rfl (by decide) ?_
  refine w_mps rfl hc (by decide) rfl ?_
  rw [hz]
  refine w_aload_n rfl rfl ?_
  refine w_iload_n rfl rfl ?_
  refine w_virtual rfl rfl (mset_ob hc) ⟨(Nat.le_of_ble_eq_true rfl), rfl, (Nat.le_of_ble_eq_true rfl), (Nat.le_of_ble_eq_true rfl)⟩ rfl (Nat.le_of_ble_eq_true rfl) (c_m_isReq hc (nI q)) ?_
  rintro _ _ ⟨rfl, rfl⟩
  refine ⟨_, rfl, ?_⟩
  refine w_ifCond_ne rfl rfl (fun c10 => ?_) (fun c10 => ?_)
  · replace c10 := b01_t c10
    refine w_iload_n rfl rfl ?_
    refine w_tableIn rfl (by decide) rfl rfl ?_
    refine w_aload_n rfl rfl ?_
    refine w_iload_n rfl rfl ?_
    refine w_virtual rfl rfl (mset_ob hc) ⟨(Nat.le_of_ble_eq_true rfl), rfl, (Nat.le_of_ble_eq_true rfl), (Nat.le_of_ble_eq_true rfl)⟩ rfl (Nat.le_of_ble_eq_true rfl) (c_m_rp hc q (by omega)) ?_
    rintro _ _ ⟨rfl, rfl⟩
    refine ⟨_, rfl, ?_⟩
    exact w_ireturn rfl (Or.inl rfl) ⟨by rfl, rfl⟩
  · replace c10 := b01_f c10
    exact absurd ⟨nI_pos (by omega), by rw [hqn]; exact nI_ge hq (by omega)⟩ c10
set_option maxRecDepth 100000 in
set_option maxHeartbeats 4000000 in
theorem c_m_reqk4 {sc : pm_Sc} {cs : List pm_C} {s : MS} {kn : Nat × Nat} (hc : 72 < cs.length) {z : MS} (hz : up s 0 0 0 = z) (q : Nat) {n : Nat} (hqn : z.1 2 0 = nI n) (hn12 : n ≤ 12) (hq : q < n) : pu sc 123 [.ref 31, .int (nI q), .int 4] (mset cs s, kn) (pz (some (.int (v_req z q 4))) (mset cs (z), kn)) := by
  refine w_aload_n rfl rfl ?_
  refine w_iconst (v := 0) rfl (by decide) ?_
  refine w_mps rfl hc (by decide) rfl ?_
  rw [hz]
  refine w_aload_n rfl rfl ?_
  refine w_iload_n rfl rfl ?_
  refine w_virtual rfl rfl (mset_ob hc) ⟨(Nat.le_of_ble_eq_true rfl), rfl, (Nat.le_of_ble_eq_true rfl), (Nat.le_of_ble_eq_true rfl)⟩ rfl (Nat.le_of_ble_eq_true rfl) (c_m_isReq hc (nI q)) ?_
  rintro _ _ ⟨rfl, rfl⟩
  refine ⟨_, rfl, ?_⟩
  refine w_ifCond_ne rfl rfl (fun c10 => ?_) (fun c10 => ?_)
  · replace c10 := b01_t c10
    refine w_iload_n rfl rfl ?_
    refine w_tableIn rfl (by decide) rfl rfl ?_
    refine w_aload_n rfl rfl ?_
    refine w_getfield rfl (mset_ob hc) rfl ?_
    refine w_iload_n rfl rfl ?_
    refine w_mbl (k := 37) (j := q) rfl hc (by decide) rfl ⟨show q < 12 from by omega, by decide⟩ ?_
    refine w_ifCond_eq rfl rfl (fun c97 => ?_) (fun c97 => ?_)
    · refine w_iconst (v := 0) rfl (by decide) ?_
      exact w_ireturn rfl (Or.inl rfl) ⟨by show _ = Sum.inl (some (Value.int (if z.1 37 q = 0 then 0 else 1))); rw [if_pos c97], rfl⟩
    · refine w_iconst (v := 1) rfl (by decide) ?_
      refine w_goto rfl rfl ?_
      exact w_ireturn rfl (Or.inl rfl) ⟨by show _ = Sum.inl (some (Value.int (if z.1 37 q = 0 then 0 else 1))); rw [if_neg c97], rfl⟩
  · replace c10 := b01_f c10
    exact absurd ⟨nI_pos (by omega), by rw [hqn]; exact nI_ge hq (by omega)⟩ c10
set_option maxRecDepth 100000 in
set_option maxHeartbeats 4000000 in
theorem c_m_rep0 {sc : pm_Sc} {cs : List pm_C} {s : MS} {kn : Nat × Nat} (hc : 72 < cs.length) {z : MS} (hz : up s 0 0 0 = z) (x y : Int32) (h : ¬ (¬ x < 0 ∧ ¬ 3 < x)) : pu sc 119 [.ref 31, .int x, .int y] (mset cs s, kn) (pz (some (.int (0))) (mset cs (up z 0 0 1), kn)) := by
  refine w_aload_n rfl rfl ?_
  refine w_iconst (v := 0) rfl (by decide) ?_
  refine w_mps rfl hc (by decide) rfl ?_
  rw [hz]
  refine w_iload_n rfl rfl ?_
  refine w_static rfl (by decide) rfl ⟨(Nat.le_of_ble_eq_true rfl), (Nat.le_of_ble_eq_true rfl), (Nat.le_of_ble_eq_true rfl)⟩ rfl (Nat.le_of_ble_eq_true rfl) (c_m_isRep x) ?_
  rintro _ _ ⟨rfl, rfl⟩
  refine ⟨_, rfl, ?_⟩
  refine w_ifCond_ne rfl rfl (fun c9 => ?_) (fun c9 => ?_)
  · replace c9 := b01_t c9
    exact absurd c9 h
  · replace c9 := b01_f c9
    refine w_aload_n rfl rfl ?_
    refine w_iconst (v := 1) rfl (by decide) ?_
    refine w_virtual rfl rfl (mset_ob hc) ⟨(Nat.le_of_ble_eq_true rfl), rfl, (Nat.le_of_ble_eq_true rfl), (Nat.le_of_ble_eq_true rfl)⟩ rfl (Nat.le_of_ble_eq_true rfl) (c_m_refuse hc 1) ?_
    rintro _ _ ⟨rfl, rfl⟩
    refine ⟨_, rfl, ?_⟩
    exact w_ireturn rfl (by first | exact Or.inl rfl | exact Or.inr ⟨rfl, Or.inl rfl⟩ | exact Or.inr ⟨rfl, Or.inr rfl⟩ | exact Or.inr ⟨rfl, by assumption⟩) ⟨(by first | rfl | (simp only [c9, if_true, if_false, and_true, true_and, and_false, false_and, or_true, true_or, or_false, false_or, not_true_eq_false, not_false_eq_true, ite_self]; done) | (simp only [c9, if_true, if_false, and_true, true_and, and_false, false_and, or_true, true_or, or_false, false_or, not_true_eq_false, not_false_eq_true, ite_self]; rfl)), (by first | rfl | (simp only [c9, if_true, if_false, and_true, true_and, and_false, false_and, or_true, true_or, or_false, false_or, not_true_eq_false, not_false_eq_true, ite_self]; done) | (simp only [c9, if_true, if_false, and_true, true_and, and_false, false_and, or_true, true_or, or_false, false_or, not_true_eq_false, not_false_eq_true, ite_self]; rfl))⟩
set_option maxRecDepth 100000 in
set_option maxHeartbeats 4000000 in
theorem c_m_repP {sc : pm_Sc} {cs : List pm_C} {s : MS} {kn : Nat × Nat} (hc : 72 < cs.length) {z : MS} (hz : up s 0 0 0 = z) (r : Nat) (hr : r < 4) {l : Nat} (hln : z.1 7 r = nI l) (hl : l ≤ 12) (k : Nat) (hk : k < 12) : pu sc 119 [.ref 31, .int (nI r), .int (nI ((10 + k)))] (mset cs s, kn) (pz (some (.int (if k < l then m_at (z.2 8 r) (nI k) else -1))) (mset cs (z), kn)) := by
  have hk1 : 10 + k - 10 = k := by omega
  refine w_aload_n rfl rfl ?_
  refine w_iconst (v := 0) rfl (by decide) ?_
  refine w_mps rfl hc (by decide) rfl ?_
  rw [hz]
  refine w_iload_n rfl rfl ?_
  refine w_static rfl (by decide) rfl ⟨(Nat.le_of_ble_eq_true rfl), (Nat.le_of_ble_eq_true rfl), (Nat.le_of_ble_eq_true rfl)⟩ rfl (Nat.le_of_ble_eq_true rfl) (c_m_isRep (nI r)) ?_
  rintro _ _ ⟨rfl, rfl⟩
  refine ⟨_, rfl, ?_⟩
  refine w_ifCond_ne rfl rfl (fun c9 => ?_) (fun c9 => ?_)
  · replace c9 := b01_t c9
    refine w_iload_n rfl rfl ?_
    refine w_bipush (v := 10) rfl (by decide) ?_
    refine w_if_icmp_lt rfl rfl (fun c21 => ?_) (fun c21 => ?_)
    · exact absurd c21 (nI_nlt (a := 10 + k) (b := 10) (by omega) (by omega))
    · refine w_iload_n rfl rfl ?_
      refine w_bipush (v := 21) rfl (by decide) ?_
      refine w_if_icmp_gt rfl rfl (fun c27 => ?_) (fun c27 => ?_)
      · exact absurd c27 (nI_nlt (a := 21) (b := 10 + k) (by omega) (by omega))
      · refine w_iload_n rfl rfl ?_
        refine w_bipush (v := 10) rfl (by decide) ?_
        refine w_isubN (x := (10 + k)) (y := 10) rfl rfl rfl (by omega) ?_
        rw [hk1]
        refine w_aload_n rfl rfl ?_
        refine w_getfield rfl (mset_ob hc) rfl ?_
        refine w_iload_n rfl rfl ?_
        refine w_mil (k := 7) (j := r) rfl hc (by decide) rfl ⟨show r < 4 from by omega, by decide⟩ ?_
        rw [hln]
        refine w_if_icmp_ge rfl rfl (fun c40 => ?_) (fun c40 => ?_)
        · have hkl : ¬ k < l := fun g => absurd c40 (nI_ge g (by omega))
          rw [if_neg hkl]
          refine w_iconst (v := (-1)) rfl (by decide) ?_
          exact w_ireturn rfl (by first | exact Or.inl rfl | exact Or.inr ⟨rfl, Or.inl rfl⟩ | exact Or.inr ⟨rfl, Or.inr rfl⟩ | exact Or.inr ⟨rfl, by assumption⟩) ⟨(by first | rfl | (simp only [c9, c21, c27, c40, if_true, if_false, and_true, true_and, and_false, false_and, or_true, true_or, or_false, false_or, not_true_eq_false, not_false_eq_true, ite_self]; done) | (simp only [c9, c21, c27, c40, if_true, if_false, and_true, true_and, and_false, false_and, or_true, true_or, or_false, false_or, not_true_eq_false, not_false_eq_true, ite_self]; rfl)), (by first | rfl | (simp only [c9, c21, c27, c40, if_true, if_false, and_true, true_and, and_false, false_and, or_true, true_or, or_false, false_or, not_true_eq_false, not_false_eq_true, ite_self]; done) | (simp only [c9, c21, c27, c40, if_true, if_false, and_true, true_and, and_false, false_and, or_true, true_or, or_false, false_or, not_true_eq_false, not_false_eq_true, ite_self]; rfl))⟩
        · have hkl : k < l := Nat.lt_of_not_ge (fun g => c40 (nI_le g (by omega)))
          rw [if_pos hkl]
          refine w_aload_n rfl rfl ?_
          refine w_getfield rfl (mset_ob hc) rfl ?_
          refine w_iload_n rfl rfl ?_
          refine w_mll (k := 8) (j := r) rfl hc (by decide) rfl ⟨show r < 4 from by omega, by decide⟩ ?_
          refine w_iload_n rfl rfl ?_
          refine w_bipush (v := 10) rfl (by decide) ?_
          refine w_isubN (x := (10 + k)) (y := 10) rfl rfl rfl (by omega) ?_
          rw [hk1]
          refine w_static rfl (by decide) rfl ⟨(Nat.le_of_ble_eq_true rfl), (Nat.le_of_ble_eq_true rfl), (Nat.le_of_ble_eq_true rfl)⟩ rfl (Nat.le_of_ble_eq_true rfl) (c_m_at (z.2 8 r) (nI k)) ?_
          rintro _ _ ⟨rfl, rfl⟩
          refine ⟨_, rfl, ?_⟩
          refine w_goto rfl rfl ?_
          exact w_ireturn rfl (by first | exact Or.inl rfl | exact Or.inr ⟨rfl, Or.inl rfl⟩ | exact Or.inr ⟨rfl, Or.inr rfl⟩ | exact Or.inr ⟨rfl, by assumption⟩) ⟨(by first | rfl | (simp only [c9, c21, c27, c40, if_true, if_false, and_true, true_and, and_false, false_and, or_true, true_or, or_false, false_or, not_true_eq_false, not_false_eq_true, ite_self]; done) | (simp only [c9, c21, c27, c40, if_true, if_false, and_true, true_and, and_false, false_and, or_true, true_or, or_false, false_or, not_true_eq_false, not_false_eq_true, ite_self]; rfl)), (by first | rfl | (simp only [c9, c21, c27, c40, if_true, if_false, and_true, true_and, and_false, false_and, or_true, true_or, or_false, false_or, not_true_eq_false, not_false_eq_true, ite_self]; done) | (simp only [c9, c21, c27, c40, if_true, if_false, and_true, true_and, and_false, false_and, or_true, true_or, or_false, false_or, not_true_eq_false, not_false_eq_true, ite_self]; rfl))⟩
  · replace c9 := b01_f c9
    exact absurd (isRepT hr) c9
set_option maxRecDepth 100000 in
set_option maxHeartbeats 4000000 in
theorem c_m_repN {sc : pm_Sc} {cs : List pm_C} {s : MS} {kn : Nat × Nat} (hc : 72 < cs.length) {z : MS} (hz : up s 0 0 0 = z) (r : Nat) (hr : r < 4) {l : Nat} (hln : z.1 7 r = nI l) (hl : l ≤ 12) (k : Nat) (hk : k < 4) (hrow : RowOK (z.2 8 r) l) (hky : KeyOK z) : pu sc 119 [.ref 31, .int (nI r), .int (nI ((30 + k)))] (mset cs s, kn) (pz (some (.int ((wkA z (z.2 8 r) l).1 k))) (mset cs (numset z (wkA z (z.2 8 r) l).1), kn)) := by
  have hk1 : 30 + k - 30 = k := by omega
  refine w_aload_n rfl rfl ?_
  refine w_iconst (v := 0) rfl (by decide) ?_
  refine w_mps rfl hc (by decide) rfl ?_
  rw [hz]
  refine w_iload_n rfl rfl ?_
  refine w_static rfl (by decide) rfl ⟨(Nat.le_of_ble_eq_true rfl), (Nat.le_of_ble_eq_true rfl), (Nat.le_of_ble_eq_true rfl)⟩ rfl (Nat.le_of_ble_eq_true rfl) (c_m_isRep (nI r)) ?_
  rintro _ _ ⟨rfl, rfl⟩
  refine ⟨_, rfl, ?_⟩
  refine w_ifCond_ne rfl rfl (fun c9 => ?_) (fun c9 => ?_)
  · replace c9 := b01_t c9
    refine w_iload_n rfl rfl ?_
    refine w_bipush (v := 10) rfl (by decide) ?_
    refine w_if_icmp_lt rfl rfl (fun c21 => ?_) (fun c21 => ?_)
    · exact absurd c21 (nI_nlt (a := 30 + k) (b := 10) (by omega) (by omega))
    · refine w_iload_n rfl rfl ?_
      refine w_bipush (v := 21) rfl (by decide) ?_
      refine w_if_icmp_gt rfl rfl (fun c27 => ?_) (fun c27 => ?_)
      · refine w_iload_n rfl rfl ?_
        refine w_bipush (v := 30) rfl (by decide) ?_
        refine w_if_icmp_lt rfl rfl (fun c64 => ?_) (fun c64 => ?_)
        · exact absurd c64 (nI_nlt (a := 30 + k) (b := 30) (by omega) (by omega))
        · refine w_iload_n rfl rfl ?_
          refine w_bipush (v := 33) rfl (by decide) ?_
          refine w_if_icmp_gt rfl rfl (fun c70 => ?_) (fun c70 => ?_)
          · exact absurd c70 (nI_nlt (a := 33) (b := 30 + k) (by omega) (by omega))
          · refine w_aload_n rfl rfl ?_
            refine w_aload_n rfl rfl ?_
            refine w_getfield rfl (mset_ob hc) rfl ?_
            refine w_iload_n rfl rfl ?_
            refine w_mll (k := 8) (j := r) rfl hc (by decide) rfl ⟨show r < 4 from by omega, by decide⟩ ?_
            refine w_aload_n rfl rfl ?_
            refine w_getfield rfl (mset_ob hc) rfl ?_
            refine w_iload_n rfl rfl ?_
            refine w_mil (k := 7) (j := r) rfl hc (by decide) rfl ⟨show r < 4 from by omega, by decide⟩ ?_
            rw [hln]
            refine w_virtual rfl rfl (mset_ob hc) ⟨(Nat.le_of_ble_eq_true rfl), rfl, (Nat.le_of_ble_eq_true rfl), (Nat.le_of_ble_eq_true rfl)⟩ rfl (Nat.le_of_ble_eq_true rfl) (c_m_work hc (z.2 8 r) l (by omega) hrow hky) ?_
            rintro _ _ ⟨rfl, rfl⟩
            refine ⟨_, rfl, ?_⟩
            refine w_pop rfl rfl ?_
            refine w_aload_n rfl rfl ?_
            refine w_getfield rfl (mset_ob hc) rfl ?_
            refine w_iload_n rfl rfl ?_
            refine w_bipush (v := 30) rfl (by decide) ?_
            refine w_isubN (x := (30 + k)) (y := 30) rfl rfl rfl (by omega) ?_
            rw [hk1]
            refine w_mil (k := 45) (j := k) rfl hc (by decide) rfl ⟨show k < 4 from by omega, by decide⟩ ?_
            exact w_ireturn rfl (by first | exact Or.inl rfl | exact Or.inr ⟨rfl, Or.inl rfl⟩ | exact Or.inr ⟨rfl, Or.inr rfl⟩ | exact Or.inr ⟨rfl, by assumption⟩) ⟨(by first | rfl | (simp only [c9, c21, c27, c64, c70, if_true, if_false, and_true, true_and, and_false, false_and, or_true, true_or, or_false, false_or, not_true_eq_false, not_false_eq_true, ite_self]; done) | (simp only [c9, c21, c27, c64, c70, if_true, if_false, and_true, true_and, and_false, false_and, or_true, true_or, or_false, false_or, not_true_eq_false, not_false_eq_true, ite_self]; rfl)), (by first | rfl | (simp only [c9, c21, c27, c64, c70, if_true, if_false, and_true, true_and, and_false, false_and, or_true, true_or, or_false, false_or, not_true_eq_false, not_false_eq_true, ite_self]; done) | (simp only [c9, c21, c27, c64, c70, if_true, if_false, and_true, true_and, and_false, false_and, or_true, true_or, or_false, false_or, not_true_eq_false, not_false_eq_true, ite_self]; rfl))⟩
      · exact absurd (nI_lt (a := 21) (b := 30 + k) (by omega) (by omega)) c27
  · replace c9 := b01_f c9
    exact absurd (isRepT hr) c9
set_option maxRecDepth 100000 in
set_option maxHeartbeats 4000000 in
theorem c_m_rep1 {sc : pm_Sc} {cs : List pm_C} {s : MS} {kn : Nat × Nat} (hc : 72 < cs.length) {z : MS} (hz : up s 0 0 0 = z) (r : Nat) (hr : r < 4) {l : Nat} (hln : z.1 7 r = nI l) (hl : l ≤ 12) (y : Int32) (hb1 : ¬ (¬ y < 10 ∧ ¬ 21 < y)) (hb2 : ¬ (¬ y < 30 ∧ ¬ 33 < y)) (hy : y.toInt < 0 ∨ 6 < y.toInt) : pu sc 119 [.ref 31, .int (nI r), .int y] (mset cs s, kn) (pz (some (.int (0))) (mset cs (up z 0 0 1), kn)) := by
  refine w_aload_n rfl rfl ?_
  refine w_iconst (v := 0) rfl (by decide) ?_
  refine w_mps rfl hc (by decide) rfl ?_
  rw [hz]
  refine w_iload_n rfl rfl ?_
  refine w_static rfl (by decide) rfl ⟨(Nat.le_of_ble_eq_true rfl), (Nat.le_of_ble_eq_true rfl), (Nat.le_of_ble_eq_true rfl)⟩ rfl (Nat.le_of_ble_eq_true rfl) (c_m_isRep (nI r)) ?_
  rintro _ _ ⟨rfl, rfl⟩
  refine ⟨_, rfl, ?_⟩
  refine w_ifCond_ne rfl rfl (fun c9 => ?_) (fun c9 => ?_)
  · replace c9 := b01_t c9
    refine w_iload_n rfl rfl ?_
    refine w_bipush (v := 10) rfl (by decide) ?_
    refine w_if_icmp_lt rfl rfl (fun c21 => ?_) (fun c21 => ?_)
    · refine w_iload_n rfl rfl ?_
      refine w_bipush (v := 30) rfl (by decide) ?_
      refine w_if_icmp_lt rfl rfl (fun c64 => ?_) (fun c64 => ?_)
      · refine w_iload_n rfl rfl ?_
        refine w_tableOut rfl hy rfl ?_
        refine w_aload_n rfl rfl ?_
        refine w_iconst (v := 1) rfl (by decide) ?_
        refine w_virtual rfl rfl (mset_ob hc) ⟨(Nat.le_of_ble_eq_true rfl), rfl, (Nat.le_of_ble_eq_true rfl), (Nat.le_of_ble_eq_true rfl)⟩ rfl (Nat.le_of_ble_eq_true rfl) (c_m_refuse hc 1) ?_
        rintro _ _ ⟨rfl, rfl⟩
        refine ⟨_, rfl, ?_⟩
        exact w_ireturn rfl (by first | exact Or.inl rfl | exact Or.inr ⟨rfl, Or.inl rfl⟩ | exact Or.inr ⟨rfl, Or.inr rfl⟩ | exact Or.inr ⟨rfl, by assumption⟩) ⟨(by first | rfl | (simp only [c9, c21, c64, if_true, if_false, and_true, true_and, and_false, false_and, or_true, true_or, or_false, false_or, not_true_eq_false, not_false_eq_true, ite_self]; done) | (simp only [c9, c21, c64, if_true, if_false, and_true, true_and, and_false, false_and, or_true, true_or, or_false, false_or, not_true_eq_false, not_false_eq_true, ite_self]; rfl)), (by first | rfl | (simp only [c9, c21, c64, if_true, if_false, and_true, true_and, and_false, false_and, or_true, true_or, or_false, false_or, not_true_eq_false, not_false_eq_true, ite_self]; done) | (simp only [c9, c21, c64, if_true, if_false, and_true, true_and, and_false, false_and, or_true, true_or, or_false, false_or, not_true_eq_false, not_false_eq_true, ite_self]; rfl))⟩
      · refine w_iload_n rfl rfl ?_
        refine w_bipush (v := 33) rfl (by decide) ?_
        refine w_if_icmp_gt rfl rfl (fun c70 => ?_) (fun c70 => ?_)
        · refine w_iload_n rfl rfl ?_
          refine w_tableOut rfl hy rfl ?_
          refine w_aload_n rfl rfl ?_
          refine w_iconst (v := 1) rfl (by decide) ?_
          refine w_virtual rfl rfl (mset_ob hc) ⟨(Nat.le_of_ble_eq_true rfl), rfl, (Nat.le_of_ble_eq_true rfl), (Nat.le_of_ble_eq_true rfl)⟩ rfl (Nat.le_of_ble_eq_true rfl) (c_m_refuse hc 1) ?_
          rintro _ _ ⟨rfl, rfl⟩
          refine ⟨_, rfl, ?_⟩
          exact w_ireturn rfl (by first | exact Or.inl rfl | exact Or.inr ⟨rfl, Or.inl rfl⟩ | exact Or.inr ⟨rfl, Or.inr rfl⟩ | exact Or.inr ⟨rfl, by assumption⟩) ⟨(by first | rfl | (simp only [c9, c21, c64, c70, if_true, if_false, and_true, true_and, and_false, false_and, or_true, true_or, or_false, false_or, not_true_eq_false, not_false_eq_true, ite_self]; done) | (simp only [c9, c21, c64, c70, if_true, if_false, and_true, true_and, and_false, false_and, or_true, true_or, or_false, false_or, not_true_eq_false, not_false_eq_true, ite_self]; rfl)), (by first | rfl | (simp only [c9, c21, c64, c70, if_true, if_false, and_true, true_and, and_false, false_and, or_true, true_or, or_false, false_or, not_true_eq_false, not_false_eq_true, ite_self]; done) | (simp only [c9, c21, c64, c70, if_true, if_false, and_true, true_and, and_false, false_and, or_true, true_or, or_false, false_or, not_true_eq_false, not_false_eq_true, ite_self]; rfl))⟩
        · exact absurd ⟨c64, c70⟩ hb2
    · refine w_iload_n rfl rfl ?_
      refine w_bipush (v := 21) rfl (by decide) ?_
      refine w_if_icmp_gt rfl rfl (fun c27 => ?_) (fun c27 => ?_)
      · refine w_iload_n rfl rfl ?_
        refine w_bipush (v := 30) rfl (by decide) ?_
        refine w_if_icmp_lt rfl rfl (fun c64 => ?_) (fun c64 => ?_)
        · refine w_iload_n rfl rfl ?_
          refine w_tableOut rfl hy rfl ?_
          refine w_aload_n rfl rfl ?_
          refine w_iconst (v := 1) rfl (by decide) ?_
          refine w_virtual rfl rfl (mset_ob hc) ⟨(Nat.le_of_ble_eq_true rfl), rfl, (Nat.le_of_ble_eq_true rfl), (Nat.le_of_ble_eq_true rfl)⟩ rfl (Nat.le_of_ble_eq_true rfl) (c_m_refuse hc 1) ?_
          rintro _ _ ⟨rfl, rfl⟩
          refine ⟨_, rfl, ?_⟩
          exact w_ireturn rfl (by first | exact Or.inl rfl | exact Or.inr ⟨rfl, Or.inl rfl⟩ | exact Or.inr ⟨rfl, Or.inr rfl⟩ | exact Or.inr ⟨rfl, by assumption⟩) ⟨(by first | rfl | (simp only [c9, c21, c27, c64, if_true, if_false, and_true, true_and, and_false, false_and, or_true, true_or, or_false, false_or, not_true_eq_false, not_false_eq_true, ite_self]; done) | (simp only [c9, c21, c27, c64, if_true, if_false, and_true, true_and, and_false, false_and, or_true, true_or, or_false, false_or, not_true_eq_false, not_false_eq_true, ite_self]; rfl)), (by first | rfl | (simp only [c9, c21, c27, c64, if_true, if_false, and_true, true_and, and_false, false_and, or_true, true_or, or_false, false_or, not_true_eq_false, not_false_eq_true, ite_self]; done) | (simp only [c9, c21, c27, c64, if_true, if_false, and_true, true_and, and_false, false_and, or_true, true_or, or_false, false_or, not_true_eq_false, not_false_eq_true, ite_self]; rfl))⟩
        · refine w_iload_n rfl rfl ?_
          refine w_bipush (v := 33) rfl (by decide) ?_
          refine w_if_icmp_gt rfl rfl (fun c70 => ?_) (fun c70 => ?_)
          · refine w_iload_n rfl rfl ?_
            refine w_tableOut rfl hy rfl ?_
            refine w_aload_n rfl rfl ?_
            refine w_iconst (v := 1) rfl (by decide) ?_
            refine w_virtual rfl rfl (mset_ob hc) ⟨(Nat.le_of_ble_eq_true rfl), rfl, (Nat.le_of_ble_eq_true rfl), (Nat.le_of_ble_eq_true rfl)⟩ rfl (Nat.le_of_ble_eq_true rfl) (c_m_refuse hc 1) ?_
            rintro _ _ ⟨rfl, rfl⟩
            refine ⟨_, rfl, ?_⟩
            exact w_ireturn rfl (by first | exact Or.inl rfl | exact Or.inr ⟨rfl, Or.inl rfl⟩ | exact Or.inr ⟨rfl, Or.inr rfl⟩ | exact Or.inr ⟨rfl, by assumption⟩) ⟨(by first | rfl | (simp only [c9, c21, c27, c64, c70, if_true, if_false, and_true, true_and, and_false, false_and, or_true, true_or, or_false, false_or, not_true_eq_false, not_false_eq_true, ite_self]; done) | (simp only [c9, c21, c27, c64, c70, if_true, if_false, and_true, true_and, and_false, false_and, or_true, true_or, or_false, false_or, not_true_eq_false, not_false_eq_true, ite_self]; rfl)), (by first | rfl | (simp only [c9, c21, c27, c64, c70, if_true, if_false, and_true, true_and, and_false, false_and, or_true, true_or, or_false, false_or, not_true_eq_false, not_false_eq_true, ite_self]; done) | (simp only [c9, c21, c27, c64, c70, if_true, if_false, and_true, true_and, and_false, false_and, or_true, true_or, or_false, false_or, not_true_eq_false, not_false_eq_true, ite_self]; rfl))⟩
          · exact absurd ⟨c64, c70⟩ hb2
      · exact absurd ⟨c21, c27⟩ hb1
  · replace c9 := b01_f c9
    exact absurd (isRepT hr) c9
set_option maxRecDepth 100000 in
set_option maxHeartbeats 4000000 in
theorem c_m_repk0 {sc : pm_Sc} {cs : List pm_C} {s : MS} {kn : Nat × Nat} (hc : 72 < cs.length) {z : MS} (hz : up s 0 0 0 = z) (r : Nat) (hr : r < 4) {l : Nat} (hln : z.1 7 r = nI l) (hl : l ≤ 12) : pu sc 119 [.ref 31, .int (nI r), .int 0] (mset cs s, kn) (pz (some (.int (v_rep z r 0))) (mset cs (z), kn)) := by
  refine w_aload_n rfl rfl ?_
  refine w_iconst (v := 0) rfl (by decide) ?_
  refine w_mps rfl hc (by decide) rfl ?_
  rw [hz]
  refine w_iload_n rfl rfl ?_
  refine w_static rfl (by decide) rfl ⟨(Nat.le_of_ble_eq_true rfl), (Nat.le_of_ble_eq_true rfl), (Nat.le_of_ble_eq_true rfl)⟩ rfl (Nat.le_of_ble_eq_true rfl) (c_m_isRep (nI r)) ?_
  rintro _ _ ⟨rfl, rfl⟩
  refine ⟨_, rfl, ?_⟩
  refine w_ifCond_ne rfl rfl (fun c9 => ?_) (fun c9 => ?_)
  · replace c9 := b01_t c9
    refine w_iload_n rfl rfl ?_
    refine w_bipush (v := 10) rfl (by decide) ?_
    refine w_if_icmp_lt rfl rfl (fun c21 => ?_) (fun c21 => ?_)
    · refine w_iload_n rfl rfl ?_
      refine w_bipush (v := 30) rfl (by decide) ?_
      refine w_if_icmp_lt rfl rfl (fun c64 => ?_) (fun c64 => ?_)
      · refine w_iload_n rfl rfl ?_
        refine w_tableIn rfl (by decide) rfl rfl ?_
        refine w_aload_n rfl rfl ?_
        refine w_getfield rfl (mset_ob hc) rfl ?_
        refine w_iload_n rfl rfl ?_
        refine w_mil (k := 6) (j := r) rfl hc (by decide) rfl ⟨show r < 4 from by omega, by decide⟩ ?_
        exact w_ireturn rfl (Or.inl rfl) ⟨by rfl, rfl⟩
      · exact absurd (by decide) c64
    · exact absurd (by decide) c21
  · replace c9 := b01_f c9
    exact absurd (isRepT hr) c9
set_option maxRecDepth 100000 in
set_option maxHeartbeats 4000000 in
theorem c_m_repk1 {sc : pm_Sc} {cs : List pm_C} {s : MS} {kn : Nat × Nat} (hc : 72 < cs.length) {z : MS} (hz : up s 0 0 0 = z) (r : Nat) (hr : r < 4) {l : Nat} (hln : z.1 7 r = nI l) (hl : l ≤ 12) : pu sc 119 [.ref 31, .int (nI r), .int 1] (mset cs s, kn) (pz (some (.int (v_rep z r 1))) (mset cs (z), kn)) := by
  refine w_aload_n rfl rfl ?_
  refine w_iconst (v := 0) rfl (by decide) ?_
  refine w_mps rfl hc (by decide) rfl ?_
  rw [hz]
  refine w_iload_n rfl rfl ?_
  refine w_static rfl (by decide) rfl ⟨(Nat.le_of_ble_eq_true rfl), (Nat.le_of_ble_eq_true rfl), (Nat.le_of_ble_eq_true rfl)⟩ rfl (Nat.le_of_ble_eq_true rfl) (c_m_isRep (nI r)) ?_
  rintro _ _ ⟨rfl, rfl⟩
  refine ⟨_, rfl, ?_⟩
  refine w_ifCond_ne rfl rfl (fun c9 => ?_) (fun c9 => ?_)
  · replace c9 := b01_t c9
    refine w_iload_n rfl rfl ?_
    refine w_bipush (v := 10) rfl (by decide) ?_
    refine w_if_icmp_lt rfl rfl (fun c21 => ?_) (fun c21 => ?_)
    · refine w_iload_n rfl rfl ?_
      refine w_bipush (v := 30) rfl (by decide) ?_
      refine w_if_icmp_lt rfl rfl (fun c64 => ?_) (fun c64 => ?_)
      · refine w_iload_n rfl rfl ?_
        refine w_tableIn rfl (by decide) rfl rfl ?_
        refine w_aload_n rfl rfl ?_
        refine w_getfield rfl (mset_ob hc) rfl ?_
        refine w_iload_n rfl rfl ?_
        refine w_mil (k := 7) (j := r) rfl hc (by decide) rfl ⟨show r < 4 from by omega, by decide⟩ ?_
        exact w_ireturn rfl (Or.inl rfl) ⟨by rfl, rfl⟩
      · exact absurd (by decide) c64
    · exact absurd (by decide) c21
  · replace c9 := b01_f c9
    exact absurd (isRepT hr) c9
set_option maxRecDepth 100000 in
set_option maxHeartbeats 4000000 in
theorem c_m_repk2 {sc : pm_Sc} {cs : List pm_C} {s : MS} {kn : Nat × Nat} (hc : 72 < cs.length) {z : MS} (hz : up s 0 0 0 = z) (r : Nat) (hr : r < 4) {l : Nat} (hln : z.1 7 r = nI l) (hl : l ≤ 12) : pu sc 119 [.ref 31, .int (nI r), .int 2] (mset cs s, kn) (pz (some (.int (v_rep z r 2))) (mset cs (z), kn)) := by
  refine w_aload_n rfl rfl ?_
  refine w_iconst (v := 0) rfl (by decide) ?_
  refine w_mps rfl hc (by decide) rfl ?_
  rw [hz]
  refine w_iload_n rfl rfl ?_
  refine w_static rfl (by decide) rfl ⟨(Nat.le_of_ble_eq_true rfl), (Nat.le_of_ble_eq_true rfl), (Nat.le_of_ble_eq_true rfl)⟩ rfl (Nat.le_of_ble_eq_true rfl) (c_m_isRep (nI r)) ?_
  rintro _ _ ⟨rfl, rfl⟩
  refine ⟨_, rfl, ?_⟩
  refine w_ifCond_ne rfl rfl (fun c9 => ?_) (fun c9 => ?_)
  · replace c9 := b01_t c9
    refine w_iload_n rfl rfl ?_
    refine w_bipush (v := 10) rfl (by decide) ?_
    refine w_if_icmp_lt rfl rfl (fun c21 => ?_) (fun c21 => ?_)
    · refine w_iload_n rfl rfl ?_
      refine w_bipush (v := 30) rfl (by decide) ?_
      refine w_if_icmp_lt rfl rfl (fun c64 => ?_) (fun c64 => ?_)
      · refine w_iload_n rfl rfl ?_
        refine w_tableIn rfl (by decide) rfl rfl ?_
        refine w_aload_n rfl rfl ?_
        refine w_getfield rfl (mset_ob hc) rfl ?_
        refine w_iload_n rfl rfl ?_
        refine w_mil (k := 9) (j := r) rfl hc (by decide) rfl ⟨show r < 4 from by omega, by decide⟩ ?_
        exact w_ireturn rfl (Or.inl rfl) ⟨by rfl, rfl⟩
      · exact absurd (by decide) c64
    · exact absurd (by decide) c21
  · replace c9 := b01_f c9
    exact absurd (isRepT hr) c9
set_option maxRecDepth 100000 in
set_option maxHeartbeats 4000000 in
theorem c_m_repk3 {sc : pm_Sc} {cs : List pm_C} {s : MS} {kn : Nat × Nat} (hc : 72 < cs.length) {z : MS} (hz : up s 0 0 0 = z) (r : Nat) (hr : r < 4) {l : Nat} (hln : z.1 7 r = nI l) (hl : l ≤ 12) : pu sc 119 [.ref 31, .int (nI r), .int 3] (mset cs s, kn) (pz (some (.int (v_rep z r 3))) (mset cs (z), kn)) := by
  refine w_aload_n rfl rfl ?_
  refine w_iconst (v := 0) rfl (by decide) ?_
  refine w_mps rfl hc (by decide) rfl ?_
  rw [hz]
  refine w_iload_n rfl rfl ?_
  refine w_static rfl (by decide) rfl ⟨(Nat.le_of_ble_eq_true rfl), (Nat.le_of_ble_eq_true rfl), (Nat.le_of_ble_eq_true rfl)⟩ rfl (Nat.le_of_ble_eq_true rfl) (c_m_isRep (nI r)) ?_
  rintro _ _ ⟨rfl, rfl⟩
  refine ⟨_, rfl, ?_⟩
  refine w_ifCond_ne rfl rfl (fun c9 => ?_) (fun c9 => ?_)
  · replace c9 := b01_t c9
    refine w_iload_n rfl rfl ?_
    refine w_bipush (v := 10) rfl (by decide) ?_
    refine w_if_icmp_lt rfl rfl (fun c21 => ?_) (fun c21 => ?_)
    · refine w_iload_n rfl rfl ?_
      refine w_bipush (v := 30) rfl (by decide) ?_
      refine w_if_icmp_lt rfl rfl (fun c64 => ?_) (fun c64 => ?_)
      · refine w_iload_n rfl rfl ?_
        refine w_tableIn rfl (by decide) rfl rfl ?_
        refine w_aload_n rfl rfl ?_
        refine w_getfield rfl (mset_ob hc) rfl ?_
        refine w_iload_n rfl rfl ?_
        refine w_mbl (k := 10) (j := r) rfl hc (by decide) rfl ⟨show r < 4 from by omega, by decide⟩ ?_
        refine w_ifCond_eq rfl rfl (fun c171 => ?_) (fun c171 => ?_)
        · refine w_iconst (v := 0) rfl (by decide) ?_
          exact w_ireturn rfl (Or.inl rfl) ⟨by show _ = Sum.inl (some (Value.int (if z.1 10 r = 0 then 0 else 1))); rw [if_pos c171], rfl⟩
        · refine w_iconst (v := 1) rfl (by decide) ?_
          refine w_goto rfl rfl ?_
          exact w_ireturn rfl (Or.inl rfl) ⟨by show _ = Sum.inl (some (Value.int (if z.1 10 r = 0 then 0 else 1))); rw [if_neg c171], rfl⟩
      · exact absurd (by decide) c64
    · exact absurd (by decide) c21
  · replace c9 := b01_f c9
    exact absurd (isRepT hr) c9
set_option maxRecDepth 100000 in
set_option maxHeartbeats 4000000 in
theorem c_m_repk4 {sc : pm_Sc} {cs : List pm_C} {s : MS} {kn : Nat × Nat} (hc : 72 < cs.length) {z : MS} (hz : up s 0 0 0 = z) (r : Nat) (hr : r < 4) {l : Nat} (hln : z.1 7 r = nI l) (hl : l ≤ 12) : pu sc 119 [.ref 31, .int (nI r), .int 4] (mset cs s, kn) (pz (some (.int (v_rep z r 4))) (mset cs (z), kn)) := by
  refine w_aload_n rfl rfl ?_
  refine w_iconst (v := 0) rfl (by decide) ?_
  refine w_mps rfl hc (by decide) rfl ?_
  rw [hz]
  refine w_iload_n rfl rfl ?_
  refine w_static rfl (by decide) rfl ⟨(Nat.le_of_ble_eq_true rfl), (Nat.le_of_ble_eq_true rfl), (Nat.le_of_ble_eq_true rfl)⟩ rfl (Nat.le_of_ble_eq_true rfl) (c_m_isRep (nI r)) ?_
  rintro _ _ ⟨rfl, rfl⟩
  refine ⟨_, rfl, ?_⟩
  refine w_ifCond_ne rfl rfl (fun c9 => ?_) (fun c9 => ?_)
  · replace c9 := b01_t c9
    refine w_iload_n rfl rfl ?_
    refine w_bipush (v := 10) rfl (by decide) ?_
    refine w_if_icmp_lt rfl rfl (fun c21 => ?_) (fun c21 => ?_)
    · refine w_iload_n rfl rfl ?_
      refine w_bipush (v := 30) rfl (by decide) ?_
      refine w_if_icmp_lt rfl rfl (fun c64 => ?_) (fun c64 => ?_)
      · refine w_iload_n rfl rfl ?_
        refine w_tableIn rfl (by decide) rfl rfl ?_
        refine w_aload_n rfl rfl ?_
        refine w_getfield rfl (mset_ob hc) rfl ?_
        refine w_iload_n rfl rfl ?_
        refine w_mil (k := 11) (j := r) rfl hc (by decide) rfl ⟨show r < 4 from by omega, by decide⟩ ?_
        exact w_ireturn rfl (Or.inl rfl) ⟨by rfl, rfl⟩
      · exact absurd (by decide) c64
    · exact absurd (by decide) c21
  · replace c9 := b01_f c9
    exact absurd (isRepT hr) c9
set_option maxRecDepth 100000 in
set_option maxHeartbeats 4000000 in
theorem c_m_repk5 {sc : pm_Sc} {cs : List pm_C} {s : MS} {kn : Nat × Nat} (hc : 72 < cs.length) {z : MS} (hz : up s 0 0 0 = z) (r : Nat) (hr : r < 4) {l : Nat} (hln : z.1 7 r = nI l) (hl : l ≤ 12) : pu sc 119 [.ref 31, .int (nI r), .int 5] (mset cs s, kn) (pz (some (.int (v_rep z r 5))) (mset cs (z), kn)) := by
  refine w_aload_n rfl rfl ?_
  refine w_iconst (v := 0) rfl (by decide) ?_
  refine w_mps rfl hc (by decide) rfl ?_
  rw [hz]
  refine w_iload_n rfl rfl ?_
  refine w_static rfl (by decide) rfl ⟨(Nat.le_of_ble_eq_true rfl), (Nat.le_of_ble_eq_true rfl), (Nat.le_of_ble_eq_true rfl)⟩ rfl (Nat.le_of_ble_eq_true rfl) (c_m_isRep (nI r)) ?_
  rintro _ _ ⟨rfl, rfl⟩
  refine ⟨_, rfl, ?_⟩
  refine w_ifCond_ne rfl rfl (fun c9 => ?_) (fun c9 => ?_)
  · replace c9 := b01_t c9
    refine w_iload_n rfl rfl ?_
    refine w_bipush (v := 10) rfl (by decide) ?_
    refine w_if_icmp_lt rfl rfl (fun c21 => ?_) (fun c21 => ?_)
    · refine w_iload_n rfl rfl ?_
      refine w_bipush (v := 30) rfl (by decide) ?_
      refine w_if_icmp_lt rfl rfl (fun c64 => ?_) (fun c64 => ?_)
      · refine w_iload_n rfl rfl ?_
        refine w_tableIn rfl (by decide) rfl rfl ?_
        refine w_aload_n rfl rfl ?_
        refine w_getfield rfl (mset_ob hc) rfl ?_
        refine w_iload_n rfl rfl ?_
        refine w_mil (k := 12) (j := r) rfl hc (by decide) rfl ⟨show r < 4 from by omega, by decide⟩ ?_
        exact w_ireturn rfl (Or.inl rfl) ⟨by rfl, rfl⟩
      · exact absurd (by decide) c64
    · exact absurd (by decide) c21
  · replace c9 := b01_f c9
    exact absurd (isRepT hr) c9
set_option maxRecDepth 100000 in
set_option maxHeartbeats 4000000 in
theorem c_m_repk6 {sc : pm_Sc} {cs : List pm_C} {s : MS} {kn : Nat × Nat} (hc : 72 < cs.length) {z : MS} (hz : up s 0 0 0 = z) (r : Nat) (hr : r < 4) {l : Nat} (hln : z.1 7 r = nI l) (hl : l ≤ 12) : pu sc 119 [.ref 31, .int (nI r), .int 6] (mset cs s, kn) (pz (some (.int (v_rep z r 6))) (mset cs (z), kn)) := by
  have hlv : lnN z r = l := by rw [lnN, hln, nI_clamp (by omega)]
  refine w_aload_n rfl rfl ?_
  refine w_iconst (v := 0) rfl (by decide) ?_
  refine w_mps rfl hc (by decide) rfl ?_
  rw [hz]
  refine w_iload_n rfl rfl ?_
  refine w_static rfl (by decide) rfl ⟨(Nat.le_of_ble_eq_true rfl), (Nat.le_of_ble_eq_true rfl), (Nat.le_of_ble_eq_true rfl)⟩ rfl (Nat.le_of_ble_eq_true rfl) (c_m_isRep (nI r)) ?_
  rintro _ _ ⟨rfl, rfl⟩
  refine ⟨_, rfl, ?_⟩
  refine w_ifCond_ne rfl rfl (fun c9 => ?_) (fun c9 => ?_)
  · replace c9 := b01_t c9
    refine w_iload_n rfl rfl ?_
    refine w_bipush (v := 10) rfl (by decide) ?_
    refine w_if_icmp_lt rfl rfl (fun c21 => ?_) (fun c21 => ?_)
    · refine w_iload_n rfl rfl ?_
      refine w_bipush (v := 30) rfl (by decide) ?_
      refine w_if_icmp_lt rfl rfl (fun c64 => ?_) (fun c64 => ?_)
      · refine w_iload_n rfl rfl ?_
        refine w_tableIn rfl (by decide) rfl rfl ?_
        refine w_aload_n rfl rfl ?_
        refine w_getfield rfl (mset_ob hc) rfl ?_
        refine w_iload_n rfl rfl ?_
        refine w_mll (k := 8) (j := r) rfl hc (by decide) rfl ⟨show r < 4 from by omega, by decide⟩ ?_
        refine w_aload_n rfl rfl ?_
        refine w_getfield rfl (mset_ob hc) rfl ?_
        refine w_iload_n rfl rfl ?_
        refine w_mil (k := 7) (j := r) rfl hc (by decide) rfl ⟨show r < 4 from by omega, by decide⟩ ?_
        rw [hln]
        refine w_static rfl (by decide) rfl ⟨(Nat.le_of_ble_eq_true rfl), (Nat.le_of_ble_eq_true rfl), (Nat.le_of_ble_eq_true rfl)⟩ rfl (Nat.le_of_ble_eq_true rfl) (c_m_dig (z.2 8 r) l (by omega)) ?_
        rintro _ _ ⟨rfl, rfl⟩
        refine ⟨_, rfl, ?_⟩
        exact w_ireturn rfl (Or.inl rfl) ⟨by show _ = Sum.inl (some (Value.int (digN (z.2 8 r) (lnN z r)))); rw [hlv], rfl⟩
      · exact absurd (by decide) c64
    · exact absurd (by decide) c21
  · replace c9 := b01_f c9
    exact absurd (isRepT hr) c9
def flN : Nat → MS → Nat → Int32 → MS × Int32
  | 0, s, _, c => (s, c)
  | d + 1, s, j, c => if s.1 17 0 ≤ nI j then (s, c) else flN d (f_del (up s 0 0 0) j) (j + 1) (c + b01 ((up s 0 0 0).1 28 j = 0))
set_option maxRecDepth 100000 in
set_option maxHeartbeats 4000000 in
theorem c_m_fl0 {sc : pm_Sc} {cs : List pm_C} {s : MS} {kn : Nat × Nat} (hc : 72 < cs.length) {z : MS} (hz : up s 0 0 0 = z) (x : Int32) (h : x < 0) : pu sc 112 [.ref 31, .int x] (mset cs s, kn) (pz (some (.int (0))) (mset cs (up z 0 0 1), kn)) := by
  refine w_aload_n rfl rfl ?_
  refine w_iconst (v := 0) rfl (by decide) ?_
  refine w_mps rfl hc (by decide) rfl ?_
  rw [hz]
  refine w_iload_n rfl rfl ?_
  refine w_ifCond_ge rfl rfl (fun c6 => ?_) (fun c6 => ?_)
  · exact absurd h (fun g => absurd (Int32.lt_of_lt_of_le g c6) Int32.lt_irrefl)
  · refine w_aload_n rfl rfl ?_
    refine w_iconst (v := 1) rfl (by decide) ?_
    refine w_virtual rfl rfl (mset_ob hc) ⟨(Nat.le_of_ble_eq_true rfl), rfl, (Nat.le_of_ble_eq_true rfl), (Nat.le_of_ble_eq_true rfl)⟩ rfl (Nat.le_of_ble_eq_true rfl) (c_m_refuse hc 1) ?_
    rintro _ _ ⟨rfl, rfl⟩
    refine ⟨_, rfl, ?_⟩
    exact w_ireturn rfl (by first | exact Or.inl rfl | exact Or.inr ⟨rfl, Or.inl rfl⟩ | exact Or.inr ⟨rfl, Or.inr rfl⟩ | exact Or.inr ⟨rfl, by assumption⟩) ⟨(by first | rfl | (simp only [c6, if_true, if_false, and_true, true_and, and_false, false_and, or_true, true_or, or_false, false_or, not_true_eq_false, not_false_eq_true, ite_self]; done) | (simp only [c6, if_true, if_false, and_true, true_and, and_false, false_and, or_true, true_or, or_false, false_or, not_true_eq_false, not_false_eq_true, ite_self]; rfl)), (by first | rfl | (simp only [c6, if_true, if_false, and_true, true_and, and_false, false_and, or_true, true_or, or_false, false_or, not_true_eq_false, not_false_eq_true, ite_self]; done) | (simp only [c6, if_true, if_false, and_true, true_and, and_false, false_and, or_true, true_or, or_false, false_or, not_true_eq_false, not_false_eq_true, ite_self]; rfl))⟩
set_option maxRecDepth 100000 in
set_option maxHeartbeats 4000000 in
theorem c_m_fl2 {sc : pm_Sc} {cs : List pm_C} {s : MS} {kn : Nat × Nat} (hc : 72 < cs.length) {z : MS} (hz : up s 0 0 0 = z) (x : Int32) (h : ¬ x < 0) (h2 : z.1 17 0 ≤ x) : pu sc 112 [.ref 31, .int x] (mset cs s, kn) (pz (some (.int (0))) (mset cs (z), kn)) := by
  refine w_aload_n rfl rfl ?_
  refine w_iconst (v := 0) rfl (by decide) ?_
  refine w_mps rfl hc (by decide) rfl ?_
  rw [hz]
  refine w_iload_n rfl rfl ?_
  refine w_ifCond_ge rfl rfl (fun c6 => ?_) (fun c6 => ?_)
  · refine w_iconst (v := 0) rfl (by decide) ?_
    refine w_istore_n rfl (Nat.le_of_ble_eq_true rfl) ?_
    refine w_iload_n rfl rfl ?_
    refine w_istore_n rfl (Nat.le_of_ble_eq_true rfl) ?_
    refine w_iload_n rfl rfl ?_
    refine w_aload_n rfl rfl ?_
    refine w_getfield rfl (mset_ob hc) rfl ?_
    refine w_if_icmp_ge rfl rfl (fun c24 => ?_) (fun c24 => ?_)
    · refine w_iload_n rfl rfl ?_
      exact w_ireturn rfl (by first | exact Or.inl rfl | exact Or.inr ⟨rfl, Or.inl rfl⟩ | exact Or.inr ⟨rfl, Or.inr rfl⟩ | exact Or.inr ⟨rfl, by assumption⟩) ⟨(by first | rfl | (simp only [c6, c24, if_true, if_false, and_true, true_and, and_false, false_and, or_true, true_or, or_false, false_or, not_true_eq_false, not_false_eq_true, ite_self]; done) | (simp only [c6, c24, if_true, if_false, and_true, true_and, and_false, false_and, or_true, true_or, or_false, false_or, not_true_eq_false, not_false_eq_true, ite_self]; rfl)), (by first | rfl | (simp only [c6, c24, if_true, if_false, and_true, true_and, and_false, false_and, or_true, true_or, or_false, false_or, not_true_eq_false, not_false_eq_true, ite_self]; done) | (simp only [c6, c24, if_true, if_false, and_true, true_and, and_false, false_and, or_true, true_or, or_false, false_or, not_true_eq_false, not_false_eq_true, ite_self]; rfl))⟩
    · exact absurd h2 c24
  · exact absurd (Int32.not_lt.mp h) c6
set_option maxRecDepth 100000 in
set_option maxHeartbeats 4000000 in
theorem l_m_fl {sc : pm_Sc} {cs : List pm_C} {kn : Nat × Nat} (hc : 72 < cs.length) {PI : MS → Prop} (H6 : ∀ s, PI s → ∃ m, m ≤ 600 ∧ s.1 17 0 = nI m)
    (HP : ∀ s j, PI s → j < mN s → pu sc 111 [.ref 31, .int (nI j)] (mset cs s, kn) (pz (some (.int (b01 ((up s 0 0 0).1 28 j = 0)))) (mset cs (f_del (up s 0 0 0) j), kn)) ∧ PI (f_del (up s 0 0 0) j)) :
    ∀ (d : Nat) (s : MS) (j : Nat) (c : Int32) (lv : pm_L), (600 ≤ j + d ∧ j < 2 ^ 31 - d) → PI s → pm_ld lv 0 = some (.ref 31) → pm_ld lv 2 = some (.int c) → pm_ld lv 3 = some (.int (nI j)) → pw sc 112 (19, lv, [], (mset cs s, kn)) (pz (some (.int (flN d s j c).2)) (mset cs (flN d s j c).1, kn)) := by
  intro d
  induction d with
  | zero =>
    intro s j c lv hd hP g0 g2 g3
    obtain ⟨m, h6, hm⟩ := H6 s hP
    have hlt : ¬ s.1 17 0 ≤ nI j → j < mN s := fun g => absurd (by rw [hm]; exact nI_le (by omega) (by omega)) g
    have hfull : (600 ≤ j + 0 ∧ j < 2 ^ 31 - 0) → s.1 17 0 ≤ nI j := fun g => by rw [hm]; exact nI_le (by omega) (by omega)
    refine w_iload_n rfl g3 ?_
    refine w_aload_n rfl g0 ?_
    refine w_getfield rfl (mset_ob hc) rfl ?_
    refine w_if_icmp_ge rfl rfl (fun c24 => ?_) (fun c24 => ?_)
    · rw [flN]
      refine w_iload_n rfl g2 ?_
      exact w_ireturn rfl (Or.inl rfl) ⟨rfl, rfl⟩
    · exact absurd (hfull hd) c24
  | succ d ih =>
    intro s j c lv hd hP g0 g2 g3
    obtain ⟨m, h6, hm⟩ := H6 s hP
    have hlt : ¬ s.1 17 0 ≤ nI j → j < mN s := fun g => by
      rw [mN_eq hm h6]
      exact Nat.lt_of_not_ge (fun g2 => g (by rw [hm]; exact nI_le g2 (by omega)))
    refine w_iload_n rfl g3 ?_
    refine w_aload_n rfl g0 ?_
    refine w_getfield rfl (mset_ob hc) rfl ?_
    refine w_if_icmp_ge rfl rfl (fun c24 => ?_) (fun c24 => ?_)
    · rw [flN, if_pos c24]
      refine w_iload_n rfl g2 ?_
      exact w_ireturn rfl (Or.inl rfl) ⟨rfl, rfl⟩
    · rw [flN, if_neg c24]
      refine w_iload_n rfl g2 ?_
      refine w_aload_n rfl g0 ?_
      refine w_iload_n rfl g3 ?_
      refine w_virtual rfl rfl (mset_ob hc) ⟨(Nat.le_of_ble_eq_true rfl), rfl, (Nat.le_of_ble_eq_true rfl), (Nat.le_of_ble_eq_true rfl)⟩ rfl (Nat.le_of_ble_eq_true rfl) ((HP s j hP (hlt c24)).1) ?_
      rintro _ _ ⟨rfl, rfl⟩
      refine ⟨_, rfl, ?_⟩
      refine w_ifCond_eq rfl rfl (fun c33 => ?_) (fun c33 => ?_)
      · replace c33 := b01_f c33
        have hb : b01 ((up s 0 0 0).1 28 j = 0) = 0 := if_neg c33
        refine w_iconst (v := 0) rfl (by decide) ?_
        refine w_iadd rfl ?_
        refine w_istore_n rfl (Nat.le_of_ble_eq_true rfl) ?_
        refine w_iincN (j := j) rfl rfl (ld_s1 (by decide) g3 (fun _ => rfl)) (Nat.le_of_ble_eq_true rfl) ?_
        refine w_goto rfl rfl ?_
        rw [hb]
        exact ih _ (j + 1) _ _ (by omega) (HP s j hP (hlt c24)).2 (ld_s1 (by decide) (ld_s1 (by decide) g0 (fun _ => rfl)) (fun _ => rfl)) (ld_s1 (by decide) ld_self (fun _ => rfl)) ld_self
      · replace c33 := b01_t c33
        have hb : b01 ((up s 0 0 0).1 28 j = 0) = 1 := if_pos c33
        refine w_iconst (v := 1) rfl (by decide) ?_
        refine w_goto rfl rfl ?_
        refine w_iadd rfl ?_
        refine w_istore_n rfl (Nat.le_of_ble_eq_true rfl) ?_
        refine w_iincN (j := j) rfl rfl (ld_s1 (by decide) g3 (fun _ => rfl)) (Nat.le_of_ble_eq_true rfl) ?_
        refine w_goto rfl rfl ?_
        rw [hb]
        exact ih _ (j + 1) _ _ (by omega) (HP s j hP (hlt c24)).2 (ld_s1 (by decide) (ld_s1 (by decide) g0 (fun _ => rfl)) (fun _ => rfl)) (ld_s1 (by decide) ld_self (fun _ => rfl)) ld_self
set_option maxRecDepth 100000 in
set_option maxHeartbeats 4000000 in
theorem c_m_fl1 {sc : pm_Sc} {cs : List pm_C} {kn : Nat × Nat} (hc : 72 < cs.length) {s z : MS} (hz : up s 0 0 0 = z) {PI : MS → Prop} (H6 : ∀ s, PI s → ∃ m, m ≤ 600 ∧ s.1 17 0 = nI m)
    (HP : ∀ s j, PI s → j < mN s → pu sc 111 [.ref 31, .int (nI j)] (mset cs s, kn) (pz (some (.int (b01 ((up s 0 0 0).1 28 j = 0)))) (mset cs (f_del (up s 0 0 0) j), kn)) ∧ PI (f_del (up s 0 0 0) j)) (j : Nat) (hj : j < 2 ^ 31 - 600) (hP : PI z) : pu sc 112 [.ref 31, .int (nI j)] (mset cs s, kn) (pz (some (.int (flN 600 z j 0).2)) (mset cs (flN 600 z j 0).1, kn)) := by
  refine w_aload_n rfl rfl ?_
  refine w_iconst (v := 0) rfl (by decide) ?_
  refine w_mps rfl hc (by decide) rfl ?_
  rw [hz]
  refine w_iload_n rfl rfl ?_
  refine w_ifCond_ge rfl rfl (fun c6 => ?_) (fun c6 => ?_)
  · refine w_iconst (v := 0) rfl (by decide) ?_
    refine w_istore_n rfl (Nat.le_of_ble_eq_true rfl) ?_
    refine w_iload_n rfl rfl ?_
    refine w_istore_n rfl (Nat.le_of_ble_eq_true rfl) ?_
    exact l_m_fl hc H6 HP 600 z j 0 _ (by omega) hP rfl rfl rfl
  · exact absurd (nI_pos' (by omega)) c6
