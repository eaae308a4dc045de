-- deps: 36.m5
/-! THE REFERENCE: the client, and the calls -/
abbrev alk (s : MS) (a b : Nat) : Prop := ¬ s.1 30 a < 0 ∧ s.1 30 a = s.1 30 b ∧ s.1 31 a = s.1 31 b ∧ s.1 32 a = s.1 32 b ∧ s.1 33 a = s.1 33 b
def alN (s : MS) (q r : Nat) : Nat → Int32
  | 0 => 0
  | t + 1 => alN s q r t + (if alk s (4 * q + r) (4 * q + t) then 1 else 0)
def f_fin (s : MS) (q : Nat) (res p : Int32) : MS := up (up (up s 42 q 1) 43 q res) 44 q p
abbrev akC (s : MS) (q t : Nat) : Prop := ¬ s.1 37 q = 0 ∧ s.1 34 t = s.1 38 q ∧ s.1 35 t = s.1 39 q ∧ s.1 36 t = s.1 40 q
def akN (s : MS) (q : Nat) : Nat → Int32
  | 0 => 0
  | t + 1 => akN s q t + (if akC s q t then 1 else 0)
def f_look (s : MS) (q : Nat) : MS := if s.1 42 q = 0 then (if alN s q 0 4 = 4 then f_fin s q (s.1 33 (4 * q)) (s.1 31 (4 * q)) else if akN s q 4 < 3 then s else f_fin s q (s.1 41 q) (s.1 39 q)) else s
def cvw (s : MS) (v : Int32) : MS := up s 29 0 (if v ≤ s.1 29 0 then s.1 29 0 else v)
def krp (s : MS) (k : Nat) (v p d res : Int32) : MS := if v < s.1 30 k then s else up (up (up (up s 30 k v) 31 k p) 32 k d) 33 k res
def f_trep (s : MS) (t q : Nat) (v p d res : Int32) : MS := f_look (krp (cvw s v) (4 * q + t) v p d res) q
def lkN (s : MS) : Nat → MS
  | 0 => s
  | q + 1 => f_look (lkN s q) q
def ackS (s : MS) (r j : Nat) : MS := up (up (up s 34 r (s.1 21 j)) 35 r (s.1 22 j)) 36 r (s.1 24 j)
def nqN (s : MS) : Nat := (s.1 2 0).toNatClampNeg
def f_tack (s : MS) (r j : Nat) : MS := lkN (ackS s r j) (nqN s)
theorem f_look_k {s : MS} {q a j : Nat} (ha : ¬ (42 ≤ a ∧ a ≤ 44)) : (f_look s q).1 a j = s.1 a j := by
  unfold f_look f_fin
  split
  · split
    · rw [up_n (fun z => by omega), up_n (fun z => by omega), up_n (fun z => by omega)]
    · split
      · rfl
      · rw [up_n (fun z => by omega), up_n (fun z => by omega), up_n (fun z => by omega)]
  · rfl
theorem lkN_k {s : MS} {a j : Nat} (ha : ¬ (42 ≤ a ∧ a ≤ 44)) : ∀ q, (lkN s q).1 a j = s.1 a j
  | 0 => rfl
  | q + 1 => by rw [lkN, f_look_k ha]; exact lkN_k ha q
theorem f_look_l {s : MS} {q : Nat} : (f_look s q).2 = s.2 := by
  unfold f_look f_fin
  split
  · split
    · rfl
    · split <;> rfl
  · rfl
theorem lkN_l {s : MS} : ∀ q, (lkN s q).2 = s.2
  | 0 => rfl
  | q + 1 => by rw [lkN, f_look_l]; exact lkN_l q
set_option maxRecDepth 100000 in
set_option maxHeartbeats 4000000 in
theorem c_m_alk {sc : pm_Sc} {cs : List pm_C} {s : MS} {kn : Nat × Nat} (hc : 72 < cs.length) (a b : Nat) (ha : a < 48) (hb : b < 48) : pu sc 101 [.ref 31, .int (nI a), .int (nI b)] (mset cs s, kn) (pz (some (.int (b01 (alk s a b)))) (mset cs s, kn)) := by
  refine w_aload_n rfl rfl ?_
  refine w_getfield rfl (mset_ob hc) rfl ?_
  refine w_iload_n rfl rfl ?_
  refine w_mil (k := 30) (j := a) rfl hc (by decide) rfl ⟨show a < 48 from by omega, by decide⟩ ?_
  refine w_ifCond_lt rfl rfl (fun c6 => ?_) (fun c6 => ?_)
  · refine w_iconst (v := 0) rfl (by decide) ?_
    exact w_ireturn rfl (by first | exact Or.inl rfl | exact Or.inr ⟨rfl, Or.inl rfl⟩ | exact Or.inr ⟨rfl, Or.inr rfl⟩ | exact Or.inr ⟨rfl, by assumption⟩) ⟨(by first | (simp only [b01, alk, c6, if_true, if_false, and_true, true_and, and_false, false_and, or_true, true_or, or_false, false_or, not_true_eq_false, not_false_eq_true, ite_self]; done) | (simp only [b01, alk, c6, if_true, if_false, and_true, true_and, and_false, false_and, or_true, true_or, or_false, false_or, not_true_eq_false, not_false_eq_true, ite_self]; rfl) | rfl), (by first | (simp only [b01, alk, c6, if_true, if_false, and_true, true_and, and_false, false_and, or_true, true_or, or_false, false_or, not_true_eq_false, not_false_eq_true, ite_self]; done) | (simp only [b01, alk, c6, if_true, if_false, and_true, true_and, and_false, false_and, or_true, true_or, or_false, false_or, not_true_eq_false, not_false_eq_true, ite_self]; rfl) | rfl)⟩
  · refine w_aload_n rfl rfl ?_
    refine w_getfield rfl (mset_ob hc) rfl ?_
    refine w_iload_n rfl rfl ?_
    refine w_mil (k := 30) (j := a) rfl hc (by decide) rfl ⟨show a < 48 from by omega, by decide⟩ ?_
    refine w_aload_n rfl rfl ?_
    refine w_getfield rfl (mset_ob hc) rfl ?_
    refine w_iload_n rfl rfl ?_
    refine w_mil (k := 30) (j := b) rfl hc (by decide) rfl ⟨show b < 48 from by omega, by decide⟩ ?_
    refine w_if_icmp_ne rfl rfl (fun c21 => ?_) (fun c21 => ?_)
    · refine w_iconst (v := 0) rfl (by decide) ?_
      exact w_ireturn rfl (by first | exact Or.inl rfl | exact Or.inr ⟨rfl, Or.inl rfl⟩ | exact Or.inr ⟨rfl, Or.inr rfl⟩ | exact Or.inr ⟨rfl, by assumption⟩) ⟨(by first | (simp only [b01, alk, c6, c21, if_true, if_false, and_true, true_and, and_false, false_and, or_true, true_or, or_false, false_or, not_true_eq_false, not_false_eq_true, ite_self]; done) | (simp only [b01, alk, c6, c21, if_true, if_false, and_true, true_and, and_false, false_and, or_true, true_or, or_false, false_or, not_true_eq_false, not_false_eq_true, ite_self]; rfl) | rfl), (by first | (simp only [b01, alk, c6, c21, if_true, if_false, and_true, true_and, and_false, false_and, or_true, true_or, or_false, false_or, not_true_eq_false, not_false_eq_true, ite_self]; done) | (simp only [b01, alk, c6, c21, if_true, if_false, and_true, true_and, and_false, false_and, or_true, true_or, or_false, false_or, not_true_eq_false, not_false_eq_true, ite_self]; rfl) | rfl)⟩
    · refine w_aload_n rfl rfl ?_
      refine w_getfield rfl (mset_ob hc) rfl ?_
      refine w_iload_n rfl rfl ?_
      refine w_mil (k := 31) (j := a) rfl hc (by decide) rfl ⟨show a < 48 from by omega, by decide⟩ ?_
      refine w_aload_n rfl rfl ?_
      refine w_getfield rfl (mset_ob hc) rfl ?_
      refine w_iload_n rfl rfl ?_
      refine w_mil (k := 31) (j := b) rfl hc (by decide) rfl ⟨show b < 48 from by omega, by decide⟩ ?_
      refine w_if_icmp_ne rfl rfl (fun c36 => ?_) (fun c36 => ?_)
      · refine w_iconst (v := 0) rfl (by decide) ?_
        exact w_ireturn rfl (by first | exact Or.inl rfl | exact Or.inr ⟨rfl, Or.inl rfl⟩ | exact Or.inr ⟨rfl, Or.inr rfl⟩ | exact Or.inr ⟨rfl, by assumption⟩) ⟨(by first | (simp only [b01, alk, c6, (eq_true c21), c36, if_true, if_false, and_true, true_and, and_false, false_and, or_true, true_or, or_false, false_or, not_true_eq_false, not_false_eq_true, ite_self]; done) | (simp only [b01, alk, c6, (eq_true c21), c36, if_true, if_false, and_true, true_and, and_false, false_and, or_true, true_or, or_false, false_or, not_true_eq_false, not_false_eq_true, ite_self]; rfl) | rfl), (by first | (simp only [b01, alk, c6, (eq_true c21), c36, if_true, if_false, and_true, true_and, and_false, false_and, or_true, true_or, or_false, false_or, not_true_eq_false, not_false_eq_true, ite_self]; done) | (simp only [b01, alk, c6, (eq_true c21), c36, if_true, if_false, and_true, true_and, and_false, false_and, or_true, true_or, or_false, false_or, not_true_eq_false, not_false_eq_true, ite_self]; rfl) | rfl)⟩
      · refine w_aload_n rfl rfl ?_
        refine w_getfield rfl (mset_ob hc) rfl ?_
        refine w_iload_n rfl rfl ?_
        refine w_mil (k := 32) (j := a) rfl hc (by decide) rfl ⟨show a < 48 from by omega, by decide⟩ ?_
        refine w_aload_n rfl rfl ?_
        refine w_getfield rfl (mset_ob hc) rfl ?_
        refine w_iload_n rfl rfl ?_
        refine w_mil (k := 32) (j := b) rfl hc (by decide) rfl ⟨show b < 48 from by omega, by decide⟩ ?_
        refine w_if_icmp_ne rfl rfl (fun c51 => ?_) (fun c51 => ?_)
        · refine w_iconst (v := 0) rfl (by decide) ?_
          exact w_ireturn rfl (by first | exact Or.inl rfl | exact Or.inr ⟨rfl, Or.inl rfl⟩ | exact Or.inr ⟨rfl, Or.inr rfl⟩ | exact Or.inr ⟨rfl, by assumption⟩) ⟨(by first | (simp only [b01, alk, c6, (eq_true c21), (eq_true c36), c51, if_true, if_false, and_true, true_and, and_false, false_and, or_true, true_or, or_false, false_or, not_true_eq_false, not_false_eq_true, ite_self]; done) | (simp only [b01, alk, c6, (eq_true c21), (eq_true c36), c51, if_true, if_false, and_true, true_and, and_false, false_and, or_true, true_or, or_false, false_or, not_true_eq_false, not_false_eq_true, ite_self]; rfl) | rfl), (by first | (simp only [b01, alk, c6, (eq_true c21), (eq_true c36), c51, if_true, if_false, and_true, true_and, and_false, false_and, or_true, true_or, or_false, false_or, not_true_eq_false, not_false_eq_true, ite_self]; done) | (simp only [b01, alk, c6, (eq_true c21), (eq_true c36), c51, if_true, if_false, and_true, true_and, and_false, false_and, or_true, true_or, or_false, false_or, not_true_eq_false, not_false_eq_true, ite_self]; rfl) | rfl)⟩
        · refine w_aload_n rfl rfl ?_
          refine w_getfield rfl (mset_ob hc) rfl ?_
          refine w_iload_n rfl rfl ?_
          refine w_mil (k := 33) (j := a) rfl hc (by decide) rfl ⟨show a < 48 from by omega, by decide⟩ ?_
          refine w_aload_n rfl rfl ?_
          refine w_getfield rfl (mset_ob hc) rfl ?_
          refine w_iload_n rfl rfl ?_
          refine w_mil (k := 33) (j := b) rfl hc (by decide) rfl ⟨show b < 48 from by omega, by decide⟩ ?_
          refine w_if_icmp_ne rfl rfl (fun c66 => ?_) (fun c66 => ?_)
          · refine w_iconst (v := 0) rfl (by decide) ?_
            exact w_ireturn rfl (by first | exact Or.inl rfl | exact Or.inr ⟨rfl, Or.inl rfl⟩ | exact Or.inr ⟨rfl, Or.inr rfl⟩ | exact Or.inr ⟨rfl, by assumption⟩) ⟨(by first | (simp only [b01, alk, c6, (eq_true c21), (eq_true c36), (eq_true c51), c66, if_true, if_false, and_true, true_and, and_false, false_and, or_true, true_or, or_false, false_or, not_true_eq_false, not_false_eq_true, ite_self]; done) | (simp only [b01, alk, c6, (eq_true c21), (eq_true c36), (eq_true c51), c66, if_true, if_false, and_true, true_and, and_false, false_and, or_true, true_or, or_false, false_or, not_true_eq_false, not_false_eq_true, ite_self]; rfl) | rfl), (by first | (simp only [b01, alk, c6, (eq_true c21), (eq_true c36), (eq_true c51), c66, if_true, if_false, and_true, true_and, and_false, false_and, or_true, true_or, or_false, false_or, not_true_eq_false, not_false_eq_true, ite_self]; done) | (simp only [b01, alk, c6, (eq_true c21), (eq_true c36), (eq_true c51), c66, if_true, if_false, and_true, true_and, and_false, false_and, or_true, true_or, or_false, false_or, not_true_eq_false, not_false_eq_true, ite_self]; rfl) | rfl)⟩
          · refine w_iconst (v := 1) rfl (by decide) ?_
            refine w_goto rfl rfl ?_
            exact w_ireturn rfl (by first | exact Or.inl rfl | exact Or.inr ⟨rfl, Or.inl rfl⟩ | exact Or.inr ⟨rfl, Or.inr rfl⟩ | exact Or.inr ⟨rfl, by assumption⟩) ⟨(by first | (simp only [b01, alk, c6, (eq_true c21), (eq_true c36), (eq_true c51), (eq_true c66), if_true, if_false, and_true, true_and, and_false, false_and, or_true, true_or, or_false, false_or, not_true_eq_false, not_false_eq_true, ite_self]; done) | (simp only [b01, alk, c6, (eq_true c21), (eq_true c36), (eq_true c51), (eq_true c66), if_true, if_false, and_true, true_and, and_false, false_and, or_true, true_or, or_false, false_or, not_true_eq_false, not_false_eq_true, ite_self]; rfl) | rfl), (by first | (simp only [b01, alk, c6, (eq_true c21), (eq_true c36), (eq_true c51), (eq_true c66), if_true, if_false, and_true, true_and, and_false, false_and, or_true, true_or, or_false, false_or, not_true_eq_false, not_false_eq_true, ite_self]; done) | (simp only [b01, alk, c6, (eq_true c21), (eq_true c36), (eq_true c51), (eq_true c66), if_true, if_false, and_true, true_and, and_false, false_and, or_true, true_or, or_false, false_or, not_true_eq_false, not_false_eq_true, ite_self]; rfl) | rfl)⟩
set_option maxRecDepth 100000 in
set_option maxHeartbeats 4000000 in
theorem l_m_al {sc : pm_Sc} {cs : List pm_C} {kn : Nat × Nat} (hc : 72 < cs.length) {s : MS} (q r : Nat) (hq : q < 12) (hr : r < 4) : ∀ (d k : Nat) (lv : pm_L), k + d = 4 → pm_ld lv 0 = some (.ref 31) → pm_ld lv 1 = some (.int (nI q)) → pm_ld lv 2 = some (.int (nI r)) → pm_ld lv 3 = some (.int (alN s q r k)) → pm_ld lv 4 = some (.int (nI k)) → pw sc 102 (5, lv, [], (mset cs s, kn)) (pz (some (.int (alN s q r 4))) (mset cs s, kn)) := by
  intro d
  induction d with
  | zero =>
    intro k lv hk g0 g1 g2 g3 g4
    obtain rfl : 4 = k := by omega
    refine w_iload rfl g4 ?_
    refine w_iconst (v := 4) rfl (by decide) ?_
    refine w_if_icmp_ge rfl rfl (fun c8 => ?_) (fun c8 => ?_)
    · refine w_iload_n rfl g3 ?_
      exact w_ireturn rfl (by first | exact Or.inl rfl | exact Or.inr ⟨rfl, Or.inl rfl⟩ | exact Or.inr ⟨rfl, Or.inr rfl⟩ | exact Or.inr ⟨rfl, by assumption⟩) ⟨(by first | rfl | (simp only [c8, if_true, if_false, and_true, true_and, and_false, false_and, or_true, true_or, or_false, false_or, not_true_eq_false, not_false_eq_true, ite_self]; done) | (simp only [c8, if_true, if_false, and_true, true_and, and_false, false_and, or_true, true_or, or_false, false_or, not_true_eq_false, not_false_eq_true, ite_self]; rfl)), (by first | rfl | (simp only [c8, if_true, if_false, and_true, true_and, and_false, false_and, or_true, true_or, or_false, false_or, not_true_eq_false, not_false_eq_true, ite_self]; done) | (simp only [c8, if_true, if_false, and_true, true_and, and_false, false_and, or_true, true_or, or_false, false_or, not_true_eq_false, not_false_eq_true, ite_self]; rfl))⟩
    · exact absurd (nI_le (a := 4) (b := 4) (Nat.le_refl _) (by omega)) c8
  | succ d ih =>
    intro k lv hk g0 g1 g2 g3 g4
    refine w_iload rfl g4 ?_
    refine w_iconst (v := 4) rfl (by decide) ?_
    refine w_if_icmp_ge rfl rfl (fun c8 => ?_) (fun c8 => ?_)
    · exact absurd c8 (nI_ge (a := k) (b := 4) (by omega) (by omega))
    · refine w_iload_n rfl g3 ?_
      refine w_aload_n rfl g0 ?_
      refine w_iconst (v := 4) rfl (by decide) ?_
      refine w_iload_n rfl g1 ?_
      refine w_imulN (x := 4) (y := q) rfl rfl rfl ?_
      refine w_iload_n rfl g2 ?_
      refine w_iaddN (x := (4 * q)) (y := r) rfl rfl rfl ?_
      refine w_iconst (v := 4) rfl (by decide) ?_
      refine w_iload_n rfl g1 ?_
      refine w_imulN (x := 4) (y := q) rfl rfl rfl ?_
      refine w_iload rfl g4 ?_
      refine w_iaddN (x := (4 * q)) (y := k) rfl rfl rfl ?_
      refine w_virtual rfl rfl (mset_ob hc) ⟨(Nat.le_of_ble_eq_true rfl), rfl, (Nat.le_of_ble_eq_true rfl), (Nat.le_of_ble_eq_true rfl)⟩ rfl (Nat.le_of_ble_eq_true rfl) (c_m_alk hc (4 * q + r) (4 * q + k) (by omega) (by omega)) ?_
      rintro _ _ ⟨rfl, rfl⟩
      refine ⟨_, rfl, ?_⟩
      refine w_ifCond_eq rfl rfl (fun c27 => ?_) (fun c27 => ?_)
      · replace c27 := b01_f c27
        refine w_iconst (v := 0) rfl (by decide) ?_
        refine w_iadd rfl ?_
        refine w_istore_n rfl (Nat.le_of_ble_eq_true rfl) ?_
        refine w_iincN (j := k) rfl rfl (ld_s1 (by decide) g4 (fun _ => rfl)) (Nat.le_of_ble_eq_true rfl) ?_
        refine w_goto rfl rfl ?_
        have e : alN s q r (k + 1) = alN s q r k + (if alk s (4 * q + r) (4 * q + k) then 1 else 0) := rfl
        rw [if_neg c27] at e
        have ih2 := ih (k + 1)
        rw [e] at ih2
        exact ih2 _ (by omega) (ld_s1 (by decide) (ld_s1 (by decide) g0 (fun _ => rfl)) (fun _ => rfl)) (ld_s1 (by decide) (ld_s1 (by decide) g1 (fun _ => rfl)) (fun _ => rfl)) (ld_s1 (by decide) (ld_s1 (by decide) g2 (fun _ => rfl)) (fun _ => rfl)) (ld_s1 (by decide) ld_self (fun _ => rfl)) ld_self
      · replace c27 := b01_t c27
        refine w_iconst (v := 1) rfl (by decide) ?_
        refine w_goto rfl rfl ?_
        refine w_iadd rfl ?_
        refine w_istore_n rfl (Nat.le_of_ble_eq_true rfl) ?_
        refine w_iincN (j := k) rfl rfl (ld_s1 (by decide) g4 (fun _ => rfl)) (Nat.le_of_ble_eq_true rfl) ?_
        refine w_goto rfl rfl ?_
        have e : alN s q r (k + 1) = alN s q r k + (if alk s (4 * q + r) (4 * q + k) then 1 else 0) := rfl
        rw [if_pos c27] at e
        have ih2 := ih (k + 1)
        rw [e] at ih2
        exact ih2 _ (by omega) (ld_s1 (by decide) (ld_s1 (by decide) g0 (fun _ => rfl)) (fun _ => rfl)) (ld_s1 (by decide) (ld_s1 (by decide) g1 (fun _ => rfl)) (fun _ => rfl)) (ld_s1 (by decide) (ld_s1 (by decide) g2 (fun _ => rfl)) (fun _ => rfl)) (ld_s1 (by decide) ld_self (fun _ => rfl)) ld_self
set_option maxRecDepth 100000 in
set_option maxHeartbeats 4000000 in
theorem c_m_al {sc : pm_Sc} {cs : List pm_C} {s : MS} {kn : Nat × Nat} (hc : 72 < cs.length) (q r : Nat) (hq : q < 12) (hr : r < 4) : pu sc 102 [.ref 31, .int (nI q), .int (nI r)] (mset cs s, kn) (pz (some (.int (alN s q r 4))) (mset cs s, kn)) := by
  refine w_iconst (v := 0) rfl (by decide) ?_
  refine w_istore_n rfl (Nat.le_of_ble_eq_true rfl) ?_
  refine w_iconst (v := 0) rfl (by decide) ?_
  refine w_istore rfl (Nat.le_of_ble_eq_true rfl) ?_
  exact l_m_al hc q r hq hr 4 0 _ (by omega) rfl rfl rfl rfl rfl
set_option maxRecDepth 100000 in
set_option maxHeartbeats 4000000 in
theorem c_m_fin {sc : pm_Sc} {cs : List pm_C} {s : MS} {kn : Nat × Nat} (hc : 72 < cs.length) (q : Nat) (hq : q < 12) (res p : Int32) : pu sc 103 [.ref 31, .int (nI q), .int res, .int p] (mset cs s, kn) (pz none (mset cs (f_fin s q res p), kn)) := by
  refine w_aload_n rfl rfl ?_
  refine w_getfield rfl (mset_ob hc) rfl ?_
  refine w_iload_n rfl rfl ?_
  refine w_iconst (v := 1) rfl (by decide) ?_
  refine w_mbs (k := 42) (j := q) rfl hc (by decide) (by decide) rfl ⟨show q < 12 from by omega, by decide⟩ ?_
  refine w_aload_n rfl rfl ?_
  refine w_getfield rfl (mset_ob hc) rfl ?_
  refine w_iload_n rfl rfl ?_
  refine w_iload_n rfl rfl ?_
  refine w_mis (k := 43) (j := q) rfl hc (by decide) rfl ⟨show q < 12 from by omega, by decide⟩ ?_
  refine w_aload_n rfl rfl ?_
  refine w_getfield rfl (mset_ob hc) rfl ?_
  refine w_iload_n rfl rfl ?_
  refine w_iload_n rfl rfl ?_
  refine w_mis (k := 44) (j := q) rfl hc (by decide) rfl ⟨show q < 12 from by omega, by decide⟩ ?_
  exact w_return rfl rfl ⟨(by first | rfl | (simp only [if_true, if_false, and_true, true_and, and_false, false_and, or_true, true_or, or_false, false_or, not_true_eq_false, not_false_eq_true, ite_self]; done) | (simp only [if_true, if_false, and_true, true_and, and_false, false_and, or_true, true_or, or_false, false_or, not_true_eq_false, not_false_eq_true, ite_self]; rfl)), (by first | rfl | (simp only [if_true, if_false, and_true, true_and, and_false, false_and, or_true, true_or, or_false, false_or, not_true_eq_false, not_false_eq_true, ite_self]; done) | (simp only [if_true, if_false, and_true, true_and, and_false, false_and, or_true, true_or, or_false, false_or, not_true_eq_false, not_false_eq_true, ite_self]; rfl))⟩
set_option maxRecDepth 100000 in
set_option maxHeartbeats 4000000 in
theorem l_m_ak {sc : pm_Sc} {cs : List pm_C} {kn : Nat × Nat} (hc : 72 < cs.length) {s : MS} (q : Nat) (hq : q < 12) {Q : (Option Value ⊕ Nat) → pm_H → Prop} (G : ∀ lv, pm_ld lv 0 = some (.ref 31) → pm_ld lv 1 = some (.int (nI q)) → pm_ld lv 2 = some (.int (akN s q 4)) → pw sc 104 (119, lv, [], (mset cs s, kn)) Q) : ∀ (d k : Nat) (lv : pm_L), k + d = 4 → pm_ld lv 0 = some (.ref 31) → pm_ld lv 1 = some (.int (nI q)) → pm_ld lv 2 = some (.int (akN s q k)) → pm_ld lv 3 = some (.int (nI k)) → pw sc 104 (46, lv, [], (mset cs s, kn)) (Q) := by
  intro d
  induction d with
  | zero =>
    intro k lv hk g0 g1 g2 g3
    obtain rfl : 4 = k := by omega
    refine w_iload_n rfl g3 ?_
    refine w_iconst (v := 4) rfl (by decide) ?_
    refine w_if_icmp_ge rfl rfl (fun c48 => ?_) (fun c48 => ?_)
    · exact G _ g0 g1 g2
    · exact absurd (nI_le (a := 4) (b := 4) (Nat.le_refl _) (by omega)) c48
  | succ d ih =>
    intro k lv hk g0 g1 g2 g3
    refine w_iload_n rfl g3 ?_
    refine w_iconst (v := 4) rfl (by decide) ?_
    refine w_if_icmp_ge rfl rfl (fun c48 => ?_) (fun c48 => ?_)
    · exact absurd c48 (nI_ge (a := k) (b := 4) (by omega) (by omega))
    · refine w_iload_n rfl g2 ?_
      refine w_aload_n rfl g0 ?_
      refine w_getfield rfl (mset_ob hc) rfl ?_
      refine w_iload_n rfl g1 ?_
      refine w_mbl (k := 37) (j := q) rfl hc (by decide) rfl ⟨show q < 12 from by omega, by decide⟩ ?_
      refine w_ifCond_eq rfl rfl (fun c58 => ?_) (fun c58 => ?_)
      · refine w_iconst (v := 0) rfl (by decide) ?_
        refine w_iadd rfl ?_
        refine w_istore_n rfl (Nat.le_of_ble_eq_true rfl) ?_
        refine w_iincN (j := k) rfl rfl (ld_s1 (by decide) g3 (fun _ => rfl)) (Nat.le_of_ble_eq_true rfl) ?_
        refine w_goto rfl rfl ?_
        have e : akN s q (k + 1) = akN s q k + (if akC s q k then 1 else 0) := rfl
        rw [if_neg (fun z => z.1 c58)] at e
        have ih2 := ih (k + 1)
        rw [e] at ih2
        exact ih2 _ (by omega) (ld_s1 (by decide) (ld_s1 (by decide) g0 (fun _ => rfl)) (fun _ => rfl)) (ld_s1 (by decide) (ld_s1 (by decide) g1 (fun _ => rfl)) (fun _ => rfl)) (ld_s1 (by decide) ld_self (fun _ => rfl)) ld_self
      · refine w_aload_n rfl g0 ?_
        refine w_getfield rfl (mset_ob hc) rfl ?_
        refine w_iload_n rfl g3 ?_
        refine w_mil (k := 34) (j := k) rfl hc (by decide) rfl ⟨show k < 4 from by omega, by decide⟩ ?_
        refine w_aload_n rfl g0 ?_
        refine w_getfield rfl (mset_ob hc) rfl ?_
        refine w_iload_n rfl g1 ?_
        refine w_mil (k := 38) (j := q) rfl hc (by decide) rfl ⟨show q < 12 from by omega, by decide⟩ ?_
        refine w_if_icmp_ne rfl rfl (fun c73 => ?_) (fun c73 => ?_)
        · refine w_iconst (v := 0) rfl (by decide) ?_
          refine w_iadd rfl ?_
          refine w_istore_n rfl (Nat.le_of_ble_eq_true rfl) ?_
          refine w_iincN (j := k) rfl rfl (ld_s1 (by decide) g3 (fun _ => rfl)) (Nat.le_of_ble_eq_true rfl) ?_
          refine w_goto rfl rfl ?_
          have e : akN s q (k + 1) = akN s q k + (if akC s q k then 1 else 0) := rfl
          rw [if_neg (fun z => c73 z.2.1)] at e
          have ih2 := ih (k + 1)
          rw [e] at ih2
          exact ih2 _ (by omega) (ld_s1 (by decide) (ld_s1 (by decide) g0 (fun _ => rfl)) (fun _ => rfl)) (ld_s1 (by decide) (ld_s1 (by decide) g1 (fun _ => rfl)) (fun _ => rfl)) (ld_s1 (by decide) ld_self (fun _ => rfl)) ld_self
        · refine w_aload_n rfl g0 ?_
          refine w_getfield rfl (mset_ob hc) rfl ?_
          refine w_iload_n rfl g3 ?_
          refine w_mil (k := 35) (j := k) rfl hc (by decide) rfl ⟨show k < 4 from by omega, by decide⟩ ?_
          refine w_aload_n rfl g0 ?_
          refine w_getfield rfl (mset_ob hc) rfl ?_
          refine w_iload_n rfl g1 ?_
          refine w_mil (k := 39) (j := q) rfl hc (by decide) rfl ⟨show q < 12 from by omega, by decide⟩ ?_
          refine w_if_icmp_ne rfl rfl (fun c88 => ?_) (fun c88 => ?_)
          · refine w_iconst (v := 0) rfl (by decide) ?_
            refine w_iadd rfl ?_
            refine w_istore_n rfl (Nat.le_of_ble_eq_true rfl) ?_
            refine w_iincN (j := k) rfl rfl (ld_s1 (by decide) g3 (fun _ => rfl)) (Nat.le_of_ble_eq_true rfl) ?_
            refine w_goto rfl rfl ?_
            have e : akN s q (k + 1) = akN s q k + (if akC s q k then 1 else 0) := rfl
            rw [if_neg (fun z => c88 z.2.2.1)] at e
            have ih2 := ih (k + 1)
            rw [e] at ih2
            exact ih2 _ (by omega) (ld_s1 (by decide) (ld_s1 (by decide) g0 (fun _ => rfl)) (fun _ => rfl)) (ld_s1 (by decide) (ld_s1 (by decide) g1 (fun _ => rfl)) (fun _ => rfl)) (ld_s1 (by decide) ld_self (fun _ => rfl)) ld_self
          · refine w_aload_n rfl g0 ?_
            refine w_getfield rfl (mset_ob hc) rfl ?_
            refine w_iload_n rfl g3 ?_
            refine w_mil (k := 36) (j := k) rfl hc (by decide) rfl ⟨show k < 4 from by omega, by decide⟩ ?_
            refine w_aload_n rfl g0 ?_
            refine w_getfield rfl (mset_ob hc) rfl ?_
            refine w_iload_n rfl g1 ?_
            refine w_mil (k := 40) (j := q) rfl hc (by decide) rfl ⟨show q < 12 from by omega, by decide⟩ ?_
            refine w_if_icmp_ne rfl rfl (fun c103 => ?_) (fun c103 => ?_)
            · refine w_iconst (v := 0) rfl (by decide) ?_
              refine w_iadd rfl ?_
              refine w_istore_n rfl (Nat.le_of_ble_eq_true rfl) ?_
              refine w_iincN (j := k) rfl rfl (ld_s1 (by decide) g3 (fun _ => rfl)) (Nat.le_of_ble_eq_true rfl) ?_
              refine w_goto rfl rfl ?_
              have e : akN s q (k + 1) = akN s q k + (if akC s q k then 1 else 0) := rfl
              rw [if_neg (fun z => c103 z.2.2.2)] at e
              have ih2 := ih (k + 1)
              rw [e] at ih2
              exact ih2 _ (by omega) (ld_s1 (by decide) (ld_s1 (by decide) g0 (fun _ => rfl)) (fun _ => rfl)) (ld_s1 (by decide) (ld_s1 (by decide) g1 (fun _ => rfl)) (fun _ => rfl)) (ld_s1 (by decide) ld_self (fun _ => rfl)) ld_self
            · refine w_iconst (v := 1) rfl (by decide) ?_
              refine w_goto rfl rfl ?_
              refine w_iadd rfl ?_
              refine w_istore_n rfl (Nat.le_of_ble_eq_true rfl) ?_
              refine w_iincN (j := k) rfl rfl (ld_s1 (by decide) g3 (fun _ => rfl)) (Nat.le_of_ble_eq_true rfl) ?_
              refine w_goto rfl rfl ?_
              have e : akN s q (k + 1) = akN s q k + (if akC s q k then 1 else 0) := rfl
              rw [if_pos ⟨c58, c73, c88, c103⟩] at e
              have ih2 := ih (k + 1)
              rw [e] at ih2
              exact ih2 _ (by omega) (ld_s1 (by decide) (ld_s1 (by decide) g0 (fun _ => rfl)) (fun _ => rfl)) (ld_s1 (by decide) (ld_s1 (by decide) g1 (fun _ => rfl)) (fun _ => rfl)) (ld_s1 (by decide) ld_self (fun _ => rfl)) ld_self
set_option maxRecDepth 100000 in
set_option maxHeartbeats 4000000 in
theorem c_m_look {sc : pm_Sc} {cs : List pm_C} {s : MS} {kn : Nat × Nat} (hc : 72 < cs.length) (q : Nat) (hq : q < 12) : pu sc 104 [.ref 31, .int (nI q)] (mset cs s, kn) (pz none (mset cs (f_look s q), kn)) := by
  refine w_aload_n rfl rfl ?_
  refine w_getfield rfl (mset_ob hc) rfl ?_
  refine w_iload_n rfl rfl ?_
  refine w_mbl (k := 42) (j := q) rfl hc (by decide) rfl ⟨show q < 12 from by omega, by decide⟩ ?_
  refine w_ifCond_eq rfl rfl (fun c6 => ?_) (fun c6 => ?_)
  · refine w_aload_n rfl rfl ?_
    refine w_iload_n rfl rfl ?_
    refine w_iconst (v := 0) rfl (by decide) ?_
    refine w_virtual rfl rfl (mset_ob hc) ⟨(Nat.le_of_ble_eq_true rfl), rfl, (Nat.le_of_ble_eq_true rfl), (Nat.le_of_ble_eq_true rfl)⟩ rfl (Nat.le_of_ble_eq_true rfl) (c_m_al hc q 0 hq (by omega)) ?_
    rintro _ _ ⟨rfl, rfl⟩
    refine ⟨_, rfl, ?_⟩
    refine w_iconst (v := 4) rfl (by decide) ?_
    refine w_if_icmp_ne rfl rfl (fun c17 => ?_) (fun c17 => ?_)
    · refine w_iconst (v := 0) rfl (by decide) ?_
      refine w_istore_n rfl (Nat.le_of_ble_eq_true rfl) ?_
      refine w_iconst (v := 0) rfl (by decide) ?_
      refine w_istore_n rfl (Nat.le_of_ble_eq_true rfl) ?_
      refine l_m_ak hc q hq (fun lv e0 e1 e2 => ?_) 4 0 _ (by omega) rfl rfl rfl rfl
      refine w_iload_n rfl e2 ?_
      refine w_iconst (v := 3) rfl (by decide) ?_
      refine w_if_icmp_lt rfl rfl (fun c121 => ?_) (fun c121 => ?_)
      · exact w_return rfl rfl ⟨(by first | (simp only [f_look, (eq_true c6), c17, c121, if_true, if_false, and_true, true_and, and_false, false_and, or_true, true_or, or_false, false_or, not_true_eq_false, not_false_eq_true, ite_self]; done) | (simp only [f_look, (eq_true c6), c17, c121, if_true, if_false, and_true, true_and, and_false, false_and, or_true, true_or, or_false, false_or, not_true_eq_false, not_false_eq_true, ite_self]; rfl) | rfl), (by first | (simp only [f_look, (eq_true c6), c17, c121, if_true, if_false, and_true, true_and, and_false, false_and, or_true, true_or, or_false, false_or, not_true_eq_false, not_false_eq_true, ite_self]; done) | (simp only [f_look, (eq_true c6), c17, c121, if_true, if_false, and_true, true_and, and_false, false_and, or_true, true_or, or_false, false_or, not_true_eq_false, not_false_eq_true, ite_self]; rfl) | rfl)⟩
      · refine w_aload_n rfl e0 ?_
        refine w_iload_n rfl e1 ?_
        refine w_aload_n rfl e0 ?_
        refine w_getfield rfl (mset_ob hc) rfl ?_
        refine w_iload_n rfl e1 ?_
        refine w_mil (k := 41) (j := q) rfl hc (by decide) rfl ⟨show q < 12 from by omega, by decide⟩ ?_
        refine w_aload_n rfl e0 ?_
        refine w_getfield rfl (mset_ob hc) rfl ?_
        refine w_iload_n rfl e1 ?_
        refine w_mil (k := 39) (j := q) rfl hc (by decide) rfl ⟨show q < 12 from by omega, by decide⟩ ?_
        refine w_virtual rfl rfl (mset_ob hc) ⟨(Nat.le_of_ble_eq_true rfl), rfl, (Nat.le_of_ble_eq_true rfl), (Nat.le_of_ble_eq_true rfl)⟩ rfl (Nat.le_of_ble_eq_true rfl) (c_m_fin hc q hq _ _) ?_
        rintro _ _ ⟨rfl, rfl⟩
        refine ⟨_, rfl, ?_⟩
        exact w_return rfl rfl ⟨(by first | (simp only [f_look, (eq_true c6), c17, c121, if_true, if_false, and_true, true_and, and_false, false_and, or_true, true_or, or_false, false_or, not_true_eq_false, not_false_eq_true, ite_self]; done) | (simp only [f_look, (eq_true c6), c17, c121, if_true, if_false, and_true, true_and, and_false, false_and, or_true, true_or, or_false, false_or, not_true_eq_false, not_false_eq_true, ite_self]; rfl) | rfl), (by first | (simp only [f_look, (eq_true c6), c17, c121, if_true, if_false, and_true, true_and, and_false, false_and, or_true, true_or, or_false, false_or, not_true_eq_false, not_false_eq_true, ite_self]; done) | (simp only [f_look, (eq_true c6), c17, c121, if_true, if_false, and_true, true_and, and_false, false_and, or_true, true_or, or_false, false_or, not_true_eq_false, not_false_eq_true, ite_self]; rfl) | rfl)⟩
    · refine w_aload_n rfl rfl ?_
      refine w_iload_n rfl rfl ?_
      refine w_aload_n rfl rfl ?_
      refine w_getfield rfl (mset_ob hc) rfl ?_
      refine w_iconst (v := 4) rfl (by decide) ?_
      refine w_iload_n rfl rfl ?_
      refine w_imulN (x := 4) (y := q) rfl rfl rfl ?_
      refine w_mil (k := 33) (j := (4 * q)) rfl hc (by decide) rfl ⟨show (4 * q) < 48 from by omega, by decide⟩ ?_
      refine w_aload_n rfl rfl ?_
      refine w_getfield rfl (mset_ob hc) rfl ?_
      refine w_iconst (v := 4) rfl (by decide) ?_
      refine w_iload_n rfl rfl ?_
      refine w_imulN (x := 4) (y := q) rfl rfl rfl ?_
      refine w_mil (k := 31) (j := (4 * q)) rfl hc (by decide) rfl ⟨show (4 * q) < 48 from by omega, by decide⟩ ?_
      refine w_virtual rfl rfl (mset_ob hc) ⟨(Nat.le_of_ble_eq_true rfl), rfl, (Nat.le_of_ble_eq_true rfl), (Nat.le_of_ble_eq_true rfl)⟩ rfl (Nat.le_of_ble_eq_true rfl) (c_m_fin hc q hq _ _) ?_
      rintro _ _ ⟨rfl, rfl⟩
      refine ⟨_, rfl, ?_⟩
      exact w_return rfl rfl ⟨(by first | (simp only [f_look, (eq_true c6), (eq_true c17), if_true, if_false, and_true, true_and, and_false, false_and, or_true, true_or, or_false, false_or, not_true_eq_false, not_false_eq_true, ite_self]; done) | (simp only [f_look, (eq_true c6), (eq_true c17), if_true, if_false, and_true, true_and, and_false, false_and, or_true, true_or, or_false, false_or, not_true_eq_false, not_false_eq_true, ite_self]; rfl) | rfl), (by first | (simp only [f_look, (eq_true c6), (eq_true c17), if_true, if_false, and_true, true_and, and_false, false_and, or_true, true_or, or_false, false_or, not_true_eq_false, not_false_eq_true, ite_self]; done) | (simp only [f_look, (eq_true c6), (eq_true c17), if_true, if_false, and_true, true_and, and_false, false_and, or_true, true_or, or_false, false_or, not_true_eq_false, not_false_eq_true, ite_self]; rfl) | rfl)⟩
  · exact w_return rfl rfl ⟨(by first | (simp only [f_look, c6, if_true, if_false, and_true, true_and, and_false, false_and, or_true, true_or, or_false, false_or, not_true_eq_false, not_false_eq_true, ite_self]; done) | (simp only [f_look, c6, if_true, if_false, and_true, true_and, and_false, false_and, or_true, true_or, or_false, false_or, not_true_eq_false, not_false_eq_true, ite_self]; rfl) | rfl), (by first | (simp only [f_look, c6, if_true, if_false, and_true, true_and, and_false, false_and, or_true, true_or, or_false, false_or, not_true_eq_false, not_false_eq_true, ite_self]; done) | (simp only [f_look, c6, if_true, if_false, and_true, true_and, and_false, false_and, or_true, true_or, or_false, false_or, not_true_eq_false, not_false_eq_true, ite_self]; rfl) | rfl)⟩
set_option maxRecDepth 100000 in
set_option maxHeartbeats 4000000 in
theorem c_m_trep {sc : pm_Sc} {cs : List pm_C} {s : MS} {kn : Nat × Nat} (hc : 72 < cs.length) (t q : Nat) (ht : t < 4) (hq : q < 12) (v p d res : Int32) : pu sc 105 [.ref 31, .int (nI t), .int (nI q), .int v, .int p, .int d, .int res] (mset cs s, kn) (pz none (mset cs (f_trep s t q v p d res), kn)) := by
  refine w_aload_n rfl rfl ?_
  refine w_iload_n rfl rfl ?_
  refine w_aload_n rfl rfl ?_
  refine w_getfield rfl (mset_ob hc) rfl ?_
  refine w_if_icmp_le rfl rfl (fun c6 => ?_) (fun c6 => ?_)
  · refine w_aload_n rfl rfl ?_
    refine w_getfield rfl (mset_ob hc) rfl ?_
    refine w_mps rfl hc (by decide) rfl ?_
    refine w_iconst (v := 4) rfl (by decide) ?_
    refine w_iload_n rfl rfl ?_
    refine w_imulN (x := 4) (y := q) rfl rfl rfl ?_
    refine w_iload_n rfl rfl ?_
    refine w_iaddN (x := (4 * q)) (y := t) rfl rfl rfl ?_
    refine w_istore rfl (Nat.le_of_ble_eq_true rfl) ?_
    refine w_aload_n rfl rfl ?_
    refine w_getfield rfl (mset_ob hc) rfl ?_
    refine w_iload rfl rfl ?_
    refine w_mil (k := 30) (j := ((4 * q) + t)) rfl hc (by decide) rfl ⟨show ((4 * q) + t) < 48 from by omega, by decide⟩ ?_
    refine w_iload_n rfl rfl ?_
    refine w_if_icmp_gt rfl rfl (fun c35 => ?_) (fun c35 => ?_)
    · refine w_aload_n rfl rfl ?_
      refine w_iload_n rfl rfl ?_
      refine w_virtual rfl rfl (mset_ob hc) ⟨(Nat.le_of_ble_eq_true rfl), rfl, (Nat.le_of_ble_eq_true rfl), (Nat.le_of_ble_eq_true rfl)⟩ rfl (Nat.le_of_ble_eq_true rfl) (c_m_look hc q hq) ?_
      rintro _ _ ⟨rfl, rfl⟩
      refine ⟨_, rfl, ?_⟩
      exact w_return rfl rfl ⟨(by first | (simp only [f_trep, cvw, krp, c6, c35, if_true, if_false, and_true, true_and, and_false, false_and, or_true, true_or, or_false, false_or, not_true_eq_false, not_false_eq_true, ite_self]; done) | (simp only [f_trep, cvw, krp, c6, c35, if_true, if_false, and_true, true_and, and_false, false_and, or_true, true_or, or_false, false_or, not_true_eq_false, not_false_eq_true, ite_self]; rfl) | rfl), (by first | (simp only [f_trep, cvw, krp, c6, c35, if_true, if_false, and_true, true_and, and_false, false_and, or_true, true_or, or_false, false_or, not_true_eq_false, not_false_eq_true, ite_self]; done) | (simp only [f_trep, cvw, krp, c6, c35, if_true, if_false, and_true, true_and, and_false, false_and, or_true, true_or, or_false, false_or, not_true_eq_false, not_false_eq_true, ite_self]; rfl) | rfl)⟩
    · refine w_aload_n rfl rfl ?_
      refine w_getfield rfl (mset_ob hc) rfl ?_
      refine w_iload rfl rfl ?_
      refine w_iload_n rfl rfl ?_
      refine w_mis (k := 30) (j := ((4 * q) + t)) rfl hc (by decide) rfl ⟨show ((4 * q) + t) < 48 from by omega, by decide⟩ ?_
      refine w_aload_n rfl rfl ?_
      refine w_getfield rfl (mset_ob hc) rfl ?_
      refine w_iload rfl rfl ?_
      refine w_iload rfl rfl ?_
      refine w_mis (k := 31) (j := ((4 * q) + t)) rfl hc (by decide) rfl ⟨show ((4 * q) + t) < 48 from by omega, by decide⟩ ?_
      refine w_aload_n rfl rfl ?_
      refine w_getfield rfl (mset_ob hc) rfl ?_
      refine w_iload rfl rfl ?_
      refine w_iload rfl rfl ?_
      refine w_mis (k := 32) (j := ((4 * q) + t)) rfl hc (by decide) rfl ⟨show ((4 * q) + t) < 48 from by omega, by decide⟩ ?_
      refine w_aload_n rfl rfl ?_
      refine w_getfield rfl (mset_ob hc) rfl ?_
      refine w_iload rfl rfl ?_
      refine w_iload rfl rfl ?_
      refine w_mis (k := 33) (j := ((4 * q) + t)) rfl hc (by decide) rfl ⟨show ((4 * q) + t) < 48 from by omega, by decide⟩ ?_
      refine w_aload_n rfl rfl ?_
      refine w_iload_n rfl rfl ?_
      refine w_virtual rfl rfl (mset_ob hc) ⟨(Nat.le_of_ble_eq_true rfl), rfl, (Nat.le_of_ble_eq_true rfl), (Nat.le_of_ble_eq_true rfl)⟩ rfl (Nat.le_of_ble_eq_true rfl) (c_m_look hc q hq) ?_
      rintro _ _ ⟨rfl, rfl⟩
      refine ⟨_, rfl, ?_⟩
      exact w_return rfl rfl ⟨(by first | (simp only [f_trep, cvw, krp, c6, c35, if_true, if_false, and_true, true_and, and_false, false_and, or_true, true_or, or_false, false_or, not_true_eq_false, not_false_eq_true, ite_self]; done) | (simp only [f_trep, cvw, krp, c6, c35, if_true, if_false, and_true, true_and, and_false, false_and, or_true, true_or, or_false, false_or, not_true_eq_false, not_false_eq_true, ite_self]; rfl) | rfl), (by first | (simp only [f_trep, cvw, krp, c6, c35, if_true, if_false, and_true, true_and, and_false, false_and, or_true, true_or, or_false, false_or, not_true_eq_false, not_false_eq_true, ite_self]; done) | (simp only [f_trep, cvw, krp, c6, c35, if_true, if_false, and_true, true_and, and_false, false_and, or_true, true_or, or_false, false_or, not_true_eq_false, not_false_eq_true, ite_self]; rfl) | rfl)⟩
  · refine w_iload_n rfl rfl ?_
    refine w_goto rfl rfl ?_
    refine w_mps rfl hc (by decide) rfl ?_
    refine w_iconst (v := 4) rfl (by decide) ?_
    refine w_iload_n rfl rfl ?_
    refine w_imulN (x := 4) (y := q) rfl rfl rfl ?_
    refine w_iload_n rfl rfl ?_
    refine w_iaddN (x := (4 * q)) (y := t) rfl rfl rfl ?_
    refine w_istore rfl (Nat.le_of_ble_eq_true rfl) ?_
    refine w_aload_n rfl rfl ?_
    refine w_getfield rfl (mset_ob hc) rfl ?_
    refine w_iload rfl rfl ?_
    refine w_mil (k := 30) (j := ((4 * q) + t)) rfl hc (by decide) rfl ⟨show ((4 * q) + t) < 48 from by omega, by decide⟩ ?_
    refine w_iload_n rfl rfl ?_
    refine w_if_icmp_gt rfl rfl (fun c35 => ?_) (fun c35 => ?_)
    · refine w_aload_n rfl rfl ?_
      refine w_iload_n rfl rfl ?_
      refine w_virtual rfl rfl (mset_ob hc) ⟨(Nat.le_of_ble_eq_true rfl), rfl, (Nat.le_of_ble_eq_true rfl), (Nat.le_of_ble_eq_true rfl)⟩ rfl (Nat.le_of_ble_eq_true rfl) (c_m_look hc q hq) ?_
      rintro _ _ ⟨rfl, rfl⟩
      refine ⟨_, rfl, ?_⟩
      exact w_return rfl rfl ⟨(by first | (simp only [f_trep, cvw, krp, c6, c35, if_true, if_false, and_true, true_and, and_false, false_and, or_true, true_or, or_false, false_or, not_true_eq_false, not_false_eq_true, ite_self]; done) | (simp only [f_trep, cvw, krp, c6, c35, if_true, if_false, and_true, true_and, and_false, false_and, or_true, true_or, or_false, false_or, not_true_eq_false, not_false_eq_true, ite_self]; rfl) | rfl), (by first | (simp only [f_trep, cvw, krp, c6, c35, if_true, if_false, and_true, true_and, and_false, false_and, or_true, true_or, or_false, false_or, not_true_eq_false, not_false_eq_true, ite_self]; done) | (simp only [f_trep, cvw, krp, c6, c35, if_true, if_false, and_true, true_and, and_false, false_and, or_true, true_or, or_false, false_or, not_true_eq_false, not_false_eq_true, ite_self]; rfl) | rfl)⟩
    · refine w_aload_n rfl rfl ?_
      refine w_getfield rfl (mset_ob hc) rfl ?_
      refine w_iload rfl rfl ?_
      refine w_iload_n rfl rfl ?_
      refine w_mis (k := 30) (j := ((4 * q) + t)) rfl hc (by decide) rfl ⟨show ((4 * q) + t) < 48 from by omega, by decide⟩ ?_
      refine w_aload_n rfl rfl ?_
      refine w_getfield rfl (mset_ob hc) rfl ?_
      refine w_iload rfl rfl ?_
      refine w_iload rfl rfl ?_
      refine w_mis (k := 31) (j := ((4 * q) + t)) rfl hc (by decide) rfl ⟨show ((4 * q) + t) < 48 from by omega, by decide⟩ ?_
      refine w_aload_n rfl rfl ?_
      refine w_getfield rfl (mset_ob hc) rfl ?_
      refine w_iload rfl rfl ?_
      refine w_iload rfl rfl ?_
      refine w_mis (k := 32) (j := ((4 * q) + t)) rfl hc (by decide) rfl ⟨show ((4 * q) + t) < 48 from by omega, by decide⟩ ?_
      refine w_aload_n rfl rfl ?_
      refine w_getfield rfl (mset_ob hc) rfl ?_
      refine w_iload rfl rfl ?_
      refine w_iload rfl rfl ?_
      refine w_mis (k := 33) (j := ((4 * q) + t)) rfl hc (by decide) rfl ⟨show ((4 * q) + t) < 48 from by omega, by decide⟩ ?_
      refine w_aload_n rfl rfl ?_
      refine w_iload_n rfl rfl ?_
      refine w_virtual rfl rfl (mset_ob hc) ⟨(Nat.le_of_ble_eq_true rfl), rfl, (Nat.le_of_ble_eq_true rfl), (Nat.le_of_ble_eq_true rfl)⟩ rfl (Nat.le_of_ble_eq_true rfl) (c_m_look hc q hq) ?_
      rintro _ _ ⟨rfl, rfl⟩
      refine ⟨_, rfl, ?_⟩
      exact w_return rfl rfl ⟨(by first | (simp only [f_trep, cvw, krp, c6, c35, if_true, if_false, and_true, true_and, and_false, false_and, or_true, true_or, or_false, false_or, not_true_eq_false, not_false_eq_true, ite_self]; done) | (simp only [f_trep, cvw, krp, c6, c35, if_true, if_false, and_true, true_and, and_false, false_and, or_true, true_or, or_false, false_or, not_true_eq_false, not_false_eq_true, ite_self]; rfl) | rfl), (by first | (simp only [f_trep, cvw, krp, c6, c35, if_true, if_false, and_true, true_and, and_false, false_and, or_true, true_or, or_false, false_or, not_true_eq_false, not_false_eq_true, ite_self]; done) | (simp only [f_trep, cvw, krp, c6, c35, if_true, if_false, and_true, true_and, and_false, false_and, or_true, true_or, or_false, false_or, not_true_eq_false, not_false_eq_true, ite_self]; rfl) | rfl)⟩
set_option maxRecDepth 100000 in
set_option maxHeartbeats 4000000 in
theorem l_m_lk {sc : pm_Sc} {cs : List pm_C} {kn : Nat × Nat} (hc : 72 < cs.length) {s : MS} (n : Nat) (hn : n ≤ 12) (hq : s.1 2 0 = nI n) : ∀ (d k : Nat) (lv : pm_L), k + d = n → pm_ld lv 0 = some (.ref 31) → pm_ld lv 3 = some (.int (nI k)) → pw sc 106 (45, lv, [], (mset cs (lkN s k), kn)) (pz none (mset cs (lkN s n), kn)) := by
  intro d
  induction d with
  | zero =>
    intro k lv hk g0 g3
    obtain rfl : n = k := by omega
    have hq2 : (lkN s n).1 2 0 = nI n := (lkN_k (by omega) n).trans hq
    refine w_iload_n rfl g3 ?_
    refine w_aload_n rfl g0 ?_
    refine w_getfield rfl (mset_ob hc) rfl ?_
    rw [hq2]
    refine w_if_icmp_ge rfl rfl (fun c50 => ?_) (fun c50 => ?_)
    · exact w_return rfl rfl ⟨(by first | rfl | (simp only [c50, if_true, if_false, and_true, true_and, and_false, false_and, or_true, true_or, or_false, false_or, not_true_eq_false, not_false_eq_true, ite_self]; done) | (simp only [c50, if_true, if_false, and_true, true_and, and_false, false_and, or_true, true_or, or_false, false_or, not_true_eq_false, not_false_eq_true, ite_self]; rfl)), (by first | rfl | (simp only [c50, if_true, if_false, and_true, true_and, and_false, false_and, or_true, true_or, or_false, false_or, not_true_eq_false, not_false_eq_true, ite_self]; done) | (simp only [c50, if_true, if_false, and_true, true_and, and_false, false_and, or_true, true_or, or_false, false_or, not_true_eq_false, not_false_eq_true, ite_self]; rfl))⟩
    · exact absurd (nI_le (a := n) (b := n) (Nat.le_refl _) (by omega)) c50
  | succ d ih =>
    intro k lv hk g0 g3
    have hq2 : (lkN s k).1 2 0 = nI n := (lkN_k (by omega) k).trans hq
    refine w_iload_n rfl g3 ?_
    refine w_aload_n rfl g0 ?_
    refine w_getfield rfl (mset_ob hc) rfl ?_
    rw [hq2]
    refine w_if_icmp_ge rfl rfl (fun c50 => ?_) (fun c50 => ?_)
    · exact absurd c50 (nI_ge (a := k) (b := n) (by omega) (by omega))
    · refine w_aload_n rfl g0 ?_
      refine w_iload_n rfl g3 ?_
      refine w_virtual rfl rfl (mset_ob hc) ⟨(Nat.le_of_ble_eq_true rfl), rfl, (Nat.le_of_ble_eq_true rfl), (Nat.le_of_ble_eq_true rfl)⟩ rfl (Nat.le_of_ble_eq_true rfl) (c_m_look hc k (by omega)) ?_
      rintro _ _ ⟨rfl, rfl⟩
      refine ⟨_, rfl, ?_⟩
      refine w_iincN (j := k) rfl rfl g3 (Nat.le_of_ble_eq_true rfl) ?_
      refine w_goto rfl rfl ?_
      exact ih (k + 1) _ (by omega) (ld_s1 (by decide) g0 (fun _ => rfl)) ld_self
set_option maxRecDepth 100000 in
set_option maxHeartbeats 4000000 in
theorem c_m_tack {sc : pm_Sc} {cs : List pm_C} {s : MS} {kn : Nat × Nat} (hc : 72 < cs.length) (r j : Nat) (hr : r < 4) (hj : j < 600) {n : Nat} (hn : n ≤ 12) (hq : s.1 2 0 = nI n) (hs : s.1 19 j = nI r) : pu sc 106 [.ref 31, .int (nI j)] (mset cs s, kn) (pz none (mset cs (f_tack s r j), kn)) := by
  have hqn : nqN s = n := by rw [nqN, hq, nI_clamp (by omega)]
  rw [f_tack, hqn]
  refine w_aload_n rfl rfl ?_
  refine w_getfield rfl (mset_ob hc) rfl ?_
  refine w_iload_n rfl rfl ?_
  refine w_mil (k := 19) (j := j) rfl hc (by decide) rfl ⟨show j < 600 from by omega, by decide⟩ ?_
  rw [hs]
  refine w_istore_n rfl (Nat.le_of_ble_eq_true rfl) ?_
  refine w_aload_n rfl rfl ?_
  refine w_getfield rfl (mset_ob hc) rfl ?_
  refine w_iload_n rfl rfl ?_
  refine w_aload_n rfl rfl ?_
  refine w_getfield rfl (mset_ob hc) rfl ?_
  refine w_iload_n rfl rfl ?_
  refine w_mil (k := 21) (j := j) rfl hc (by decide) rfl ⟨show j < 600 from by omega, by decide⟩ ?_
  refine w_mis (k := 34) (j := r) rfl hc (by decide) rfl ⟨show r < 4 from by omega, by decide⟩ ?_
  refine w_aload_n rfl rfl ?_
  refine w_getfield rfl (mset_ob hc) rfl ?_
  refine w_iload_n rfl rfl ?_
  refine w_aload_n rfl rfl ?_
  refine w_getfield rfl (mset_ob hc) rfl ?_
  refine w_iload_n rfl rfl ?_
  refine w_mil (k := 22) (j := j) rfl hc (by decide) rfl ⟨show j < 600 from by omega, by decide⟩ ?_
  refine w_mis (k := 35) (j := r) rfl hc (by decide) rfl ⟨show r < 4 from by omega, by decide⟩ ?_
  refine w_aload_n rfl rfl ?_
  refine w_getfield rfl (mset_ob hc) rfl ?_
  refine w_iload_n rfl rfl ?_
  refine w_aload_n rfl rfl ?_
  refine w_getfield rfl (mset_ob hc) rfl ?_
  refine w_iload_n rfl rfl ?_
  refine w_mil (k := 24) (j := j) rfl hc (by decide) rfl ⟨show j < 600 from by omega, by decide⟩ ?_
  refine w_mis (k := 36) (j := r) rfl hc (by decide) rfl ⟨show r < 4 from by omega, by decide⟩ ?_
  refine w_iconst (v := 0) rfl (by decide) ?_
  refine w_istore_n rfl (Nat.le_of_ble_eq_true rfl) ?_
  exact l_m_lk (s := ackS s r j) hc n hn hq n 0 _ (by omega) rfl rfl
set_option maxRecDepth 100000 in
set_option maxHeartbeats 4000000 in
theorem c_m_refuse {sc : pm_Sc} {cs : List pm_C} {s : MS} {kn : Nat × Nat} (hc : 72 < cs.length) (c : Int32) : pu sc 74 [.ref 31, .int c] (mset cs s, kn) (pz (some (.int (0))) (mset cs (up s 0 0 c), kn)) := by
  refine w_aload_n rfl rfl ?_
  refine w_iload_n rfl rfl ?_
  refine w_mps rfl hc (by decide) rfl ?_
  refine w_iconst (v := 0) rfl (by decide) ?_
  exact w_ireturn rfl (by first | exact Or.inl rfl | exact Or.inr ⟨rfl, Or.inl rfl⟩ | exact Or.inr ⟨rfl, Or.inr rfl⟩ | exact Or.inr ⟨rfl, by assumption⟩) ⟨(by first | rfl | (simp only [if_true, if_false, and_true, true_and, and_false, false_and, or_true, true_or, or_false, false_or, not_true_eq_false, not_false_eq_true, ite_self]; done) | (simp only [if_true, if_false, and_true, true_and, and_false, false_and, or_true, true_or, or_false, false_or, not_true_eq_false, not_false_eq_true, ite_self]; rfl)), (by first | rfl | (simp only [if_true, if_false, and_true, true_and, and_false, false_and, or_true, true_or, or_false, false_or, not_true_eq_false, not_false_eq_true, ite_self]; done) | (simp only [if_true, if_false, and_true, true_and, and_false, false_and, or_true, true_or, or_false, false_or, not_true_eq_false, not_false_eq_true, ite_self]; rfl))⟩
set_option maxRecDepth 100000 in
set_option maxHeartbeats 4000000 in
theorem c_m_refT {sc : pm_Sc} {cs : List pm_C} {s : MS} {kn : Nat × Nat} (hc : 72 < cs.length)  : pu sc 115 [.ref 31] (mset cs s, kn) (pz (some (.int (0))) (mset cs (up s 0 0 1), kn)) := by
  refine w_aload_n rfl rfl ?_
  refine w_iconst (v := 1) rfl (by decide) ?_
  refine w_mps rfl hc (by decide) rfl ?_
  refine w_iconst (v := 0) rfl (by decide) ?_
  exact w_ireturn rfl (by first | exact Or.inl rfl | exact Or.inr ⟨rfl, Or.inl rfl⟩ | exact Or.inr ⟨rfl, Or.inr rfl⟩ | exact Or.inr ⟨rfl, by assumption⟩) ⟨(by first | rfl | (simp only [if_true, if_false, and_true, true_and, and_false, false_and, or_true, true_or, or_false, false_or, not_true_eq_false, not_false_eq_true, ite_self]; done) | (simp only [if_true, if_false, and_true, true_and, and_false, false_and, or_true, true_or, or_false, false_or, not_true_eq_false, not_false_eq_true, ite_self]; rfl)), (by first | rfl | (simp only [if_true, if_false, and_true, true_and, and_false, false_and, or_true, true_or, or_false, false_or, not_true_eq_false, not_false_eq_true, ite_self]; done) | (simp only [if_true, if_false, and_true, true_and, and_false, false_and, or_true, true_or, or_false, false_or, not_true_eq_false, not_false_eq_true, ite_self]; rfl))⟩
set_option maxRecDepth 100000 in
set_option maxHeartbeats 4000000 in
theorem c_m_thrown {sc : pm_Sc} {cs : List pm_C} {s : MS} {kn : Nat × Nat} (hc : 72 < cs.length)  : pu sc 73 [.ref 31] (mset cs s, kn) (pz (some (.int (s.1 0 0))) (mset cs s, kn)) := by
  refine w_aload_n rfl rfl ?_
  refine w_getfield rfl (mset_ob hc) rfl ?_
  exact w_ireturn rfl (by first | exact Or.inl rfl | exact Or.inr ⟨rfl, Or.inl rfl⟩ | exact Or.inr ⟨rfl, Or.inr rfl⟩ | exact Or.inr ⟨rfl, by assumption⟩) ⟨(by first | rfl | (simp only [if_true, if_false, and_true, true_and, and_false, false_and, or_true, true_or, or_false, false_or, not_true_eq_false, not_false_eq_true, ite_self]; done) | (simp only [if_true, if_false, and_true, true_and, and_false, false_and, or_true, true_or, or_false, false_or, not_true_eq_false, not_false_eq_true, ite_self]; rfl)), (by first | rfl | (simp only [if_true, if_false, and_true, true_and, and_false, false_and, or_true, true_or, or_false, false_or, not_true_eq_false, not_false_eq_true, ite_self]; done) | (simp only [if_true, if_false, and_true, true_and, and_false, false_and, or_true, true_or, or_false, false_or, not_true_eq_false, not_false_eq_true, ite_self]; rfl))⟩
set_option maxRecDepth 100000 in
set_option maxHeartbeats 4000000 in
theorem c_m_isReq {sc : pm_Sc} {cs : List pm_C} {s : MS} {kn : Nat × Nat} (hc : 72 < cs.length) (x : Int32) : pu sc 108 [.ref 31, .int x] (mset cs s, kn) (pz (some (.int (b01 (¬ x < 0 ∧ ¬ s.1 2 0 ≤ x)))) (mset cs s, kn)) := by
  refine w_iload_n rfl rfl ?_
  refine w_ifCond_lt rfl rfl (fun c1 => ?_) (fun c1 => ?_)
  · refine w_iconst (v := 0) rfl (by decide) ?_
    exact w_ireturn rfl (by first | exact Or.inl rfl | exact Or.inr ⟨rfl, Or.inl rfl⟩ | exact Or.inr ⟨rfl, Or.inr rfl⟩ | exact Or.inr ⟨rfl, by assumption⟩) ⟨(by first | (simp only [b01, c1, if_true, if_false, and_true, true_and, and_false, false_and, or_true, true_or, or_false, false_or, not_true_eq_false, not_false_eq_true, ite_self]; done) | (simp only [b01, c1, if_true, if_false, and_true, true_and, and_false, false_and, or_true, true_or, or_false, false_or, not_true_eq_false, not_false_eq_true, ite_self]; rfl) | rfl), (by first | (simp only [b01, c1, if_true, if_false, and_true, true_and, and_false, false_and, or_true, true_or, or_false, false_or, not_true_eq_false, not_false_eq_true, ite_self]; done) | (simp only [b01, c1, if_true, if_false, and_true, true_and, and_false, false_and, or_true, true_or, or_false, false_or, not_true_eq_false, not_false_eq_true, ite_self]; rfl) | rfl)⟩
  · refine w_iload_n rfl rfl ?_
    refine w_aload_n rfl rfl ?_
    refine w_getfield rfl (mset_ob hc) rfl ?_
    refine w_if_icmp_ge rfl rfl (fun c9 => ?_) (fun c9 => ?_)
    · refine w_iconst (v := 0) rfl (by decide) ?_
      exact w_ireturn rfl (by first | exact Or.inl rfl | exact Or.inr ⟨rfl, Or.inl rfl⟩ | exact Or.inr ⟨rfl, Or.inr rfl⟩ | exact Or.inr ⟨rfl, by assumption⟩) ⟨(by first | (simp only [b01, c1, c9, if_true, if_false, and_true, true_and, and_false, false_and, or_true, true_or, or_false, false_or, not_true_eq_false, not_false_eq_true, ite_self]; done) | (simp only [b01, c1, c9, if_true, if_false, and_true, true_and, and_false, false_and, or_true, true_or, or_false, false_or, not_true_eq_false, not_false_eq_true, ite_self]; rfl) | rfl), (by first | (simp only [b01, c1, c9, if_true, if_false, and_true, true_and, and_false, false_and, or_true, true_or, or_false, false_or, not_true_eq_false, not_false_eq_true, ite_self]; done) | (simp only [b01, c1, c9, if_true, if_false, and_true, true_and, and_false, false_and, or_true, true_or, or_false, false_or, not_true_eq_false, not_false_eq_true, ite_self]; rfl) | rfl)⟩
    · refine w_iconst (v := 1) rfl (by decide) ?_
      refine w_goto rfl rfl ?_
      exact w_ireturn rfl (by first | exact Or.inl rfl | exact Or.inr ⟨rfl, Or.inl rfl⟩ | exact Or.inr ⟨rfl, Or.inr rfl⟩ | exact Or.inr ⟨rfl, by assumption⟩) ⟨(by first | (simp only [b01, c1, c9, if_true, if_false, and_true, true_and, and_false, false_and, or_true, true_or, or_false, false_or, not_true_eq_false, not_false_eq_true, ite_self]; done) | (simp only [b01, c1, c9, if_true, if_false, and_true, true_and, and_false, false_and, or_true, true_or, or_false, false_or, not_true_eq_false, not_false_eq_true, ite_self]; rfl) | rfl), (by first | (simp only [b01, c1, c9, if_true, if_false, and_true, true_and, and_false, false_and, or_true, true_or, or_false, false_or, not_true_eq_false, not_false_eq_true, ite_self]; done) | (simp only [b01, c1, c9, if_true, if_false, and_true, true_and, and_false, false_and, or_true, true_or, or_false, false_or, not_true_eq_false, not_false_eq_true, ite_self]; rfl) | rfl)⟩
set_option maxRecDepth 100000 in
set_option maxHeartbeats 4000000 in
theorem c_m_und0 {sc : pm_Sc} {cs : List pm_C} {s : MS} {kn : Nat × Nat} (hc : 72 < cs.length) (x : Int32) (h : x < 0 ∨ s.1 17 0 ≤ x) : pu sc 110 [.ref 31, .int x] (mset cs s, kn) (pz (some (.int (0))) (mset cs s, kn)) := by
  refine w_iload_n rfl rfl ?_
  refine w_ifCond_lt rfl rfl (fun c1 => ?_) (fun c1 => ?_)
  · refine w_iconst (v := 0) rfl (by decide) ?_
    exact w_ireturn rfl (by first | exact Or.inl rfl | exact Or.inr ⟨rfl, Or.inl rfl⟩ | exact Or.inr ⟨rfl, Or.inr rfl⟩ | exact Or.inr ⟨rfl, by assumption⟩) ⟨(by first | rfl | (simp only [c1, if_true, if_false, and_true, true_and, and_false, false_and, or_true, true_or, or_false, false_or, not_true_eq_false, not_false_eq_true, ite_self]; done) | (simp only [c1, if_true, if_false, and_true, true_and, and_false, false_and, or_true, true_or, or_false, false_or, not_true_eq_false, not_false_eq_true, ite_self]; rfl)), (by first | rfl | (simp only [c1, if_true, if_false, and_true, true_and, and_false, false_and, or_true, true_or, or_false, false_or, not_true_eq_false, not_false_eq_true, ite_self]; done) | (simp only [c1, if_true, if_false, and_true, true_and, and_false, false_and, or_true, true_or, or_false, false_or, not_true_eq_false, not_false_eq_true, ite_self]; rfl))⟩
  · refine w_iload_n rfl rfl ?_
    refine w_aload_n rfl rfl ?_
    refine w_getfield rfl (mset_ob hc) rfl ?_
    refine w_if_icmp_ge rfl rfl (fun c9 => ?_) (fun c9 => ?_)
    · refine w_iconst (v := 0) rfl (by decide) ?_
      exact w_ireturn rfl (by first | exact Or.inl rfl | exact Or.inr ⟨rfl, Or.inl rfl⟩ | exact Or.inr ⟨rfl, Or.inr rfl⟩ | exact Or.inr ⟨rfl, by assumption⟩) ⟨(by first | rfl | (simp only [c1, c9, if_true, if_false, and_true, true_and, and_false, false_and, or_true, true_or, or_false, false_or, not_true_eq_false, not_false_eq_true, ite_self]; done) | (simp only [c1, c9, if_true, if_false, and_true, true_and, and_false, false_and, or_true, true_or, or_false, false_or, not_true_eq_false, not_false_eq_true, ite_self]; rfl)), (by first | rfl | (simp only [c1, c9, if_true, if_false, and_true, true_and, and_false, false_and, or_true, true_or, or_false, false_or, not_true_eq_false, not_false_eq_true, ite_self]; done) | (simp only [c1, c9, if_true, if_false, and_true, true_and, and_false, false_and, or_true, true_or, or_false, false_or, not_true_eq_false, not_false_eq_true, ite_self]; rfl))⟩
    · exact absurd h (fun z => z.elim c1 c9)
set_option maxRecDepth 100000 in
set_option maxHeartbeats 4000000 in
theorem c_m_und1 {sc : pm_Sc} {cs : List pm_C} {s : MS} {kn : Nat × Nat} (hc : 72 < cs.length) (j : Nat) {m : Nat} (hm : s.1 17 0 = nI m) (h6 : m ≤ 600) (hj : j < m) : pu sc 110 [.ref 31, .int (nI j)] (mset cs s, kn) (pz (some (.int (b01 (s.1 28 j = 0)))) (mset cs s, kn)) := by
  refine w_iload_n rfl rfl ?_
  refine w_ifCond_lt rfl rfl (fun c1 => ?_) (fun c1 => ?_)
  · exact absurd c1 (nI_pos (by omega))
  · refine w_iload_n rfl rfl ?_
    refine w_aload_n rfl rfl ?_
    refine w_getfield rfl (mset_ob hc) rfl ?_
    refine w_if_icmp_ge rfl rfl (fun c9 => ?_) (fun c9 => ?_)
    · exact absurd c9 (by rw [hm]; exact nI_ge hj (by omega))
    · refine w_aload_n rfl rfl ?_
      refine w_getfield rfl (mset_ob hc) rfl ?_
      refine w_iload_n rfl rfl ?_
      refine w_mil (k := 28) (j := j) rfl hc (by decide) rfl ⟨show j < 600 from by omega, by decide⟩ ?_
      refine w_ifCond_ne rfl rfl (fun c18 => ?_) (fun c18 => ?_)
      · refine w_iconst (v := 0) rfl (by decide) ?_
        exact w_ireturn rfl (by first | exact Or.inl rfl | exact Or.inr ⟨rfl, Or.inl rfl⟩ | exact Or.inr ⟨rfl, Or.inr rfl⟩ | exact Or.inr ⟨rfl, by assumption⟩) ⟨(by first | (simp only [b01, c1, c9, c18, if_true, if_false, and_true, true_and, and_false, false_and, or_true, true_or, or_false, false_or, not_true_eq_false, not_false_eq_true, ite_self]; done) | (simp only [b01, c1, c9, c18, if_true, if_false, and_true, true_and, and_false, false_and, or_true, true_or, or_false, false_or, not_true_eq_false, not_false_eq_true, ite_self]; rfl) | rfl), (by first | (simp only [b01, c1, c9, c18, if_true, if_false, and_true, true_and, and_false, false_and, or_true, true_or, or_false, false_or, not_true_eq_false, not_false_eq_true, ite_self]; done) | (simp only [b01, c1, c9, c18, if_true, if_false, and_true, true_and, and_false, false_and, or_true, true_or, or_false, false_or, not_true_eq_false, not_false_eq_true, ite_self]; rfl) | rfl)⟩
      · refine w_iconst (v := 1) rfl (by decide) ?_
        refine w_goto rfl rfl ?_
        exact w_ireturn rfl (by first | exact Or.inl rfl | exact Or.inr ⟨rfl, Or.inl rfl⟩ | exact Or.inr ⟨rfl, Or.inr rfl⟩ | exact Or.inr ⟨rfl, by assumption⟩) ⟨(by first | (simp only [b01, c1, c9, (eq_true c18), if_true, if_false, and_true, true_and, and_false, false_and, or_true, true_or, or_false, false_or, not_true_eq_false, not_false_eq_true, ite_self]; done) | (simp only [b01, c1, c9, (eq_true c18), if_true, if_false, and_true, true_and, and_false, false_and, or_true, true_or, or_false, false_or, not_true_eq_false, not_false_eq_true, ite_self]; rfl) | rfl), (by first | (simp only [b01, c1, c9, (eq_true c18), if_true, if_false, and_true, true_and, and_false, false_and, or_true, true_or, or_false, false_or, not_true_eq_false, not_false_eq_true, ite_self]; done) | (simp only [b01, c1, c9, (eq_true c18), if_true, if_false, and_true, true_and, and_false, false_and, or_true, true_or, or_false, false_or, not_true_eq_false, not_false_eq_true, ite_self]; rfl) | rfl)⟩
def iss (s : MS) (o k a : Int32) : MS := up (up (up (up s 3 (nqN s) o) 4 (nqN s) k) 5 (nqN s) a) 2 0 (nI (nqN s + 1))
def f_issue (s : MS) (o k a : Int32) : MS := if o < 0 ∨ 2 < o ∨ k < 0 ∨ ¬ k ≤ 3 then up s 0 0 1 else if s.1 2 0 = 12 then up s 0 0 2 else f_send (iss s o k a) 0 4 (rm4 (s.1 29 0)) 0 (nI (nqN s)) 0 0
def v_issue (s : MS) (o k : Int32) : Int32 := if o < 0 ∨ 2 < o ∨ k < 0 ∨ ¬ k ≤ 3 then 0 else if s.1 2 0 = 12 then 0 else nI (nqN s)
set_option maxRecDepth 100000 in
set_option maxHeartbeats 4000000 in
theorem c_m_issue {sc : pm_Sc} {cs : List pm_C} {s : MS} {kn : Nat × Nat} (hc : 72 < cs.length) {z : MS} (hz : up s 0 0 0 = z) (o k a : Int32) {n m : Nat} (hq : z.1 2 0 = nI n) (hn : n ≤ 12) (hm : z.1 17 0 = nI m) (h6 : m ≤ 600) : pu sc 107 [.ref 31, .int o, .int k, .int a] (mset cs s, kn) (pz (some (.int (v_issue z o k))) (mset cs (f_issue z o k a), kn)) := by
  have hqn : nqN z = n := by rw [nqN, hq, nI_clamp (by omega)]
  refine w_aload_n rfl rfl ?_
  refine w_iconst (v := 0) rfl (by decide) ?_
  refine w_mps rfl hc (by decide) rfl ?_
  rw [hz]
  refine w_iload_n rfl rfl ?_
  refine w_ifCond_lt rfl rfl (fun c6 => ?_) (fun c6 => ?_)
  · refine w_aload_n rfl rfl ?_
    refine w_iconst (v := 1) rfl (by decide) ?_
    refine w_virtual rfl rfl (mset_ob hc) ⟨(Nat.le_of_ble_eq_true rfl), rfl, (Nat.le_of_ble_eq_true rfl), (Nat.le_of_ble_eq_true rfl)⟩ rfl (Nat.le_of_ble_eq_true rfl) (c_m_refuse hc 1) ?_
    rintro _ _ ⟨rfl, rfl⟩
    refine ⟨_, rfl, ?_⟩
    exact w_ireturn rfl (by first | exact Or.inl rfl | exact Or.inr ⟨rfl, Or.inl rfl⟩ | exact Or.inr ⟨rfl, Or.inr rfl⟩ | exact Or.inr ⟨rfl, by assumption⟩) ⟨(by first | (simp only [f_issue, v_issue, iss, hqn, Nat.add_sub_cancel, c6, if_true, if_false, and_true, true_and, and_false, false_and, or_true, true_or, or_false, false_or, not_true_eq_false, not_false_eq_true, ite_self]; done) | (simp only [f_issue, v_issue, iss, hqn, Nat.add_sub_cancel, c6, if_true, if_false, and_true, true_and, and_false, false_and, or_true, true_or, or_false, false_or, not_true_eq_false, not_false_eq_true, ite_self]; rfl) | rfl), (by first | (simp only [f_issue, v_issue, iss, hqn, Nat.add_sub_cancel, c6, if_true, if_false, and_true, true_and, and_false, false_and, or_true, true_or, or_false, false_or, not_true_eq_false, not_false_eq_true, ite_self]; done) | (simp only [f_issue, v_issue, iss, hqn, Nat.add_sub_cancel, c6, if_true, if_false, and_true, true_and, and_false, false_and, or_true, true_or, or_false, false_or, not_true_eq_false, not_false_eq_true, ite_self]; rfl) | rfl)⟩
  · refine w_iload_n rfl rfl ?_
    refine w_iconst (v := 2) rfl (by decide) ?_
    refine w_if_icmp_gt rfl rfl (fun c11 => ?_) (fun c11 => ?_)
    · refine w_aload_n rfl rfl ?_
      refine w_iconst (v := 1) rfl (by decide) ?_
      refine w_virtual rfl rfl (mset_ob hc) ⟨(Nat.le_of_ble_eq_true rfl), rfl, (Nat.le_of_ble_eq_true rfl), (Nat.le_of_ble_eq_true rfl)⟩ rfl (Nat.le_of_ble_eq_true rfl) (c_m_refuse hc 1) ?_
      rintro _ _ ⟨rfl, rfl⟩
      refine ⟨_, rfl, ?_⟩
      exact w_ireturn rfl (by first | exact Or.inl rfl | exact Or.inr ⟨rfl, Or.inl rfl⟩ | exact Or.inr ⟨rfl, Or.inr rfl⟩ | exact Or.inr ⟨rfl, by assumption⟩) ⟨(by first | (simp only [f_issue, v_issue, iss, hqn, Nat.add_sub_cancel, c6, c11, if_true, if_false, and_true, true_and, and_false, false_and, or_true, true_or, or_false, false_or, not_true_eq_false, not_false_eq_true, ite_self]; done) | (simp only [f_issue, v_issue, iss, hqn, Nat.add_sub_cancel, c6, c11, if_true, if_false, and_true, true_and, and_false, false_and, or_true, true_or, or_false, false_or, not_true_eq_false, not_false_eq_true, ite_self]; rfl) | rfl), (by first | (simp only [f_issue, v_issue, iss, hqn, Nat.add_sub_cancel, c6, c11, if_true, if_false, and_true, true_and, and_false, false_and, or_true, true_or, or_false, false_or, not_true_eq_false, not_false_eq_true, ite_self]; done) | (simp only [f_issue, v_issue, iss, hqn, Nat.add_sub_cancel, c6, c11, if_true, if_false, and_true, true_and, and_false, false_and, or_true, true_or, or_false, false_or, not_true_eq_false, not_false_eq_true, ite_self]; rfl) | rfl)⟩
    · refine w_iload_n rfl rfl ?_
      refine w_ifCond_lt rfl rfl (fun c15 => ?_) (fun c15 => ?_)
      · refine w_aload_n rfl rfl ?_
        refine w_iconst (v := 1) rfl (by decide) ?_
        refine w_virtual rfl rfl (mset_ob hc) ⟨(Nat.le_of_ble_eq_true rfl), rfl, (Nat.le_of_ble_eq_true rfl), (Nat.le_of_ble_eq_true rfl)⟩ rfl (Nat.le_of_ble_eq_true rfl) (c_m_refuse hc 1) ?_
        rintro _ _ ⟨rfl, rfl⟩
        refine ⟨_, rfl, ?_⟩
        exact w_ireturn rfl (by first | exact Or.inl rfl | exact Or.inr ⟨rfl, Or.inl rfl⟩ | exact Or.inr ⟨rfl, Or.inr rfl⟩ | exact Or.inr ⟨rfl, by assumption⟩) ⟨(by first | (simp only [f_issue, v_issue, iss, hqn, Nat.add_sub_cancel, c6, c11, c15, if_true, if_false, and_true, true_and, and_false, false_and, or_true, true_or, or_false, false_or, not_true_eq_false, not_false_eq_true, ite_self]; done) | (simp only [f_issue, v_issue, iss, hqn, Nat.add_sub_cancel, c6, c11, c15, if_true, if_false, and_true, true_and, and_false, false_and, or_true, true_or, or_false, false_or, not_true_eq_false, not_false_eq_true, ite_self]; rfl) | rfl), (by first | (simp only [f_issue, v_issue, iss, hqn, Nat.add_sub_cancel, c6, c11, c15, if_true, if_false, and_true, true_and, and_false, false_and, or_true, true_or, or_false, false_or, not_true_eq_false, not_false_eq_true, ite_self]; done) | (simp only [f_issue, v_issue, iss, hqn, Nat.add_sub_cancel, c6, c11, c15, if_true, if_false, and_true, true_and, and_false, false_and, or_true, true_or, or_false, false_or, not_true_eq_false, not_false_eq_true, ite_self]; rfl) | rfl)⟩
      · refine w_iload_n rfl rfl ?_
        refine w_iconst (v := 3) rfl (by decide) ?_
        refine w_if_icmp_le rfl rfl (fun c20 => ?_) (fun c20 => ?_)
        · refine w_aload_n rfl rfl ?_
          refine w_getfield rfl (mset_ob hc) rfl ?_
          refine w_bipush (v := 12) rfl (by decide) ?_
          refine w_if_icmp_ne rfl rfl (fun c35 => ?_) (fun c35 => ?_)
          · have hn12 : n < 12 := Nat.lt_of_le_of_ne hn (fun g => c35 (by rw [hq, g]; rfl))
            refine w_aload_n rfl rfl ?_
            refine w_getfield rfl (mset_ob hc) rfl ?_
            refine w_aload_n rfl rfl ?_
            refine w_getfield rfl (mset_ob hc) rfl ?_
            refine w_iload_n rfl rfl ?_
            refine w_mis (k := 3) (j := n) rfl hc (by decide) hq ⟨show n < 12 from by omega, by decide⟩ ?_
            refine w_aload_n rfl rfl ?_
            refine w_getfield rfl (mset_ob hc) rfl ?_
            refine w_aload_n rfl rfl ?_
            refine w_getfield rfl (mset_ob hc) rfl ?_
            refine w_iload_n rfl rfl ?_
            refine w_mis (k := 4) (j := n) rfl hc (by decide) hq ⟨show n < 12 from by omega, by decide⟩ ?_
            refine w_aload_n rfl rfl ?_
            refine w_getfield rfl (mset_ob hc) rfl ?_
            refine w_aload_n rfl rfl ?_
            refine w_getfield rfl (mset_ob hc) rfl ?_
            refine w_iload_n rfl rfl ?_
            refine w_mis (k := 5) (j := n) rfl hc (by decide) hq ⟨show n < 12 from by omega, by decide⟩ ?_
            refine w_aload_n rfl rfl ?_
            refine w_dup rfl rfl ?_
            refine w_getfield rfl (mset_ob hc) rfl ?_
            refine w_iconst (v := 1) rfl (by decide) ?_
            refine w_iaddN (x := n) (y := 1) rfl hq rfl ?_
            refine w_mps rfl hc (by decide) rfl ?_
            refine w_aload_n rfl rfl ?_
            refine w_iconst (v := 0) rfl (by decide) ?_
            refine w_iconst (v := 4) rfl (by decide) ?_
            refine w_aload_n rfl rfl ?_
            refine w_getfield rfl (mset_ob hc) rfl ?_
            refine w_iconst (v := 4) rfl (by decide) ?_
            refine w_irem4 rfl ?_
            refine w_iconst (v := 0) rfl (by decide) ?_
            refine w_aload_n rfl rfl ?_
            refine w_getfield rfl (mset_ob hc) rfl ?_
            refine w_iconst (v := 1) rfl (by decide) ?_
            refine w_isubN (x := (n + 1)) (y := 1) rfl rfl rfl (by omega) ?_
            refine w_iconst (v := 0) rfl (by decide) ?_
            refine w_iconst (v := 0) rfl (by decide) ?_
            refine w_virtual rfl rfl (mset_ob hc) ⟨(Nat.le_of_ble_eq_true rfl), rfl, (Nat.le_of_ble_eq_true rfl), (Nat.le_of_ble_eq_true rfl)⟩ rfl (Nat.le_of_ble_eq_true rfl) (c_m_send (s := (up (up (up (up z 3 n o) 4 n k) 5 n a) 2 0 (nI (n + 1)))) hc _ _ _ _ _ _ _ hm h6) ?_
            rintro _ _ ⟨rfl, rfl⟩
            refine ⟨_, rfl, ?_⟩
            refine w_istore rfl (Nat.le_of_ble_eq_true rfl) ?_
            refine w_aload_n rfl rfl ?_
            refine w_getfield rfl (mset_ob hc) rfl ?_
            refine w_iconst (v := 1) rfl (by decide) ?_
            refine w_isubN (x := (n + 1)) (y := 1) rfl (fr_send.1 2 0 (by omega) (by omega)) rfl (by omega) ?_
            exact w_ireturn rfl (by first | exact Or.inl rfl | exact Or.inr ⟨rfl, Or.inl rfl⟩ | exact Or.inr ⟨rfl, Or.inr rfl⟩ | exact Or.inr ⟨rfl, by assumption⟩) ⟨(by first | (simp only [f_issue, v_issue, iss, hqn, Nat.add_sub_cancel, c6, c11, c15, c20, c35, if_true, if_false, and_true, true_and, and_false, false_and, or_true, true_or, or_false, false_or, not_true_eq_false, not_false_eq_true, ite_self]; done) | (simp only [f_issue, v_issue, iss, hqn, Nat.add_sub_cancel, c6, c11, c15, c20, c35, if_true, if_false, and_true, true_and, and_false, false_and, or_true, true_or, or_false, false_or, not_true_eq_false, not_false_eq_true, ite_self]; rfl) | rfl), (by first | (simp only [f_issue, v_issue, iss, hqn, Nat.add_sub_cancel, c6, c11, c15, c20, c35, if_true, if_false, and_true, true_and, and_false, false_and, or_true, true_or, or_false, false_or, not_true_eq_false, not_false_eq_true, ite_self]; done) | (simp only [f_issue, v_issue, iss, hqn, Nat.add_sub_cancel, c6, c11, c15, c20, c35, if_true, if_false, and_true, true_and, and_false, false_and, or_true, true_or, or_false, false_or, not_true_eq_false, not_false_eq_true, ite_self]; rfl) | rfl)⟩
          · refine w_aload_n rfl rfl ?_
            refine w_iconst (v := 2) rfl (by decide) ?_
            refine w_virtual rfl rfl (mset_ob hc) ⟨(Nat.le_of_ble_eq_true rfl), rfl, (Nat.le_of_ble_eq_true rfl), (Nat.le_of_ble_eq_true rfl)⟩ rfl (Nat.le_of_ble_eq_true rfl) (c_m_refuse hc 2) ?_
            rintro _ _ ⟨rfl, rfl⟩
            refine ⟨_, rfl, ?_⟩
            exact w_ireturn rfl (by first | exact Or.inl rfl | exact Or.inr ⟨rfl, Or.inl rfl⟩ | exact Or.inr ⟨rfl, Or.inr rfl⟩ | exact Or.inr ⟨rfl, by assumption⟩) ⟨(by first | (simp only [f_issue, v_issue, iss, hqn, Nat.add_sub_cancel, c6, c11, c15, c20, (eq_true c35), if_true, if_false, and_true, true_and, and_false, false_and, or_true, true_or, or_false, false_or, not_true_eq_false, not_false_eq_true, ite_self]; done) | (simp only [f_issue, v_issue, iss, hqn, Nat.add_sub_cancel, c6, c11, c15, c20, (eq_true c35), if_true, if_false, and_true, true_and, and_false, false_and, or_true, true_or, or_false, false_or, not_true_eq_false, not_false_eq_true, ite_self]; rfl) | rfl), (by first | (simp only [f_issue, v_issue, iss, hqn, Nat.add_sub_cancel, c6, c11, c15, c20, (eq_true c35), if_true, if_false, and_true, true_and, and_false, false_and, or_true, true_or, or_false, false_or, not_true_eq_false, not_false_eq_true, ite_self]; done) | (simp only [f_issue, v_issue, iss, hqn, Nat.add_sub_cancel, c6, c11, c15, c20, (eq_true c35), if_true, if_false, and_true, true_and, and_false, false_and, or_true, true_or, or_false, false_or, not_true_eq_false, not_false_eq_true, ite_self]; rfl) | rfl)⟩
        · refine w_aload_n rfl rfl ?_
          refine w_iconst (v := 1) rfl (by decide) ?_
          refine w_virtual rfl rfl (mset_ob hc) ⟨(Nat.le_of_ble_eq_true rfl), rfl, (Nat.le_of_ble_eq_true rfl), (Nat.le_of_ble_eq_true rfl)⟩ rfl (Nat.le_of_ble_eq_true rfl) (c_m_refuse hc 1) ?_
          rintro _ _ ⟨rfl, rfl⟩
          refine ⟨_, rfl, ?_⟩
          exact w_ireturn rfl (by first | exact Or.inl rfl | exact Or.inr ⟨rfl, Or.inl rfl⟩ | exact Or.inr ⟨rfl, Or.inr rfl⟩ | exact Or.inr ⟨rfl, by assumption⟩) ⟨(by first | (simp only [f_issue, v_issue, iss, hqn, Nat.add_sub_cancel, c6, c11, c15, c20, if_true, if_false, and_true, true_and, and_false, false_and, or_true, true_or, or_false, false_or, not_true_eq_false, not_false_eq_true, ite_self]; done) | (simp only [f_issue, v_issue, iss, hqn, Nat.add_sub_cancel, c6, c11, c15, c20, if_true, if_false, and_true, true_and, and_false, false_and, or_true, true_or, or_false, false_or, not_true_eq_false, not_false_eq_true, ite_self]; rfl) | rfl), (by first | (simp only [f_issue, v_issue, iss, hqn, Nat.add_sub_cancel, c6, c11, c15, c20, if_true, if_false, and_true, true_and, and_false, false_and, or_true, true_or, or_false, false_or, not_true_eq_false, not_false_eq_true, ite_self]; done) | (simp only [f_issue, v_issue, iss, hqn, Nat.add_sub_cancel, c6, c11, c15, c20, if_true, if_false, and_true, true_and, and_false, false_and, or_true, true_or, or_false, false_or, not_true_eq_false, not_false_eq_true, ite_self]; rfl) | rfl)⟩
