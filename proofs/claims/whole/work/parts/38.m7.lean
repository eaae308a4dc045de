-- deps: 37.m6
/-! THE REFERENCE: the calls -/
def frN (s : MS) (q : Nat) : Nat → Nat → Nat
  | 0, r => r
  | d + 1, r => if 3 ≤ alN s q r 4 then r else frN s q d (r + 1)
theorem frN_le (s : MS) (q : Nat) : ∀ d r, frN s q d r ≤ r + d
  | 0, r => Nat.le_refl _
  | d + 1, r => by
    rw [frN]; split
    · omega
    · have := frN_le s q d (r + 1); omega
def prv (s : MS) (q k : Nat) : MS := up (up (up (up (up s 37 q 1) 38 q (s.1 30 k)) 39 q (s.1 31 k)) 40 q (s.1 32 k)) 41 q (s.1 33 k)
def f_retry (s : MS) (q : Nat) : MS := if s.1 42 q = 0 then (if frN s q 4 0 = 4 then f_all s 0 4 0 (nI q) 0 0 4 else f_all (prv s q (4 * q + frN s q 4 0)) 3 4 (s.1 30 (4 * q + frN s q 4 0)) (-1) (s.1 31 (4 * q + frN s q 4 0)) (s.1 32 (4 * q + frN s q 4 0)) 4) else s
def v_retry (s : MS) (q : Nat) : Int32 := if s.1 42 q = 0 then (if frN s q 4 0 = 4 then 1 else 2) else 0
set_option maxRecDepth 100000 in
set_option maxHeartbeats 4000000 in
theorem l_m_fr {sc : pm_Sc} {cs : List pm_C} {kn : Nat × Nat} (hc : 72 < cs.length) {s : MS} (q : Nat) (hq : q < 12) {Q : (Option Value ⊕ Nat) → pm_H → Prop} : ∀ (d r : Nat) (lv : pm_L), r + d = 4 → (∀ lv', pm_ld lv' 0 = some (.ref 31) → pm_ld lv' 1 = some (.int (nI q)) → pm_ld lv' 2 = some (.int (nI (frN s q d r))) → pw sc 109 (53, lv', [], (mset cs s, kn)) Q) → pm_ld lv 0 = some (.ref 31) → pm_ld lv 1 = some (.int (nI q)) → pm_ld lv 2 = some (.int (nI r)) → pw sc 109 (32, lv, [], (mset cs s, kn)) Q := by
  intro d
  induction d with
  | zero =>
    intro r lv hr G g0 g1 g2
    refine w_iload_n rfl g2 ?_
    refine w_iconst (v := 4) rfl (by decide) ?_
    refine w_if_icmp_ge rfl rfl (fun c34 => ?_) (fun c34 => ?_)
    · exact G _ g0 g1 g2
    · exact absurd (nI_le (a := 4) (b := r) (by omega) (by omega)) c34
  | succ d ih =>
    intro r lv hr G g0 g1 g2
    refine w_iload_n rfl g2 ?_
    refine w_iconst (v := 4) rfl (by decide) ?_
    refine w_if_icmp_ge rfl rfl (fun c34 => ?_) (fun c34 => ?_)
    · exact absurd c34 (nI_ge (a := r) (b := 4) (by omega) (by omega))
    · refine w_aload_n rfl g0 ?_
      refine w_iload_n rfl g1 ?_
      refine w_iload_n rfl g2 ?_
      refine w_virtual rfl rfl (mset_ob hc) ⟨(Nat.le_of_ble_eq_true rfl), rfl, (Nat.le_of_ble_eq_true rfl), (Nat.le_of_ble_eq_true rfl)⟩ rfl (Nat.le_of_ble_eq_true rfl) (c_m_al hc q r hq (by omega)) ?_
      rintro _ _ ⟨rfl, rfl⟩
      refine ⟨_, rfl, ?_⟩
      refine w_iconst (v := 3) rfl (by decide) ?_
      refine w_if_icmp_ge rfl rfl (fun c44 => ?_) (fun c44 => ?_)
      · have N : frN s q (d + 1) r = (if 3 ≤ alN s q r 4 then r else frN s q d (r + 1)) := rfl
        rw [if_pos c44] at N
        rw [N] at G
        exact G _ g0 g1 g2
      · refine w_iincN (j := r) rfl rfl g2 (Nat.le_of_ble_eq_true rfl) ?_
        refine w_goto rfl rfl ?_
        have N : frN s q (d + 1) r = (if 3 ≤ alN s q r 4 then r else frN s q d (r + 1)) := rfl
        rw [if_neg c44] at N
        rw [N] at G
        exact ih _ _ (by omega) G (ld_s1 (by decide) g0 (fun _ => rfl)) (ld_s1 (by decide) g1 (fun _ => rfl)) ld_self
set_option maxRecDepth 100000 in
set_option maxHeartbeats 4000000 in
theorem c_m_retry0 {sc : pm_Sc} {cs : List pm_C} {s : MS} {kn : Nat × Nat} (hc : 72 < cs.length) {z : MS} (hz : up s 0 0 0 = z) (x : Int32) (h : x < 0 ∨ z.1 2 0 ≤ x) : pu sc 109 [.ref 31, .int x] (mset cs s, kn) (pz (some (.int (0))) (mset cs (up z 0 0 1), kn)) := by
  refine w_aload_n rfl rfl ?_
  refine w_iconst (v := 0) rfl (by decide) ?_
  refine w_mps rfl hc (by decide) rfl ?_
  rw [hz]
  refine w_aload_n rfl rfl ?_
  refine w_iload_n rfl rfl ?_
  refine w_virtual rfl rfl (mset_ob hc) ⟨(Nat.le_of_ble_eq_true rfl), rfl, (Nat.le_of_ble_eq_true rfl), (Nat.le_of_ble_eq_true rfl)⟩ rfl (Nat.le_of_ble_eq_true rfl) (c_m_isReq hc x) ?_
  rintro _ _ ⟨rfl, rfl⟩
  refine ⟨_, rfl, ?_⟩
  refine w_ifCond_ne rfl rfl (fun c10 => ?_) (fun c10 => ?_)
  · replace c10 := b01_t c10
    exact absurd h (fun z => z.elim c10.1 c10.2)
  · replace c10 := b01_f c10
    refine w_aload_n rfl rfl ?_
    refine w_iconst (v := 1) rfl (by decide) ?_
    refine w_virtual rfl rfl (mset_ob hc) ⟨(Nat.le_of_ble_eq_true rfl), rfl, (Nat.le_of_ble_eq_true rfl), (Nat.le_of_ble_eq_true rfl)⟩ rfl (Nat.le_of_ble_eq_true rfl) (c_m_refuse hc 1) ?_
    rintro _ _ ⟨rfl, rfl⟩
    refine ⟨_, rfl, ?_⟩
    exact w_ireturn rfl (by first | exact Or.inl rfl | exact Or.inr ⟨rfl, Or.inl rfl⟩ | exact Or.inr ⟨rfl, Or.inr rfl⟩ | exact Or.inr ⟨rfl, by assumption⟩) ⟨(by first | rfl | (simp only [c10, if_true, if_false, and_true, true_and, and_false, false_and, or_true, true_or, or_false, false_or, not_true_eq_false, not_false_eq_true, ite_self]; done) | (simp only [c10, if_true, if_false, and_true, true_and, and_false, false_and, or_true, true_or, or_false, false_or, not_true_eq_false, not_false_eq_true, ite_self]; rfl)), (by first | rfl | (simp only [c10, if_true, if_false, and_true, true_and, and_false, false_and, or_true, true_or, or_false, false_or, not_true_eq_false, not_false_eq_true, ite_self]; done) | (simp only [c10, if_true, if_false, and_true, true_and, and_false, false_and, or_true, true_or, or_false, false_or, not_true_eq_false, not_false_eq_true, ite_self]; rfl))⟩
set_option maxRecDepth 100000 in
set_option maxHeartbeats 4000000 in
theorem c_m_retry1 {sc : pm_Sc} {cs : List pm_C} {s : MS} {kn : Nat × Nat} (hc : 72 < cs.length) {z : MS} (hz : up s 0 0 0 = z) (q : Nat) {n m : Nat} (hqn : z.1 2 0 = nI n) (hn : n ≤ 12) (hqq : q < n) (hm : z.1 17 0 = nI m) (h6 : m ≤ 600) : pu sc 109 [.ref 31, .int (nI q)] (mset cs s, kn) (pz (some (.int (v_retry z q))) (mset cs (f_retry z q), kn)) := by
  have hq : q < 12 := by omega
  refine w_aload_n rfl rfl ?_
  refine w_iconst (v := 0) rfl (by decide) ?_
  refine w_mps rfl hc (by decide) rfl ?_
  rw [hz]
  refine w_aload_n rfl rfl ?_
  refine w_iload_n rfl rfl ?_
  refine w_virtual rfl rfl (mset_ob hc) ⟨(Nat.le_of_ble_eq_true rfl), rfl, (Nat.le_of_ble_eq_true rfl), (Nat.le_of_ble_eq_true rfl)⟩ rfl (Nat.le_of_ble_eq_true rfl) (c_m_isReq hc (nI q)) ?_
  rintro _ _ ⟨rfl, rfl⟩
  refine ⟨_, rfl, ?_⟩
  refine w_ifCond_ne rfl rfl (fun c10 => ?_) (fun c10 => ?_)
  · replace c10 := b01_t c10
    refine w_aload_n rfl rfl ?_
    refine w_getfield rfl (mset_ob hc) rfl ?_
    refine w_iload_n rfl rfl ?_
    refine w_mbl (k := 42) (j := q) rfl hc (by decide) rfl ⟨show q < 12 from by omega, by decide⟩ ?_
    refine w_ifCond_eq rfl rfl (fun c25 => ?_) (fun c25 => ?_)
    · refine w_iconst (v := 0) rfl (by decide) ?_
      refine w_istore_n rfl (Nat.le_of_ble_eq_true rfl) ?_
      refine l_m_fr hc q hq 4 0 _ (by omega) (fun lv e0 e1 e2 => ?_) rfl rfl rfl
      generalize hfr : frN z q 4 0 = r at *
      have hr4 : r ≤ 4 := by have := frN_le z q 4 0; omega
      refine w_iload_n rfl e2 ?_
      refine w_iconst (v := 4) rfl (by decide) ?_
      refine w_if_icmp_ne rfl rfl (fun c55 => ?_) (fun c55 => ?_)
      · have h4 : ¬ r = 4 := fun g => c55 (by rw [g]; rfl)
        refine w_iconst (v := 4) rfl (by decide) ?_
        refine w_iload_n rfl e1 ?_
        refine w_imulN (x := 4) (y := q) rfl rfl rfl ?_
        refine w_iload_n rfl e2 ?_
        refine w_iaddN (x := (4 * q)) (y := r) rfl rfl rfl ?_
        refine w_istore_n rfl (Nat.le_of_ble_eq_true rfl) ?_
        refine w_aload_n rfl (ld_s1 (by decide) e0 (fun _ => rfl)) ?_
        refine w_getfield rfl (mset_ob hc) rfl ?_
        refine w_iload_n rfl (ld_s1 (by decide) e1 (fun _ => rfl)) ?_
        refine w_iconst (v := 1) rfl (by decide) ?_
        refine w_mbs (k := 37) (j := q) rfl hc (by decide) (by decide) rfl ⟨show q < 12 from by omega, by decide⟩ ?_
        refine w_aload_n rfl (ld_s1 (by decide) e0 (fun _ => rfl)) ?_
        refine w_getfield rfl (mset_ob hc) rfl ?_
        refine w_iload_n rfl (ld_s1 (by decide) e1 (fun _ => rfl)) ?_
        refine w_aload_n rfl (ld_s1 (by decide) e0 (fun _ => rfl)) ?_
        refine w_getfield rfl (mset_ob hc) rfl ?_
        refine w_iload_n rfl ld_self ?_
        refine w_mil (k := 30) (j := ((4 * q) + r)) rfl hc (by decide) rfl ⟨show ((4 * q) + r) < 48 from by omega, by decide⟩ ?_
        refine w_mis (k := 38) (j := q) rfl hc (by decide) rfl ⟨show q < 12 from by omega, by decide⟩ ?_
        refine w_aload_n rfl (ld_s1 (by decide) e0 (fun _ => rfl)) ?_
        refine w_getfield rfl (mset_ob hc) rfl ?_
        refine w_iload_n rfl (ld_s1 (by decide) e1 (fun _ => rfl)) ?_
        refine w_aload_n rfl (ld_s1 (by decide) e0 (fun _ => rfl)) ?_
        refine w_getfield rfl (mset_ob hc) rfl ?_
        refine w_iload_n rfl ld_self ?_
        refine w_mil (k := 31) (j := ((4 * q) + r)) rfl hc (by decide) rfl ⟨show ((4 * q) + r) < 48 from by omega, by decide⟩ ?_
        refine w_mis (k := 39) (j := q) rfl hc (by decide) rfl ⟨show q < 12 from by omega, by decide⟩ ?_
        refine w_aload_n rfl (ld_s1 (by decide) e0 (fun _ => rfl)) ?_
        refine w_getfield rfl (mset_ob hc) rfl ?_
        refine w_iload_n rfl (ld_s1 (by decide) e1 (fun _ => rfl)) ?_
        refine w_aload_n rfl (ld_s1 (by decide) e0 (fun _ => rfl)) ?_
        refine w_getfield rfl (mset_ob hc) rfl ?_
        refine w_iload_n rfl ld_self ?_
        refine w_mil (k := 32) (j := ((4 * q) + r)) rfl hc (by decide) rfl ⟨show ((4 * q) + r) < 48 from by omega, by decide⟩ ?_
        refine w_mis (k := 40) (j := q) rfl hc (by decide) rfl ⟨show q < 12 from by omega, by decide⟩ ?_
        refine w_aload_n rfl (ld_s1 (by decide) e0 (fun _ => rfl)) ?_
        refine w_getfield rfl (mset_ob hc) rfl ?_
        refine w_iload_n rfl (ld_s1 (by decide) e1 (fun _ => rfl)) ?_
        refine w_aload_n rfl (ld_s1 (by decide) e0 (fun _ => rfl)) ?_
        refine w_getfield rfl (mset_ob hc) rfl ?_
        refine w_iload_n rfl ld_self ?_
        refine w_mil (k := 33) (j := ((4 * q) + r)) rfl hc (by decide) rfl ⟨show ((4 * q) + r) < 48 from by omega, by decide⟩ ?_
        refine w_mis (k := 41) (j := q) rfl hc (by decide) rfl ⟨show q < 12 from by omega, by decide⟩ ?_
        refine w_aload_n rfl (ld_s1 (by decide) e0 (fun _ => rfl)) ?_
        refine w_iconst (v := 3) rfl (by decide) ?_
        refine w_iconst (v := 4) rfl (by decide) ?_
        refine w_aload_n rfl (ld_s1 (by decide) e0 (fun _ => rfl)) ?_
        refine w_getfield rfl (mset_ob hc) rfl ?_
        refine w_iload_n rfl ld_self ?_
        refine w_mil (k := 30) (j := ((4 * q) + r)) rfl hc (by decide) rfl ⟨show ((4 * q) + r) < 48 from by omega, by decide⟩ ?_
        refine w_iconst (v := (-1)) rfl (by decide) ?_
        refine w_aload_n rfl (ld_s1 (by decide) e0 (fun _ => rfl)) ?_
        refine w_getfield rfl (mset_ob hc) rfl ?_
        refine w_iload_n rfl ld_self ?_
        refine w_mil (k := 31) (j := ((4 * q) + r)) rfl hc (by decide) rfl ⟨show ((4 * q) + r) < 48 from by omega, by decide⟩ ?_
        refine w_aload_n rfl (ld_s1 (by decide) e0 (fun _ => rfl)) ?_
        refine w_getfield rfl (mset_ob hc) rfl ?_
        refine w_iload_n rfl ld_self ?_
        refine w_mil (k := 32) (j := ((4 * q) + r)) rfl hc (by decide) rfl ⟨show ((4 * q) + r) < 48 from by omega, by decide⟩ ?_
        refine w_virtual rfl rfl (mset_ob hc) ⟨(Nat.le_of_ble_eq_true rfl), rfl, (Nat.le_of_ble_eq_true rfl), (Nat.le_of_ble_eq_true rfl)⟩ rfl (Nat.le_of_ble_eq_true rfl) (c_m_all (s := prv z q (4 * q + r)) hc _ _ _ _ _ _ hm h6) ?_
        rintro _ _ ⟨rfl, rfl⟩
        refine ⟨_, rfl, ?_⟩
        refine w_iconst (v := 2) rfl (by decide) ?_
        exact w_ireturn rfl (Or.inl rfl) ⟨(by first | (simp only [f_retry, v_retry, hfr, c10, (eq_true c25), h4, if_true, if_false]; done) | (simp only [f_retry, v_retry, hfr, c10, (eq_true c25), h4, if_true, if_false]; rfl)), (by first | (simp only [f_retry, v_retry, hfr, c10, (eq_true c25), h4, if_true, if_false]; done) | (simp only [f_retry, v_retry, hfr, c10, (eq_true c25), h4, if_true, if_false]; rfl))⟩
      · have h4 : r = 4 := (nI_eq (b := 4) (by omega) (by omega)).mp c55
        refine w_aload_n rfl e0 ?_
        refine w_iconst (v := 0) rfl (by decide) ?_
        refine w_iconst (v := 4) rfl (by decide) ?_
        refine w_iconst (v := 0) rfl (by decide) ?_
        refine w_iload_n rfl e1 ?_
        refine w_iconst (v := 0) rfl (by decide) ?_
        refine w_iconst (v := 0) rfl (by decide) ?_
        refine w_virtual rfl rfl (mset_ob hc) ⟨(Nat.le_of_ble_eq_true rfl), rfl, (Nat.le_of_ble_eq_true rfl), (Nat.le_of_ble_eq_true rfl)⟩ rfl (Nat.le_of_ble_eq_true rfl) (c_m_all hc _ _ _ _ _ _ hm h6) ?_
        rintro _ _ ⟨rfl, rfl⟩
        refine ⟨_, rfl, ?_⟩
        refine w_iconst (v := 1) rfl (by decide) ?_
        exact w_ireturn rfl (Or.inl rfl) ⟨(by first | (simp only [f_retry, v_retry, hfr, c10, (eq_true c25), (eq_true h4), if_true, if_false]; done) | (simp only [f_retry, v_retry, hfr, c10, (eq_true c25), (eq_true h4), if_true, if_false]; rfl)), (by first | (simp only [f_retry, v_retry, hfr, c10, (eq_true c25), (eq_true h4), if_true, if_false]; done) | (simp only [f_retry, v_retry, hfr, c10, (eq_true c25), (eq_true h4), if_true, if_false]; rfl))⟩
    · refine w_iconst (v := 0) rfl (by decide) ?_
      exact w_ireturn rfl (by first | exact Or.inl rfl | exact Or.inr ⟨rfl, Or.inl rfl⟩ | exact Or.inr ⟨rfl, Or.inr rfl⟩ | exact Or.inr ⟨rfl, by assumption⟩) ⟨(by first | (simp only [f_retry, v_retry, c10, c25, if_true, if_false, and_true, true_and, and_false, false_and, or_true, true_or, or_false, false_or, not_true_eq_false, not_false_eq_true, ite_self]; done) | (simp only [f_retry, v_retry, c10, c25, if_true, if_false, and_true, true_and, and_false, false_and, or_true, true_or, or_false, false_or, not_true_eq_false, not_false_eq_true, ite_self]; rfl) | rfl), (by first | (simp only [f_retry, v_retry, c10, c25, if_true, if_false, and_true, true_and, and_false, false_and, or_true, true_or, or_false, false_or, not_true_eq_false, not_false_eq_true, ite_self]; done) | (simp only [f_retry, v_retry, c10, c25, if_true, if_false, and_true, true_and, and_false, false_and, or_true, true_or, or_false, false_or, not_true_eq_false, not_false_eq_true, ite_self]; rfl) | rfl)⟩
  · replace c10 := b01_f c10
    exact absurd ⟨nI_pos (by omega), by rw [hqn]; exact nI_ge hqq (by omega)⟩ c10
def f_del (s : MS) (j : Nat) : MS := if s.1 28 j = 0 then (if s.1 20 j = 4 then (if s.1 18 j = 2 then f_trep (up s 28 j 1) (s.1 19 j).toNatClampNeg (s.1 23 j).toNatClampNeg (s.1 21 j) (s.1 22 j) (s.1 24 j) (s.1 25 j) else f_tack (up s 28 j 1) (s.1 19 j).toNatClampNeg j) else if s.1 20 j = s.1 1 0 then up s 28 j 1 else f_take (up s 28 j 1) (s.1 20 j).toNatClampNeg j) else s
set_option maxRecDepth 100000 in
set_option maxHeartbeats 4000000 in
theorem c_m_del0 {sc : pm_Sc} {cs : List pm_C} {s : MS} {kn : Nat × Nat} (hc : 72 < cs.length) {z : MS} (hz : up s 0 0 0 = z) (x : Int32) (h : x < 0 ∨ z.1 17 0 ≤ x) : pu sc 111 [.ref 31, .int x] (mset cs s, kn) (pz (some (.int (0))) (mset cs (z), kn)) := by
  refine w_aload_n rfl rfl ?_
  refine w_iconst (v := 0) rfl (by decide) ?_
  refine w_mps rfl hc (by decide) rfl ?_
  rw [hz]
  refine w_aload_n rfl rfl ?_
  refine w_iload_n rfl rfl ?_
  refine w_virtual rfl rfl (mset_ob hc) ⟨(Nat.le_of_ble_eq_true rfl), rfl, (Nat.le_of_ble_eq_true rfl), (Nat.le_of_ble_eq_true rfl)⟩ rfl (Nat.le_of_ble_eq_true rfl) (c_m_und0 hc x h) ?_
  rintro _ _ ⟨rfl, rfl⟩
  refine ⟨_, rfl, ?_⟩
  refine w_ifCond_ne rfl rfl (fun c10 => ?_) (fun c10 => ?_)
  · exact absurd (by decide) c10
  · refine w_iconst (v := 0) rfl (by decide) ?_
    exact w_ireturn rfl (by first | exact Or.inl rfl | exact Or.inr ⟨rfl, Or.inl rfl⟩ | exact Or.inr ⟨rfl, Or.inr rfl⟩ | exact Or.inr ⟨rfl, by assumption⟩) ⟨(by first | rfl | (simp only [(eq_true c10), if_true, if_false, and_true, true_and, and_false, false_and, or_true, true_or, or_false, false_or, not_true_eq_false, not_false_eq_true, ite_self]; done) | (simp only [(eq_true c10), if_true, if_false, and_true, true_and, and_false, false_and, or_true, true_or, or_false, false_or, not_true_eq_false, not_false_eq_true, ite_self]; rfl)), (by first | rfl | (simp only [(eq_true c10), if_true, if_false, and_true, true_and, and_false, false_and, or_true, true_or, or_false, false_or, not_true_eq_false, not_false_eq_true, ite_self]; done) | (simp only [(eq_true c10), if_true, if_false, and_true, true_and, and_false, false_and, or_true, true_or, or_false, false_or, not_true_eq_false, not_false_eq_true, ite_self]; rfl))⟩
set_option maxRecDepth 100000 in
set_option maxHeartbeats 4000000 in
theorem c_m_del1 {sc : pm_Sc} {cs : List pm_C} {s : MS} {kn : Nat × Nat} (hc : 72 < cs.length) {z : MS} (hz : up s 0 0 0 = z) (j : Nat) {m n : Nat} (hm : z.1 17 0 = nI m) (h6 : m ≤ 600) (hj : j < m) (hn : n ≤ 12) (hq : z.1 2 0 = nI n) (HC : z.1 28 j = 0 → z.1 20 j = 4 → ∃ t, t < 4 ∧ z.1 19 j = nI t ∧ (z.1 18 j = 2 → ∃ q, q < 12 ∧ z.1 23 j = nI q)) (HT : z.1 28 j = 0 → ¬ z.1 20 j = 4 → ¬ z.1 20 j = z.1 1 0 → ∃ r, r < 4 ∧ z.1 20 j = nI r ∧ pu sc 100 [.ref 31, .int (nI r), .int (nI j)] (mset cs (up z 28 j 1), kn) (pz none (mset cs (f_take (up z 28 j 1) r j), kn))) : pu sc 111 [.ref 31, .int (nI j)] (mset cs s, kn) (pz (some (.int (b01 (z.1 28 j = 0)))) (mset cs (f_del z j), kn)) := by
  have hj6 : j < 600 := by omega
  refine w_aload_n rfl rfl ?_
  refine w_iconst (v := 0) rfl (by decide) ?_
  refine w_mps rfl hc (by decide) rfl ?_
  rw [hz]
  refine w_aload_n rfl rfl ?_
  refine w_iload_n rfl rfl ?_
  refine w_virtual rfl rfl (mset_ob hc) ⟨(Nat.le_of_ble_eq_true rfl), rfl, (Nat.le_of_ble_eq_true rfl), (Nat.le_of_ble_eq_true rfl)⟩ rfl (Nat.le_of_ble_eq_true rfl) (c_m_und1 hc j hm h6 hj) ?_
  rintro _ _ ⟨rfl, rfl⟩
  refine ⟨_, rfl, ?_⟩
  refine w_ifCond_ne rfl rfl (fun c10 => ?_) (fun c10 => ?_)
  · replace c10 := b01_t c10
    refine w_aload_n rfl rfl ?_
    refine w_getfield rfl (mset_ob hc) rfl ?_
    refine w_iload_n rfl rfl ?_
    refine w_iconst (v := 1) rfl (by decide) ?_
    refine w_mis (k := 28) (j := j) rfl hc (by decide) rfl ⟨show j < 600 from by omega, by decide⟩ ?_
    refine w_aload_n rfl rfl ?_
    refine w_getfield rfl (mset_ob hc) rfl ?_
    refine w_iload_n rfl rfl ?_
    refine w_mil (k := 20) (j := j) rfl hc (by decide) rfl ⟨show j < 600 from by omega, by decide⟩ ?_
    refine w_iconst (v := 4) rfl (by decide) ?_
    refine w_if_icmp_ne rfl rfl (fun c29 => ?_) (fun c29 => ?_)
    · refine w_aload_n rfl rfl ?_
      refine w_getfield rfl (mset_ob hc) rfl ?_
      refine w_iload_n rfl rfl ?_
      refine w_mil (k := 20) (j := j) rfl hc (by decide) rfl ⟨show j < 600 from by omega, by decide⟩ ?_
      refine w_aload_n rfl rfl ?_
      refine w_getfield rfl (mset_ob hc) rfl ?_
      refine w_if_icmp_eq rfl rfl (fun c103 => ?_) (fun c103 => ?_)
      · have EF : f_del z j = up z 28 j 1 := by rw [f_del, if_pos c10, if_neg (show ¬ z.1 20 j = 4 from c29), if_pos (show z.1 20 j = z.1 1 0 from c103)]
        refine w_iconst (v := 1) rfl (by decide) ?_
        exact w_ireturn rfl (Or.inr ⟨rfl, Or.inr rfl⟩) ⟨by rw [b01, if_pos c10], by rw [EF]; try rfl⟩
      · refine w_aload_n rfl rfl ?_
        refine w_aload_n rfl rfl ?_
        refine w_getfield rfl (mset_ob hc) rfl ?_
        refine w_iload_n rfl rfl ?_
        refine w_mil (k := 20) (j := j) rfl hc (by decide) rfl ⟨show j < 600 from by omega, by decide⟩ ?_
        refine w_iload_n rfl rfl ?_
        obtain ⟨r, hr, e20, HP⟩ := HT c10 c29 c103
        have hc1 : (nI r).toNatClampNeg = r := nI_clamp (by omega)
        rw [show (up z 28 j 1).1 20 j = nI r from e20]
        refine w_virtual rfl rfl (mset_ob hc) ⟨(Nat.le_of_ble_eq_true rfl), rfl, (Nat.le_of_ble_eq_true rfl), (Nat.le_of_ble_eq_true rfl)⟩ rfl (Nat.le_of_ble_eq_true rfl) (HP) ?_
        rintro _ _ ⟨rfl, rfl⟩
        refine ⟨_, rfl, ?_⟩
        have EF : f_del z j = f_take (up z 28 j 1) r j := by rw [f_del, if_pos c10, if_neg (show ¬ z.1 20 j = 4 from c29), if_neg (show ¬ z.1 20 j = z.1 1 0 from c103), e20, hc1]
        refine w_iconst (v := 1) rfl (by decide) ?_
        exact w_ireturn rfl (Or.inr ⟨rfl, Or.inr rfl⟩) ⟨by rw [b01, if_pos c10], by rw [EF]; try rfl⟩
    · refine w_aload_n rfl rfl ?_
      refine w_getfield rfl (mset_ob hc) rfl ?_
      refine w_iload_n rfl rfl ?_
      refine w_mil (k := 18) (j := j) rfl hc (by decide) rfl ⟨show j < 600 from by omega, by decide⟩ ?_
      refine w_iconst (v := 2) rfl (by decide) ?_
      refine w_if_icmp_ne rfl rfl (fun c39 => ?_) (fun c39 => ?_)
      · refine w_aload_n rfl rfl ?_
        refine w_iload_n rfl rfl ?_
        obtain ⟨t, ht, e19, hq2⟩ := HC c10 c29
        have hc1 : (nI t).toNatClampNeg = t := nI_clamp (by omega)
        refine w_virtual rfl rfl (mset_ob hc) ⟨(Nat.le_of_ble_eq_true rfl), rfl, (Nat.le_of_ble_eq_true rfl), (Nat.le_of_ble_eq_true rfl)⟩ rfl (Nat.le_of_ble_eq_true rfl) (c_m_tack (s := up z 28 j 1) hc t j ht hj6 hn hq e19) ?_
        rintro _ _ ⟨rfl, rfl⟩
        refine ⟨_, rfl, ?_⟩
        have EF : f_del z j = f_tack (up z 28 j 1) t j := by rw [f_del, if_pos c10, if_pos (show z.1 20 j = 4 from c29), if_neg (show ¬ z.1 18 j = 2 from c39), e19, hc1]
        refine w_goto rfl rfl ?_
        refine w_iconst (v := 1) rfl (by decide) ?_
        exact w_ireturn rfl (Or.inr ⟨rfl, Or.inr rfl⟩) ⟨by rw [b01, if_pos c10], by rw [EF]; try rfl⟩
      · obtain ⟨t, ht, e19, hq2⟩ := HC c10 c29
        obtain ⟨q, hq3, e23⟩ := hq2 c39
        have hc1 : (nI t).toNatClampNeg = t := nI_clamp (by omega)
        have hc2 : (nI q).toNatClampNeg = q := nI_clamp (by omega)
        refine w_aload_n rfl rfl ?_
        refine w_aload_n rfl rfl ?_
        refine w_getfield rfl (mset_ob hc) rfl ?_
        refine w_iload_n rfl rfl ?_
        refine w_mil (k := 19) (j := j) rfl hc (by decide) rfl ⟨show j < 600 from by omega, by decide⟩ ?_
        refine w_aload_n rfl rfl ?_
        refine w_getfield rfl (mset_ob hc) rfl ?_
        refine w_iload_n rfl rfl ?_
        refine w_mil (k := 23) (j := j) rfl hc (by decide) rfl ⟨show j < 600 from by omega, by decide⟩ ?_
        refine w_aload_n rfl rfl ?_
        refine w_getfield rfl (mset_ob hc) rfl ?_
        refine w_iload_n rfl rfl ?_
        refine w_mil (k := 21) (j := j) rfl hc (by decide) rfl ⟨show j < 600 from by omega, by decide⟩ ?_
        refine w_aload_n rfl rfl ?_
        refine w_getfield rfl (mset_ob hc) rfl ?_
        refine w_iload_n rfl rfl ?_
        refine w_mil (k := 22) (j := j) rfl hc (by decide) rfl ⟨show j < 600 from by omega, by decide⟩ ?_
        refine w_aload_n rfl rfl ?_
        refine w_getfield rfl (mset_ob hc) rfl ?_
        refine w_iload_n rfl rfl ?_
        refine w_mil (k := 24) (j := j) rfl hc (by decide) rfl ⟨show j < 600 from by omega, by decide⟩ ?_
        refine w_aload_n rfl rfl ?_
        refine w_getfield rfl (mset_ob hc) rfl ?_
        refine w_iload_n rfl rfl ?_
        refine w_mil (k := 25) (j := j) rfl hc (by decide) rfl ⟨show j < 600 from by omega, by decide⟩ ?_
        rw [show (up z 28 j 1).1 19 j = nI t from e19, show (up z 28 j 1).1 23 j = nI q from e23]
        refine w_virtual rfl rfl (mset_ob hc) ⟨(Nat.le_of_ble_eq_true rfl), rfl, (Nat.le_of_ble_eq_true rfl), (Nat.le_of_ble_eq_true rfl)⟩ rfl (Nat.le_of_ble_eq_true rfl) (c_m_trep hc t q ht hq3 _ _ _ _) ?_
        rintro _ _ ⟨rfl, rfl⟩
        refine ⟨_, rfl, ?_⟩
        have EF : f_del z j = f_trep (up z 28 j 1) t q (z.1 21 j) (z.1 22 j) (z.1 24 j) (z.1 25 j) := by rw [f_del, if_pos c10, if_pos (show z.1 20 j = 4 from c29), if_pos (show z.1 18 j = 2 from c39), e19, e23, hc1, hc2]
        refine w_goto rfl rfl ?_
        refine w_iconst (v := 1) rfl (by decide) ?_
        exact w_ireturn rfl (Or.inr ⟨rfl, Or.inr rfl⟩) ⟨by rw [b01, if_pos c10], by rw [EF]; try rfl⟩
  · replace c10 := b01_f c10
    refine w_iconst (v := 0) rfl (by decide) ?_
    exact w_ireturn rfl (Or.inr ⟨rfl, Or.inl rfl⟩) ⟨by rw [b01, if_neg c10], by rw [f_del, if_neg c10]⟩
set_option maxRecDepth 100000 in
set_option maxHeartbeats 4000000 in
theorem c_m_lose0 {sc : pm_Sc} {cs : List pm_C} {s : MS} {kn : Nat × Nat} (hc : 72 < cs.length) {z : MS} (hz : up s 0 0 0 = z) (x : Int32) (h : x < 0 ∨ z.1 17 0 ≤ x) : pu sc 113 [.ref 31, .int x] (mset cs s, kn) (pz (some (.int (0))) (mset cs (z), kn)) := by
  refine w_aload_n rfl rfl ?_
  refine w_iconst (v := 0) rfl (by decide) ?_
  refine w_mps rfl hc (by decide) rfl ?_
  rw [hz]
  refine w_aload_n rfl rfl ?_
  refine w_iload_n rfl rfl ?_
  refine w_virtual rfl rfl (mset_ob hc) ⟨(Nat.le_of_ble_eq_true rfl), rfl, (Nat.le_of_ble_eq_true rfl), (Nat.le_of_ble_eq_true rfl)⟩ rfl (Nat.le_of_ble_eq_true rfl) (c_m_und0 hc x h) ?_
  rintro _ _ ⟨rfl, rfl⟩
  refine ⟨_, rfl, ?_⟩
  refine w_ifCond_ne rfl rfl (fun c10 => ?_) (fun c10 => ?_)
  · exact absurd (by decide) c10
  · refine w_iconst (v := 0) rfl (by decide) ?_
    exact w_ireturn rfl (by first | exact Or.inl rfl | exact Or.inr ⟨rfl, Or.inl rfl⟩ | exact Or.inr ⟨rfl, Or.inr rfl⟩ | exact Or.inr ⟨rfl, by assumption⟩) ⟨(by first | rfl | (simp only [(eq_true c10), if_true, if_false, and_true, true_and, and_false, false_and, or_true, true_or, or_false, false_or, not_true_eq_false, not_false_eq_true, ite_self]; done) | (simp only [(eq_true c10), if_true, if_false, and_true, true_and, and_false, false_and, or_true, true_or, or_false, false_or, not_true_eq_false, not_false_eq_true, ite_self]; rfl)), (by first | rfl | (simp only [(eq_true c10), if_true, if_false, and_true, true_and, and_false, false_and, or_true, true_or, or_false, false_or, not_true_eq_false, not_false_eq_true, ite_self]; done) | (simp only [(eq_true c10), if_true, if_false, and_true, true_and, and_false, false_and, or_true, true_or, or_false, false_or, not_true_eq_false, not_false_eq_true, ite_self]; rfl))⟩
set_option maxRecDepth 100000 in
set_option maxHeartbeats 4000000 in
theorem c_m_lose1 {sc : pm_Sc} {cs : List pm_C} {s : MS} {kn : Nat × Nat} (hc : 72 < cs.length) {z : MS} (hz : up s 0 0 0 = z) (j : Nat) {m : Nat} (hm : z.1 17 0 = nI m) (h6 : m ≤ 600) (hj : j < m) : pu sc 113 [.ref 31, .int (nI j)] (mset cs s, kn) (pz (some (.int (b01 (z.1 28 j = 0)))) (mset cs (if z.1 28 j = 0 then up z 28 j 2 else z), kn)) := by
  refine w_aload_n rfl rfl ?_
  refine w_iconst (v := 0) rfl (by decide) ?_
  refine w_mps rfl hc (by decide) rfl ?_
  rw [hz]
  refine w_aload_n rfl rfl ?_
  refine w_iload_n rfl rfl ?_
  refine w_virtual rfl rfl (mset_ob hc) ⟨(Nat.le_of_ble_eq_true rfl), rfl, (Nat.le_of_ble_eq_true rfl), (Nat.le_of_ble_eq_true rfl)⟩ rfl (Nat.le_of_ble_eq_true rfl) (c_m_und1 hc j hm h6 hj) ?_
  rintro _ _ ⟨rfl, rfl⟩
  refine ⟨_, rfl, ?_⟩
  refine w_ifCond_ne rfl rfl (fun c10 => ?_) (fun c10 => ?_)
  · replace c10 := b01_t c10
    refine w_aload_n rfl rfl ?_
    refine w_getfield rfl (mset_ob hc) rfl ?_
    refine w_iload_n rfl rfl ?_
    refine w_iconst (v := 2) rfl (by decide) ?_
    refine w_mis (k := 28) (j := j) rfl hc (by decide) rfl ⟨show j < 600 from by omega, by decide⟩ ?_
    refine w_iconst (v := 1) rfl (by decide) ?_
    exact w_ireturn rfl (by first | exact Or.inl rfl | exact Or.inr ⟨rfl, Or.inl rfl⟩ | exact Or.inr ⟨rfl, Or.inr rfl⟩ | exact Or.inr ⟨rfl, by assumption⟩) ⟨(by first | (simp only [b01, c10, if_true, if_false, and_true, true_and, and_false, false_and, or_true, true_or, or_false, false_or, not_true_eq_false, not_false_eq_true, ite_self]; done) | (simp only [b01, c10, if_true, if_false, and_true, true_and, and_false, false_and, or_true, true_or, or_false, false_or, not_true_eq_false, not_false_eq_true, ite_self]; rfl) | rfl), (by first | (simp only [b01, c10, if_true, if_false, and_true, true_and, and_false, false_and, or_true, true_or, or_false, false_or, not_true_eq_false, not_false_eq_true, ite_self]; done) | (simp only [b01, c10, if_true, if_false, and_true, true_and, and_false, false_and, or_true, true_or, or_false, false_or, not_true_eq_false, not_false_eq_true, ite_self]; rfl) | rfl)⟩
  · replace c10 := b01_f c10
    refine w_iconst (v := 0) rfl (by decide) ?_
    exact w_ireturn rfl (by first | exact Or.inl rfl | exact Or.inr ⟨rfl, Or.inl rfl⟩ | exact Or.inr ⟨rfl, Or.inr rfl⟩ | exact Or.inr ⟨rfl, by assumption⟩) ⟨(by first | (simp only [b01, c10, if_true, if_false, and_true, true_and, and_false, false_and, or_true, true_or, or_false, false_or, not_true_eq_false, not_false_eq_true, ite_self]; done) | (simp only [b01, c10, if_true, if_false, and_true, true_and, and_false, false_and, or_true, true_or, or_false, false_or, not_true_eq_false, not_false_eq_true, ite_self]; rfl) | rfl), (by first | (simp only [b01, c10, if_true, if_false, and_true, true_and, and_false, false_and, or_true, true_or, or_false, false_or, not_true_eq_false, not_false_eq_true, ite_self]; done) | (simp only [b01, c10, if_true, if_false, and_true, true_and, and_false, false_and, or_true, true_or, or_false, false_or, not_true_eq_false, not_false_eq_true, ite_self]; rfl) | rfl)⟩
set_option maxRecDepth 100000 in
set_option maxHeartbeats 4000000 in
theorem c_m_pat0 {sc : pm_Sc} {cs : List pm_C} {s : MS} {kn : Nat × Nat} (hc : 72 < cs.length) {z : MS} (hz : up s 0 0 0 = z) (x : Int32) (h : x < 0 ∨ 3 < x) : pu sc 116 [.ref 31, .int x] (mset cs s, kn) (pz (some (.int (0))) (mset cs (up z 0 0 1), kn)) := by
  refine w_aload_n rfl rfl ?_
  refine w_iconst (v := 0) rfl (by decide) ?_
  refine w_mps rfl hc (by decide) rfl ?_
  rw [hz]
  refine w_iload_n rfl rfl ?_
  refine w_static rfl (by decide) rfl ⟨(Nat.le_of_ble_eq_true rfl), (Nat.le_of_ble_eq_true rfl), (Nat.le_of_ble_eq_true rfl)⟩ rfl (Nat.le_of_ble_eq_true rfl) (c_m_isRep x) ?_
  rintro _ _ ⟨rfl, rfl⟩
  refine ⟨_, rfl, ?_⟩
  refine w_ifCond_ne rfl rfl (fun c9 => ?_) (fun c9 => ?_)
  · replace c9 := b01_t c9
    exact absurd h (fun z => z.elim c9.1 c9.2)
  · replace c9 := b01_f c9
    refine w_aload_n rfl rfl ?_
    refine w_virtual rfl rfl (mset_ob hc) ⟨(Nat.le_of_ble_eq_true rfl), rfl, (Nat.le_of_ble_eq_true rfl), (Nat.le_of_ble_eq_true rfl)⟩ rfl (Nat.le_of_ble_eq_true rfl) (c_m_refT hc) ?_
    rintro _ _ ⟨rfl, rfl⟩
    refine ⟨_, rfl, ?_⟩
    exact w_ireturn rfl (by first | exact Or.inl rfl | exact Or.inr ⟨rfl, Or.inl rfl⟩ | exact Or.inr ⟨rfl, Or.inr rfl⟩ | exact Or.inr ⟨rfl, by assumption⟩) ⟨(by first | rfl | (simp only [c9, if_true, if_false, and_true, true_and, and_false, false_and, or_true, true_or, or_false, false_or, not_true_eq_false, not_false_eq_true, ite_self]; done) | (simp only [c9, if_true, if_false, and_true, true_and, and_false, false_and, or_true, true_or, or_false, false_or, not_true_eq_false, not_false_eq_true, ite_self]; rfl)), (by first | rfl | (simp only [c9, if_true, if_false, and_true, true_and, and_false, false_and, or_true, true_or, or_false, false_or, not_true_eq_false, not_false_eq_true, ite_self]; done) | (simp only [c9, if_true, if_false, and_true, true_and, and_false, false_and, or_true, true_or, or_false, false_or, not_true_eq_false, not_false_eq_true, ite_self]; rfl))⟩
theorem isRepT {r : Nat} (hr : r < 4) : ¬ nI r < 0 ∧ ¬ 3 < nI r := ⟨nI_pos (by omega), fun g => absurd ((nI_ltI (a := 3) (b := r) (by omega) (by omega)).mp g) (by omega)⟩
def hatS (s : MS) (r : Nat) : MS := f_all s 5 (nI r) (s.1 6 r) (-1) 0 0 4
def f_pat (s : MS) (r : Nat) : MS := if nI r = s.1 1 0 ∨ (s.1 10 r = 0 ∧ s.1 11 r = 0) then s else f_hate (hatS s r) r (nI r)
set_option maxRecDepth 100000 in
set_option maxHeartbeats 4000000 in
theorem c_m_pat1 {sc : pm_Sc} {cs : List pm_C} {s : MS} {kn : Nat × Nat} (hc : 72 < cs.length) {z : MS} (hz : up s 0 0 0 = z) (r : Nat) (hr : r < 4) {m : Nat} (hm : z.1 17 0 = nI m) (h6 : m ≤ 600) (hN : rm4 ((hat4 (hatS z r) r (nI r)).1 6 r) = nI r → ¬ cntN (kept (hat4 (hatS z r) r (nI r)) r r ((hat4 (hatS z r) r (nI r)).1 6 r) ((hat4 (hatS z r) r (nI r)).2 8 r) ((hat4 (hatS z r) r (nI r)).1 7 r) ((hat4 (hatS z r) r (nI r)).1 9 r)) r ((hat4 (hatS z r) r (nI r)).1 6 r) 4 < 3 → NewPre (kept (hat4 (hatS z r) r (nI r)) r r ((hat4 (hatS z r) r (nI r)).1 6 r) ((hat4 (hatS z r) r (nI r)).2 8 r) ((hat4 (hatS z r) r (nI r)).1 7 r) ((hat4 (hatS z r) r (nI r)).1 9 r)) r) : pu sc 116 [.ref 31, .int (nI r)] (mset cs s, kn) (pz (some (.int (b01 (¬ (nI r = z.1 1 0 ∨ (z.1 10 r = 0 ∧ z.1 11 r = 0)))))) (mset cs (f_pat z r), kn)) := by
  obtain ⟨m', h6', hm'⟩ := f_all_m hm h6 5 (nI r) (z.1 6 r) (-1) 0 0 4
  refine w_aload_n rfl rfl ?_
  refine w_iconst (v := 0) rfl (by decide) ?_
  refine w_mps rfl hc (by decide) rfl ?_
  rw [hz]
  refine w_iload_n rfl rfl ?_
  refine w_static rfl (by decide) rfl ⟨(Nat.le_of_ble_eq_true rfl), (Nat.le_of_ble_eq_true rfl), (Nat.le_of_ble_eq_true rfl)⟩ rfl (Nat.le_of_ble_eq_true rfl) (c_m_isRep (nI r)) ?_
  rintro _ _ ⟨rfl, rfl⟩
  refine ⟨_, rfl, ?_⟩
  refine w_ifCond_ne rfl rfl (fun c9 => ?_) (fun c9 => ?_)
  · replace c9 := b01_t c9
    refine w_iload_n rfl rfl ?_
    refine w_aload_n rfl rfl ?_
    refine w_getfield rfl (mset_ob hc) rfl ?_
    refine w_if_icmp_eq rfl rfl (fun c22 => ?_) (fun c22 => ?_)
    · refine w_iconst (v := 0) rfl (by decide) ?_
      exact w_ireturn rfl (by first | exact Or.inl rfl | exact Or.inr ⟨rfl, Or.inl rfl⟩ | exact Or.inr ⟨rfl, Or.inr rfl⟩ | exact Or.inr ⟨rfl, by assumption⟩) ⟨(by first | (simp only [f_pat, b01, c9, (eq_true c22), if_true, if_false, and_true, true_and, and_false, false_and, or_true, true_or, or_false, false_or, not_true_eq_false, not_false_eq_true, ite_self]; done) | (simp only [f_pat, b01, c9, (eq_true c22), if_true, if_false, and_true, true_and, and_false, false_and, or_true, true_or, or_false, false_or, not_true_eq_false, not_false_eq_true, ite_self]; rfl) | rfl), (by first | (simp only [f_pat, b01, c9, (eq_true c22), if_true, if_false, and_true, true_and, and_false, false_and, or_true, true_or, or_false, false_or, not_true_eq_false, not_false_eq_true, ite_self]; done) | (simp only [f_pat, b01, c9, (eq_true c22), if_true, if_false, and_true, true_and, and_false, false_and, or_true, true_or, or_false, false_or, not_true_eq_false, not_false_eq_true, ite_self]; rfl) | rfl)⟩
    · refine w_aload_n rfl rfl ?_
      refine w_getfield rfl (mset_ob hc) rfl ?_
      refine w_iload_n rfl rfl ?_
      refine w_mbl (k := 10) (j := r) rfl hc (by decide) rfl ⟨show r < 4 from by omega, by decide⟩ ?_
      refine w_ifCond_ne rfl rfl (fun c31 => ?_) (fun c31 => ?_)
      · refine w_aload_n rfl rfl ?_
        refine w_iconst (v := 5) rfl (by decide) ?_
        refine w_iload_n rfl rfl ?_
        refine w_aload_n rfl rfl ?_
        refine w_getfield rfl (mset_ob hc) rfl ?_
        refine w_iload_n rfl rfl ?_
        refine w_mil (k := 6) (j := r) rfl hc (by decide) rfl ⟨show r < 4 from by omega, by decide⟩ ?_
        refine w_iconst (v := (-1)) rfl (by decide) ?_
        refine w_iconst (v := 0) rfl (by decide) ?_
        refine w_iconst (v := 0) rfl (by decide) ?_
        refine w_virtual rfl rfl (mset_ob hc) ⟨(Nat.le_of_ble_eq_true rfl), rfl, (Nat.le_of_ble_eq_true rfl), (Nat.le_of_ble_eq_true rfl)⟩ rfl (Nat.le_of_ble_eq_true rfl) (c_m_all hc _ _ _ _ _ _ hm h6) ?_
        rintro _ _ ⟨rfl, rfl⟩
        refine ⟨_, rfl, ?_⟩
        refine w_aload_n rfl rfl ?_
        refine w_iload_n rfl rfl ?_
        refine w_iload_n rfl rfl ?_
        refine w_virtual rfl rfl (mset_ob hc) ⟨(Nat.le_of_ble_eq_true rfl), rfl, (Nat.le_of_ble_eq_true rfl), (Nat.le_of_ble_eq_true rfl)⟩ rfl (Nat.le_of_ble_eq_true rfl) (c_m_hate (s := hatS z r) hc r hr (nI r) hm' h6' hN) ?_
        rintro _ _ ⟨rfl, rfl⟩
        refine ⟨_, rfl, ?_⟩
        refine w_iconst (v := 1) rfl (by decide) ?_
        exact w_ireturn rfl (by first | exact Or.inl rfl | exact Or.inr ⟨rfl, Or.inl rfl⟩ | exact Or.inr ⟨rfl, Or.inr rfl⟩ | exact Or.inr ⟨rfl, by assumption⟩) ⟨(by first | (simp only [f_pat, b01, c9, c22, c31, if_true, if_false, and_true, true_and, and_false, false_and, or_true, true_or, or_false, false_or, not_true_eq_false, not_false_eq_true, ite_self]; done) | (simp only [f_pat, b01, c9, c22, c31, if_true, if_false, and_true, true_and, and_false, false_and, or_true, true_or, or_false, false_or, not_true_eq_false, not_false_eq_true, ite_self]; rfl) | rfl), (by first | (simp only [f_pat, b01, c9, c22, c31, if_true, if_false, and_true, true_and, and_false, false_and, or_true, true_or, or_false, false_or, not_true_eq_false, not_false_eq_true, ite_self]; done) | (simp only [f_pat, b01, c9, c22, c31, if_true, if_false, and_true, true_and, and_false, false_and, or_true, true_or, or_false, false_or, not_true_eq_false, not_false_eq_true, ite_self]; rfl) | rfl)⟩
      · refine w_aload_n rfl rfl ?_
        refine w_getfield rfl (mset_ob hc) rfl ?_
        refine w_iload_n rfl rfl ?_
        refine w_mil (k := 11) (j := r) rfl hc (by decide) rfl ⟨show r < 4 from by omega, by decide⟩ ?_
        refine w_ifCond_ne rfl rfl (fun c40 => ?_) (fun c40 => ?_)
        · refine w_aload_n rfl rfl ?_
          refine w_iconst (v := 5) rfl (by decide) ?_
          refine w_iload_n rfl rfl ?_
          refine w_aload_n rfl rfl ?_
          refine w_getfield rfl (mset_ob hc) rfl ?_
          refine w_iload_n rfl rfl ?_
          refine w_mil (k := 6) (j := r) rfl hc (by decide) rfl ⟨show r < 4 from by omega, by decide⟩ ?_
          refine w_iconst (v := (-1)) rfl (by decide) ?_
          refine w_iconst (v := 0) rfl (by decide) ?_
          refine w_iconst (v := 0) rfl (by decide) ?_
          refine w_virtual rfl rfl (mset_ob hc) ⟨(Nat.le_of_ble_eq_true rfl), rfl, (Nat.le_of_ble_eq_true rfl), (Nat.le_of_ble_eq_true rfl)⟩ rfl (Nat.le_of_ble_eq_true rfl) (c_m_all hc _ _ _ _ _ _ hm h6) ?_
          rintro _ _ ⟨rfl, rfl⟩
          refine ⟨_, rfl, ?_⟩
          refine w_aload_n rfl rfl ?_
          refine w_iload_n rfl rfl ?_
          refine w_iload_n rfl rfl ?_
          refine w_virtual rfl rfl (mset_ob hc) ⟨(Nat.le_of_ble_eq_true rfl), rfl, (Nat.le_of_ble_eq_true rfl), (Nat.le_of_ble_eq_true rfl)⟩ rfl (Nat.le_of_ble_eq_true rfl) (c_m_hate (s := hatS z r) hc r hr (nI r) hm' h6' hN) ?_
          rintro _ _ ⟨rfl, rfl⟩
          refine ⟨_, rfl, ?_⟩
          refine w_iconst (v := 1) rfl (by decide) ?_
          exact w_ireturn rfl (by first | exact Or.inl rfl | exact Or.inr ⟨rfl, Or.inl rfl⟩ | exact Or.inr ⟨rfl, Or.inr rfl⟩ | exact Or.inr ⟨rfl, by assumption⟩) ⟨(by first | (simp only [f_pat, b01, c9, c22, (eq_true c31), c40, if_true, if_false, and_true, true_and, and_false, false_and, or_true, true_or, or_false, false_or, not_true_eq_false, not_false_eq_true, ite_self]; done) | (simp only [f_pat, b01, c9, c22, (eq_true c31), c40, if_true, if_false, and_true, true_and, and_false, false_and, or_true, true_or, or_false, false_or, not_true_eq_false, not_false_eq_true, ite_self]; rfl) | rfl), (by first | (simp only [f_pat, b01, c9, c22, (eq_true c31), c40, if_true, if_false, and_true, true_and, and_false, false_and, or_true, true_or, or_false, false_or, not_true_eq_false, not_false_eq_true, ite_self]; done) | (simp only [f_pat, b01, c9, c22, (eq_true c31), c40, if_true, if_false, and_true, true_and, and_false, false_and, or_true, true_or, or_false, false_or, not_true_eq_false, not_false_eq_true, ite_self]; rfl) | rfl)⟩
        · refine w_iconst (v := 0) rfl (by decide) ?_
          exact w_ireturn rfl (by first | exact Or.inl rfl | exact Or.inr ⟨rfl, Or.inl rfl⟩ | exact Or.inr ⟨rfl, Or.inr rfl⟩ | exact Or.inr ⟨rfl, by assumption⟩) ⟨(by first | (simp only [f_pat, b01, c9, c22, (eq_true c31), (eq_true c40), if_true, if_false, and_true, true_and, and_false, false_and, or_true, true_or, or_false, false_or, not_true_eq_false, not_false_eq_true, ite_self]; done) | (simp only [f_pat, b01, c9, c22, (eq_true c31), (eq_true c40), if_true, if_false, and_true, true_and, and_false, false_and, or_true, true_or, or_false, false_or, not_true_eq_false, not_false_eq_true, ite_self]; rfl) | rfl), (by first | (simp only [f_pat, b01, c9, c22, (eq_true c31), (eq_true c40), if_true, if_false, and_true, true_and, and_false, false_and, or_true, true_or, or_false, false_or, not_true_eq_false, not_false_eq_true, ite_self]; done) | (simp only [f_pat, b01, c9, c22, (eq_true c31), (eq_true c40), if_true, if_false, and_true, true_and, and_false, false_and, or_true, true_or, or_false, false_or, not_true_eq_false, not_false_eq_true, ite_self]; rfl) | rfl)⟩
  · replace c9 := b01_f c9
    exact absurd (isRepT hr) c9
theorem isRep_of {x : Int32} (h1 : ¬ x < 0) (h2 : ¬ 3 < x) : ∃ r, r < 4 ∧ x = nI r := by
  obtain ⟨j, hj, e⟩ := nI_of h1
  refine ⟨j, ?_, e⟩
  rcases Nat.lt_or_ge j 4 with g | g
  · exact g
  · exact absurd (by rw [e]; exact nI_lt (a := 3) (by omega) hj) h2
theorem isReq_of {x : Int32} {n : Nat} (hn : n < 2 ^ 31) (h1 : ¬ x < 0) (h2 : ¬ nI n ≤ x) : ∃ q, q < n ∧ x = nI q := by
  obtain ⟨j, hj, e⟩ := nI_of h1
  refine ⟨j, ?_, e⟩
  rcases Nat.lt_or_ge j n with g | g
  · exact g
  · exact absurd (by rw [e]; exact nI_le g hj) h2
set_option maxRecDepth 100000 in
set_option maxHeartbeats 4000000 in
theorem c_m_lie0 {sc : pm_Sc} {cs : List pm_C} {s : MS} {kn : Nat × Nat} (hc : 72 < cs.length) {z : MS} (hz : up s 0 0 0 = z) (x y : Int32) (h : ¬ (¬ x < 0 ∧ ¬ 3 < x) ∨ ¬ (¬ y < 0 ∧ ¬ z.1 2 0 ≤ y) ∨ x = z.1 1 0) : pu sc 117 [.ref 31, .int x, .int y] (mset cs s, kn) (pz (some (.int (0))) (mset cs (up z 0 0 1), kn)) := by
  refine w_aload_n rfl rfl ?_
  refine w_iconst (v := 0) rfl (by decide) ?_
  refine w_mps rfl hc (by decide) rfl ?_
  rw [hz]
  refine w_iload_n rfl rfl ?_
  refine w_static rfl (by decide) rfl ⟨(Nat.le_of_ble_eq_true rfl), (Nat.le_of_ble_eq_true rfl), (Nat.le_of_ble_eq_true rfl)⟩ rfl (Nat.le_of_ble_eq_true rfl) (c_m_isRep x) ?_
  rintro _ _ ⟨rfl, rfl⟩
  refine ⟨_, rfl, ?_⟩
  refine w_ifCond_eq rfl rfl (fun c9 => ?_) (fun c9 => ?_)
  · replace c9 := b01_f c9
    refine w_aload_n rfl rfl ?_
    refine w_virtual rfl rfl (mset_ob hc) ⟨(Nat.le_of_ble_eq_true rfl), rfl, (Nat.le_of_ble_eq_true rfl), (Nat.le_of_ble_eq_true rfl)⟩ rfl (Nat.le_of_ble_eq_true rfl) (c_m_refT hc) ?_
    rintro _ _ ⟨rfl, rfl⟩
    refine ⟨_, rfl, ?_⟩
    exact w_ireturn rfl (by first | exact Or.inl rfl | exact Or.inr ⟨rfl, Or.inl rfl⟩ | exact Or.inr ⟨rfl, Or.inr rfl⟩ | exact Or.inr ⟨rfl, by assumption⟩) ⟨(by first | rfl | (simp only [c9, if_true, if_false, and_true, true_and, and_false, false_and, or_true, true_or, or_false, false_or, not_true_eq_false, not_false_eq_true, ite_self]; done) | (simp only [c9, if_true, if_false, and_true, true_and, and_false, false_and, or_true, true_or, or_false, false_or, not_true_eq_false, not_false_eq_true, ite_self]; rfl)), (by first | rfl | (simp only [c9, if_true, if_false, and_true, true_and, and_false, false_and, or_true, true_or, or_false, false_or, not_true_eq_false, not_false_eq_true, ite_self]; done) | (simp only [c9, if_true, if_false, and_true, true_and, and_false, false_and, or_true, true_or, or_false, false_or, not_true_eq_false, not_false_eq_true, ite_self]; rfl))⟩
  · replace c9 := b01_t c9
    refine w_aload_n rfl rfl ?_
    refine w_iload_n rfl rfl ?_
    refine w_virtual rfl rfl (mset_ob hc) ⟨(Nat.le_of_ble_eq_true rfl), rfl, (Nat.le_of_ble_eq_true rfl), (Nat.le_of_ble_eq_true rfl)⟩ rfl (Nat.le_of_ble_eq_true rfl) (c_m_isReq hc y) ?_
    rintro _ _ ⟨rfl, rfl⟩
    refine ⟨_, rfl, ?_⟩
    refine w_ifCond_eq rfl rfl (fun c17 => ?_) (fun c17 => ?_)
    · replace c17 := b01_f c17
      refine w_aload_n rfl rfl ?_
      refine w_virtual rfl rfl (mset_ob hc) ⟨(Nat.le_of_ble_eq_true rfl), rfl, (Nat.le_of_ble_eq_true rfl), (Nat.le_of_ble_eq_true rfl)⟩ rfl (Nat.le_of_ble_eq_true rfl) (c_m_refT hc) ?_
      rintro _ _ ⟨rfl, rfl⟩
      refine ⟨_, rfl, ?_⟩
      exact w_ireturn rfl (by first | exact Or.inl rfl | exact Or.inr ⟨rfl, Or.inl rfl⟩ | exact Or.inr ⟨rfl, Or.inr rfl⟩ | exact Or.inr ⟨rfl, by assumption⟩) ⟨(by first | rfl | (simp only [c9, c17, if_true, if_false, and_true, true_and, and_false, false_and, or_true, true_or, or_false, false_or, not_true_eq_false, not_false_eq_true, ite_self]; done) | (simp only [c9, c17, if_true, if_false, and_true, true_and, and_false, false_and, or_true, true_or, or_false, false_or, not_true_eq_false, not_false_eq_true, ite_self]; rfl)), (by first | rfl | (simp only [c9, c17, if_true, if_false, and_true, true_and, and_false, false_and, or_true, true_or, or_false, false_or, not_true_eq_false, not_false_eq_true, ite_self]; done) | (simp only [c9, c17, if_true, if_false, and_true, true_and, and_false, false_and, or_true, true_or, or_false, false_or, not_true_eq_false, not_false_eq_true, ite_self]; rfl))⟩
    · replace c17 := b01_t c17
      refine w_iload_n rfl rfl ?_
      refine w_aload_n rfl rfl ?_
      refine w_getfield rfl (mset_ob hc) rfl ?_
      refine w_if_icmp_ne rfl rfl (fun c25 => ?_) (fun c25 => ?_)
      · exact absurd h (fun g => g.elim (fun a => a c9) (fun g => g.elim (fun a => a c17) c25))
      · refine w_aload_n rfl rfl ?_
        refine w_virtual rfl rfl (mset_ob hc) ⟨(Nat.le_of_ble_eq_true rfl), rfl, (Nat.le_of_ble_eq_true rfl), (Nat.le_of_ble_eq_true rfl)⟩ rfl (Nat.le_of_ble_eq_true rfl) (c_m_refT hc) ?_
        rintro _ _ ⟨rfl, rfl⟩
        refine ⟨_, rfl, ?_⟩
        exact w_ireturn rfl (by first | exact Or.inl rfl | exact Or.inr ⟨rfl, Or.inl rfl⟩ | exact Or.inr ⟨rfl, Or.inr rfl⟩ | exact Or.inr ⟨rfl, by assumption⟩) ⟨(by first | rfl | (simp only [c9, c17, (eq_true c25), if_true, if_false, and_true, true_and, and_false, false_and, or_true, true_or, or_false, false_or, not_true_eq_false, not_false_eq_true, ite_self]; done) | (simp only [c9, c17, (eq_true c25), if_true, if_false, and_true, true_and, and_false, false_and, or_true, true_or, or_false, false_or, not_true_eq_false, not_false_eq_true, ite_self]; rfl)), (by first | rfl | (simp only [c9, c17, (eq_true c25), if_true, if_false, and_true, true_and, and_false, false_and, or_true, true_or, or_false, false_or, not_true_eq_false, not_false_eq_true, ite_self]; done) | (simp only [c9, c17, (eq_true c25), if_true, if_false, and_true, true_and, and_false, false_and, or_true, true_or, or_false, false_or, not_true_eq_false, not_false_eq_true, ite_self]; rfl))⟩
set_option maxRecDepth 100000 in
set_option maxHeartbeats 4000000 in
theorem c_m_lie1 {sc : pm_Sc} {cs : List pm_C} {s : MS} {kn : Nat × Nat} (hc : 72 < cs.length) {z : MS} (hz : up s 0 0 0 = z) (r q : Nat) (hr : r < 4) {n m : Nat} (hqn : z.1 2 0 = nI n) (hn12 : n ≤ 12) (hq : q < n) (hf : ¬ nI r = z.1 1 0) (hg : z.1 1 0 < 0 ∨ ¬ rm4 (z.1 6 r) = z.1 1 0) : pu sc 117 [.ref 31, .int (nI r), .int (nI q)] (mset cs s, kn) (pz (some (.int (0))) (mset cs (z), kn)) := by
  refine w_aload_n rfl rfl ?_
  refine w_iconst (v := 0) rfl (by decide) ?_
  refine w_mps rfl hc (by decide) rfl ?_
  rw [hz]
  refine w_iload_n rfl rfl ?_
  refine w_static rfl (by decide) rfl ⟨(Nat.le_of_ble_eq_true rfl), (Nat.le_of_ble_eq_true rfl), (Nat.le_of_ble_eq_true rfl)⟩ rfl (Nat.le_of_ble_eq_true rfl) (c_m_isRep (nI r)) ?_
  rintro _ _ ⟨rfl, rfl⟩
  refine ⟨_, rfl, ?_⟩
  refine w_ifCond_eq rfl rfl (fun c9 => ?_) (fun c9 => ?_)
  · replace c9 := b01_f c9
    exact absurd (isRepT hr) c9
  · replace c9 := b01_t c9
    refine w_aload_n rfl rfl ?_
    refine w_iload_n rfl rfl ?_
    refine w_virtual rfl rfl (mset_ob hc) ⟨(Nat.le_of_ble_eq_true rfl), rfl, (Nat.le_of_ble_eq_true rfl), (Nat.le_of_ble_eq_true rfl)⟩ rfl (Nat.le_of_ble_eq_true rfl) (c_m_isReq hc (nI q)) ?_
    rintro _ _ ⟨rfl, rfl⟩
    refine ⟨_, rfl, ?_⟩
    refine w_ifCond_eq rfl rfl (fun c17 => ?_) (fun c17 => ?_)
    · replace c17 := b01_f c17
      exact absurd ⟨nI_pos (by omega), by rw [hqn]; exact nI_ge hq (by omega)⟩ c17
    · replace c17 := b01_t c17
      refine w_iload_n rfl rfl ?_
      refine w_aload_n rfl rfl ?_
      refine w_getfield rfl (mset_ob hc) rfl ?_
      refine w_if_icmp_ne rfl rfl (fun c25 => ?_) (fun c25 => ?_)
      · refine w_aload_n rfl rfl ?_
        refine w_getfield rfl (mset_ob hc) rfl ?_
        refine w_ifCond_lt rfl rfl (fun c37 => ?_) (fun c37 => ?_)
        · refine w_iconst (v := 0) rfl (by decide) ?_
          exact w_ireturn rfl (by first | exact Or.inl rfl | exact Or.inr ⟨rfl, Or.inl rfl⟩ | exact Or.inr ⟨rfl, Or.inr rfl⟩ | exact Or.inr ⟨rfl, by assumption⟩) ⟨(by first | rfl | (simp only [c9, c17, c25, c37, if_true, if_false, and_true, true_and, and_false, false_and, or_true, true_or, or_false, false_or, not_true_eq_false, not_false_eq_true, ite_self]; done) | (simp only [c9, c17, c25, c37, if_true, if_false, and_true, true_and, and_false, false_and, or_true, true_or, or_false, false_or, not_true_eq_false, not_false_eq_true, ite_self]; rfl)), (by first | rfl | (simp only [c9, c17, c25, c37, if_true, if_false, and_true, true_and, and_false, false_and, or_true, true_or, or_false, false_or, not_true_eq_false, not_false_eq_true, ite_self]; done) | (simp only [c9, c17, c25, c37, if_true, if_false, and_true, true_and, and_false, false_and, or_true, true_or, or_false, false_or, not_true_eq_false, not_false_eq_true, ite_self]; rfl))⟩
        · refine w_aload_n rfl rfl ?_
          refine w_getfield rfl (mset_ob hc) rfl ?_
          refine w_iload_n rfl rfl ?_
          refine w_mil (k := 6) (j := r) rfl hc (by decide) rfl ⟨show r < 4 from by omega, by decide⟩ ?_
          refine w_iconst (v := 4) rfl (by decide) ?_
          refine w_irem4 rfl ?_
          refine w_aload_n rfl rfl ?_
          refine w_getfield rfl (mset_ob hc) rfl ?_
          refine w_if_icmp_eq rfl rfl (fun c52 => ?_) (fun c52 => ?_)
          · exact absurd hg (fun g => g.elim c37 (fun a => a c52))
          · refine w_iconst (v := 0) rfl (by decide) ?_
            exact w_ireturn rfl (by first | exact Or.inl rfl | exact Or.inr ⟨rfl, Or.inl rfl⟩ | exact Or.inr ⟨rfl, Or.inr rfl⟩ | exact Or.inr ⟨rfl, by assumption⟩) ⟨(by first | rfl | (simp only [c9, c17, c25, c37, c52, if_true, if_false, and_true, true_and, and_false, false_and, or_true, true_or, or_false, false_or, not_true_eq_false, not_false_eq_true, ite_self]; done) | (simp only [c9, c17, c25, c37, c52, if_true, if_false, and_true, true_and, and_false, false_and, or_true, true_or, or_false, false_or, not_true_eq_false, not_false_eq_true, ite_self]; rfl)), (by first | rfl | (simp only [c9, c17, c25, c37, c52, if_true, if_false, and_true, true_and, and_false, false_and, or_true, true_or, or_false, false_or, not_true_eq_false, not_false_eq_true, ite_self]; done) | (simp only [c9, c17, c25, c37, c52, if_true, if_false, and_true, true_and, and_false, false_and, or_true, true_or, or_false, false_or, not_true_eq_false, not_false_eq_true, ite_self]; rfl))⟩
      · exact absurd c25 hf
set_option maxRecDepth 100000 in
set_option maxHeartbeats 4000000 in
theorem c_m_lie2 {sc : pm_Sc} {cs : List pm_C} {s : MS} {kn : Nat × Nat} (hc : 72 < cs.length) {z : MS} (hz : up s 0 0 0 = z) (r q : Nat) (hr : r < 4) {n m l : Nat} (hqn : z.1 2 0 = nI n) (hn12 : n ≤ 12) (hq : q < n) (hf : ¬ nI r = z.1 1 0) (hg : ¬ (z.1 1 0 < 0 ∨ ¬ rm4 (z.1 6 r) = z.1 1 0)) (hln : z.1 7 r = nI l) (hl : l ≤ 12) (hky : KeyOK z) (hm : z.1 17 0 = nI m) (h6 : m ≤ 600) (hA : z.1 10 r = 0 → z.1 1 0 = rm4 (z.1 6 r) → plN (z.2 8 r) (nI q) l ≤ 0 → l < 12 ∧ RowOK ((f_append z r (nI q)).2 8 r) (l + 1)) : pu sc 117 [.ref 31, .int (nI r), .int (nI q)] (mset cs s, kn) (pz (some (.int (f_ordV z r (z.1 1 0) (z.1 6 r) (nI l + 1) (nI q) (31 * digN (z.2 8 r) l + nI q + 1)))) (mset cs (f_ord z r (z.1 1 0) (z.1 6 r) (nI l + 1) (nI q) (31 * digN (z.2 8 r) l + nI q + 1)), kn)) := by
  refine w_aload_n rfl rfl ?_
  refine w_iconst (v := 0) rfl (by decide) ?_
  refine w_mps rfl hc (by decide) rfl ?_
  rw [hz]
  refine w_iload_n rfl rfl ?_
  refine w_static rfl (by decide) rfl ⟨(Nat.le_of_ble_eq_true rfl), (Nat.le_of_ble_eq_true rfl), (Nat.le_of_ble_eq_true rfl)⟩ rfl (Nat.le_of_ble_eq_true rfl) (c_m_isRep (nI r)) ?_
  rintro _ _ ⟨rfl, rfl⟩
  refine ⟨_, rfl, ?_⟩
  refine w_ifCond_eq rfl rfl (fun c9 => ?_) (fun c9 => ?_)
  · replace c9 := b01_f c9
    exact absurd (isRepT hr) c9
  · replace c9 := b01_t c9
    refine w_aload_n rfl rfl ?_
    refine w_iload_n rfl rfl ?_
    refine w_virtual rfl rfl (mset_ob hc) ⟨(Nat.le_of_ble_eq_true rfl), rfl, (Nat.le_of_ble_eq_true rfl), (Nat.le_of_ble_eq_true rfl)⟩ rfl (Nat.le_of_ble_eq_true rfl) (c_m_isReq hc (nI q)) ?_
    rintro _ _ ⟨rfl, rfl⟩
    refine ⟨_, rfl, ?_⟩
    refine w_ifCond_eq rfl rfl (fun c17 => ?_) (fun c17 => ?_)
    · replace c17 := b01_f c17
      exact absurd ⟨nI_pos (by omega), by rw [hqn]; exact nI_ge hq (by omega)⟩ c17
    · replace c17 := b01_t c17
      refine w_iload_n rfl rfl ?_
      refine w_aload_n rfl rfl ?_
      refine w_getfield rfl (mset_ob hc) rfl ?_
      refine w_if_icmp_ne rfl rfl (fun c25 => ?_) (fun c25 => ?_)
      · refine w_aload_n rfl rfl ?_
        refine w_getfield rfl (mset_ob hc) rfl ?_
        refine w_ifCond_lt rfl rfl (fun c37 => ?_) (fun c37 => ?_)
        · exact absurd (Or.inl c37) hg
        · refine w_aload_n rfl rfl ?_
          refine w_getfield rfl (mset_ob hc) rfl ?_
          refine w_iload_n rfl rfl ?_
          refine w_mil (k := 6) (j := r) rfl hc (by decide) rfl ⟨show r < 4 from by omega, by decide⟩ ?_
          refine w_iconst (v := 4) rfl (by decide) ?_
          refine w_irem4 rfl ?_
          refine w_aload_n rfl rfl ?_
          refine w_getfield rfl (mset_ob hc) rfl ?_
          refine w_if_icmp_eq rfl rfl (fun c52 => ?_) (fun c52 => ?_)
          · refine w_aload_n rfl rfl ?_
            refine w_iload_n rfl rfl ?_
            refine w_aload_n rfl rfl ?_
            refine w_getfield rfl (mset_ob hc) rfl ?_
            refine w_aload_n rfl rfl ?_
            refine w_getfield rfl (mset_ob hc) rfl ?_
            refine w_iload_n rfl rfl ?_
            refine w_mil (k := 6) (j := r) rfl hc (by decide) rfl ⟨show r < 4 from by omega, by decide⟩ ?_
            refine w_aload_n rfl rfl ?_
            refine w_getfield rfl (mset_ob hc) rfl ?_
            refine w_iload_n rfl rfl ?_
            refine w_mil (k := 7) (j := r) rfl hc (by decide) rfl ⟨show r < 4 from by omega, by decide⟩ ?_
            refine w_iconst (v := 1) rfl (by decide) ?_
            refine w_iadd rfl ?_
            refine w_iload_n rfl rfl ?_
            refine w_bipush (v := 31) rfl (by decide) ?_
            refine w_aload_n rfl rfl ?_
            refine w_getfield rfl (mset_ob hc) rfl ?_
            refine w_iload_n rfl rfl ?_
            refine w_mll (k := 8) (j := r) rfl hc (by decide) rfl ⟨show r < 4 from by omega, by decide⟩ ?_
            refine w_aload_n rfl rfl ?_
            refine w_getfield rfl (mset_ob hc) rfl ?_
            refine w_iload_n rfl rfl ?_
            refine w_mil (k := 7) (j := r) rfl hc (by decide) rfl ⟨show r < 4 from by omega, by decide⟩ ?_
            rw [hln]
            refine w_static rfl (by decide) rfl ⟨(Nat.le_of_ble_eq_true rfl), (Nat.le_of_ble_eq_true rfl), (Nat.le_of_ble_eq_true rfl)⟩ rfl (Nat.le_of_ble_eq_true rfl) (c_m_dig (z.2 8 r) l (by omega)) ?_
            rintro _ _ ⟨rfl, rfl⟩
            refine ⟨_, rfl, ?_⟩
            refine w_imul rfl ?_
            refine w_iload_n rfl rfl ?_
            refine w_iadd rfl ?_
            refine w_iconst (v := 1) rfl (by decide) ?_
            refine w_iadd rfl ?_
            refine w_virtual rfl rfl (mset_ob hc) ⟨(Nat.le_of_ble_eq_true rfl), rfl, (Nat.le_of_ble_eq_true rfl), (Nat.le_of_ble_eq_true rfl)⟩ rfl (Nat.le_of_ble_eq_true rfl) (c_m_ord hc r hr _ _ _ _ _ hln hl hky hm h6 hA) ?_
            rintro _ _ ⟨rfl, rfl⟩
            refine ⟨_, rfl, ?_⟩
            exact w_ireturn rfl (Or.inr ⟨rfl, b01_01⟩) ⟨rfl, rfl⟩
          · exact absurd (Or.inr c52) hg
      · exact absurd c25 hf
set_option maxRecDepth 100000 in
set_option maxHeartbeats 4000000 in
theorem c_m_echo0 {sc : pm_Sc} {cs : List pm_C} {s : MS} {kn : Nat × Nat} (hc : 72 < cs.length) {z : MS} (hz : up s 0 0 0 = z) (x y : Int32) (h : ¬ (¬ x < 0 ∧ ¬ 3 < x) ∨ ¬ (¬ y < 0 ∧ ¬ z.1 2 0 ≤ y) ∨ x = z.1 1 0) : pu sc 118 [.ref 31, .int x, .int y] (mset cs s, kn) (pz (some (.int (0))) (mset cs (up z 0 0 1), kn)) := by
  refine w_aload_n rfl rfl ?_
  refine w_iconst (v := 0) rfl (by decide) ?_
  refine w_mps rfl hc (by decide) rfl ?_
  rw [hz]
  refine w_iload_n rfl rfl ?_
  refine w_static rfl (by decide) rfl ⟨(Nat.le_of_ble_eq_true rfl), (Nat.le_of_ble_eq_true rfl), (Nat.le_of_ble_eq_true rfl)⟩ rfl (Nat.le_of_ble_eq_true rfl) (c_m_isRep x) ?_
  rintro _ _ ⟨rfl, rfl⟩
  refine ⟨_, rfl, ?_⟩
  refine w_ifCond_eq rfl rfl (fun c9 => ?_) (fun c9 => ?_)
  · replace c9 := b01_f c9
    refine w_aload_n rfl rfl ?_
    refine w_virtual rfl rfl (mset_ob hc) ⟨(Nat.le_of_ble_eq_true rfl), rfl, (Nat.le_of_ble_eq_true rfl), (Nat.le_of_ble_eq_true rfl)⟩ rfl (Nat.le_of_ble_eq_true rfl) (c_m_refT hc) ?_
    rintro _ _ ⟨rfl, rfl⟩
    refine ⟨_, rfl, ?_⟩
    exact w_ireturn rfl (by first | exact Or.inl rfl | exact Or.inr ⟨rfl, Or.inl rfl⟩ | exact Or.inr ⟨rfl, Or.inr rfl⟩ | exact Or.inr ⟨rfl, by assumption⟩) ⟨(by first | rfl | (simp only [c9, if_true, if_false, and_true, true_and, and_false, false_and, or_true, true_or, or_false, false_or, not_true_eq_false, not_false_eq_true, ite_self]; done) | (simp only [c9, if_true, if_false, and_true, true_and, and_false, false_and, or_true, true_or, or_false, false_or, not_true_eq_false, not_false_eq_true, ite_self]; rfl)), (by first | rfl | (simp only [c9, if_true, if_false, and_true, true_and, and_false, false_and, or_true, true_or, or_false, false_or, not_true_eq_false, not_false_eq_true, ite_self]; done) | (simp only [c9, if_true, if_false, and_true, true_and, and_false, false_and, or_true, true_or, or_false, false_or, not_true_eq_false, not_false_eq_true, ite_self]; rfl))⟩
  · replace c9 := b01_t c9
    refine w_aload_n rfl rfl ?_
    refine w_iload_n rfl rfl ?_
    refine w_virtual rfl rfl (mset_ob hc) ⟨(Nat.le_of_ble_eq_true rfl), rfl, (Nat.le_of_ble_eq_true rfl), (Nat.le_of_ble_eq_true rfl)⟩ rfl (Nat.le_of_ble_eq_true rfl) (c_m_isReq hc y) ?_
    rintro _ _ ⟨rfl, rfl⟩
    refine ⟨_, rfl, ?_⟩
    refine w_ifCond_eq rfl rfl (fun c17 => ?_) (fun c17 => ?_)
    · replace c17 := b01_f c17
      refine w_aload_n rfl rfl ?_
      refine w_virtual rfl rfl (mset_ob hc) ⟨(Nat.le_of_ble_eq_true rfl), rfl, (Nat.le_of_ble_eq_true rfl), (Nat.le_of_ble_eq_true rfl)⟩ rfl (Nat.le_of_ble_eq_true rfl) (c_m_refT hc) ?_
      rintro _ _ ⟨rfl, rfl⟩
      refine ⟨_, rfl, ?_⟩
      exact w_ireturn rfl (by first | exact Or.inl rfl | exact Or.inr ⟨rfl, Or.inl rfl⟩ | exact Or.inr ⟨rfl, Or.inr rfl⟩ | exact Or.inr ⟨rfl, by assumption⟩) ⟨(by first | rfl | (simp only [c9, c17, if_true, if_false, and_true, true_and, and_false, false_and, or_true, true_or, or_false, false_or, not_true_eq_false, not_false_eq_true, ite_self]; done) | (simp only [c9, c17, if_true, if_false, and_true, true_and, and_false, false_and, or_true, true_or, or_false, false_or, not_true_eq_false, not_false_eq_true, ite_self]; rfl)), (by first | rfl | (simp only [c9, c17, if_true, if_false, and_true, true_and, and_false, false_and, or_true, true_or, or_false, false_or, not_true_eq_false, not_false_eq_true, ite_self]; done) | (simp only [c9, c17, if_true, if_false, and_true, true_and, and_false, false_and, or_true, true_or, or_false, false_or, not_true_eq_false, not_false_eq_true, ite_self]; rfl))⟩
    · replace c17 := b01_t c17
      refine w_iload_n rfl rfl ?_
      refine w_aload_n rfl rfl ?_
      refine w_getfield rfl (mset_ob hc) rfl ?_
      refine w_if_icmp_ne rfl rfl (fun c25 => ?_) (fun c25 => ?_)
      · exact absurd h (fun g => g.elim (fun a => a c9) (fun g => g.elim (fun a => a c17) c25))
      · refine w_aload_n rfl rfl ?_
        refine w_virtual rfl rfl (mset_ob hc) ⟨(Nat.le_of_ble_eq_true rfl), rfl, (Nat.le_of_ble_eq_true rfl), (Nat.le_of_ble_eq_true rfl)⟩ rfl (Nat.le_of_ble_eq_true rfl) (c_m_refT hc) ?_
        rintro _ _ ⟨rfl, rfl⟩
        refine ⟨_, rfl, ?_⟩
        exact w_ireturn rfl (by first | exact Or.inl rfl | exact Or.inr ⟨rfl, Or.inl rfl⟩ | exact Or.inr ⟨rfl, Or.inr rfl⟩ | exact Or.inr ⟨rfl, by assumption⟩) ⟨(by first | rfl | (simp only [c9, c17, (eq_true c25), if_true, if_false, and_true, true_and, and_false, false_and, or_true, true_or, or_false, false_or, not_true_eq_false, not_false_eq_true, ite_self]; done) | (simp only [c9, c17, (eq_true c25), if_true, if_false, and_true, true_and, and_false, false_and, or_true, true_or, or_false, false_or, not_true_eq_false, not_false_eq_true, ite_self]; rfl)), (by first | rfl | (simp only [c9, c17, (eq_true c25), if_true, if_false, and_true, true_and, and_false, false_and, or_true, true_or, or_false, false_or, not_true_eq_false, not_false_eq_true, ite_self]; done) | (simp only [c9, c17, (eq_true c25), if_true, if_false, and_true, true_and, and_false, false_and, or_true, true_or, or_false, false_or, not_true_eq_false, not_false_eq_true, ite_self]; rfl))⟩
set_option maxRecDepth 100000 in
set_option maxHeartbeats 4000000 in
theorem c_m_echo1 {sc : pm_Sc} {cs : List pm_C} {s : MS} {kn : Nat × Nat} (hc : 72 < cs.length) {z : MS} (hz : up s 0 0 0 = z) (r q : Nat) (hr : r < 4) {n : Nat} (hqn : z.1 2 0 = nI n) (hn12 : n ≤ 12) (hq : q < n) (hf : ¬ nI r = z.1 1 0) (hg : z.1 1 0 < 0 ∨ ¬ 0 ≤ z.1 30 (4 * q + r)) : pu sc 118 [.ref 31, .int (nI r), .int (nI q)] (mset cs s, kn) (pz (some (.int (0))) (mset cs (z), kn)) := by
  refine w_aload_n rfl rfl ?_
  refine w_iconst (v := 0) rfl (by decide) ?_
  refine w_mps rfl hc (by decide) rfl ?_
  rw [hz]
  refine w_iload_n rfl rfl ?_
  refine w_static rfl (by decide) rfl ⟨(Nat.le_of_ble_eq_true rfl), (Nat.le_of_ble_eq_true rfl), (Nat.le_of_ble_eq_true rfl)⟩ rfl (Nat.le_of_ble_eq_true rfl) (c_m_isRep (nI r)) ?_
  rintro _ _ ⟨rfl, rfl⟩
  refine ⟨_, rfl, ?_⟩
  refine w_ifCond_eq rfl rfl (fun c9 => ?_) (fun c9 => ?_)
  · replace c9 := b01_f c9
    exact absurd (isRepT hr) c9
  · replace c9 := b01_t c9
    refine w_aload_n rfl rfl ?_
    refine w_iload_n rfl rfl ?_
    refine w_virtual rfl rfl (mset_ob hc) ⟨(Nat.le_of_ble_eq_true rfl), rfl, (Nat.le_of_ble_eq_true rfl), (Nat.le_of_ble_eq_true rfl)⟩ rfl (Nat.le_of_ble_eq_true rfl) (c_m_isReq hc (nI q)) ?_
    rintro _ _ ⟨rfl, rfl⟩
    refine ⟨_, rfl, ?_⟩
    refine w_ifCond_eq rfl rfl (fun c17 => ?_) (fun c17 => ?_)
    · replace c17 := b01_f c17
      exact absurd ⟨nI_pos (by omega), by rw [hqn]; exact nI_ge hq (by omega)⟩ c17
    · replace c17 := b01_t c17
      refine w_iload_n rfl rfl ?_
      refine w_aload_n rfl rfl ?_
      refine w_getfield rfl (mset_ob hc) rfl ?_
      refine w_if_icmp_ne rfl rfl (fun c25 => ?_) (fun c25 => ?_)
      · refine w_iconst (v := 4) rfl (by decide) ?_
        refine w_iload_n rfl rfl ?_
        refine w_imulN (x := 4) (y := q) rfl rfl rfl ?_
        refine w_iload_n rfl rfl ?_
        refine w_iaddN (x := (4 * q)) (y := r) rfl rfl rfl ?_
        refine w_istore_n rfl (Nat.le_of_ble_eq_true rfl) ?_
        refine w_aload_n rfl rfl ?_
        refine w_getfield rfl (mset_ob hc) rfl ?_
        refine w_ifCond_lt rfl rfl (fun c43 => ?_) (fun c43 => ?_)
        · refine w_iconst (v := 0) rfl (by decide) ?_
          exact w_ireturn rfl (by first | exact Or.inl rfl | exact Or.inr ⟨rfl, Or.inl rfl⟩ | exact Or.inr ⟨rfl, Or.inr rfl⟩ | exact Or.inr ⟨rfl, by assumption⟩) ⟨(by first | rfl | (simp only [c9, c17, c25, c43, if_true, if_false, and_true, true_and, and_false, false_and, or_true, true_or, or_false, false_or, not_true_eq_false, not_false_eq_true, ite_self]; done) | (simp only [c9, c17, c25, c43, if_true, if_false, and_true, true_and, and_false, false_and, or_true, true_or, or_false, false_or, not_true_eq_false, not_false_eq_true, ite_self]; rfl)), (by first | rfl | (simp only [c9, c17, c25, c43, if_true, if_false, and_true, true_and, and_false, false_and, or_true, true_or, or_false, false_or, not_true_eq_false, not_false_eq_true, ite_self]; done) | (simp only [c9, c17, c25, c43, if_true, if_false, and_true, true_and, and_false, false_and, or_true, true_or, or_false, false_or, not_true_eq_false, not_false_eq_true, ite_self]; rfl))⟩
        · refine w_aload_n rfl rfl ?_
          refine w_getfield rfl (mset_ob hc) rfl ?_
          refine w_iload_n rfl rfl ?_
          refine w_mil (k := 30) (j := ((4 * q) + r)) rfl hc (by decide) rfl ⟨show ((4 * q) + r) < 48 from by omega, by decide⟩ ?_
          refine w_ifCond_ge rfl rfl (fun c52 => ?_) (fun c52 => ?_)
          · exact absurd hg (fun g => g.elim c43 (fun a => a c52))
          · refine w_iconst (v := 0) rfl (by decide) ?_
            exact w_ireturn rfl (by first | exact Or.inl rfl | exact Or.inr ⟨rfl, Or.inl rfl⟩ | exact Or.inr ⟨rfl, Or.inr rfl⟩ | exact Or.inr ⟨rfl, by assumption⟩) ⟨(by first | rfl | (simp only [c9, c17, c25, c43, c52, if_true, if_false, and_true, true_and, and_false, false_and, or_true, true_or, or_false, false_or, not_true_eq_false, not_false_eq_true, ite_self]; done) | (simp only [c9, c17, c25, c43, c52, if_true, if_false, and_true, true_and, and_false, false_and, or_true, true_or, or_false, false_or, not_true_eq_false, not_false_eq_true, ite_self]; rfl)), (by first | rfl | (simp only [c9, c17, c25, c43, c52, if_true, if_false, and_true, true_and, and_false, false_and, or_true, true_or, or_false, false_or, not_true_eq_false, not_false_eq_true, ite_self]; done) | (simp only [c9, c17, c25, c43, c52, if_true, if_false, and_true, true_and, and_false, false_and, or_true, true_or, or_false, false_or, not_true_eq_false, not_false_eq_true, ite_self]; rfl))⟩
      · exact absurd c25 hf
set_option maxRecDepth 100000 in
set_option maxHeartbeats 4000000 in
theorem c_m_echo2 {sc : pm_Sc} {cs : List pm_C} {s : MS} {kn : Nat × Nat} (hc : 72 < cs.length) {z : MS} (hz : up s 0 0 0 = z) (r q : Nat) (hr : r < 4) {n t : Nat} (hqn : z.1 2 0 = nI n) (hn12 : n ≤ 12) (hq : q < n) (hf : ¬ nI r = z.1 1 0) (ht : t < 4) (hft : z.1 1 0 = nI t) (hg : 0 ≤ z.1 30 (4 * q + r)) : pu sc 118 [.ref 31, .int (nI r), .int (nI q)] (mset cs s, kn) (pz (some (.int (1))) (mset cs (f_trep z t q (z.1 30 (4 * q + r)) (z.1 31 (4 * q + r)) (z.1 32 (4 * q + r)) (z.1 33 (4 * q + r))), kn)) := by
  refine w_aload_n rfl rfl ?_
  refine w_iconst (v := 0) rfl (by decide) ?_
  refine w_mps rfl hc (by decide) rfl ?_
  rw [hz]
  refine w_iload_n rfl rfl ?_
  refine w_static rfl (by decide) rfl ⟨(Nat.le_of_ble_eq_true rfl), (Nat.le_of_ble_eq_true rfl), (Nat.le_of_ble_eq_true rfl)⟩ rfl (Nat.le_of_ble_eq_true rfl) (c_m_isRep (nI r)) ?_
  rintro _ _ ⟨rfl, rfl⟩
  refine ⟨_, rfl, ?_⟩
  refine w_ifCond_eq rfl rfl (fun c9 => ?_) (fun c9 => ?_)
  · replace c9 := b01_f c9
    exact absurd (isRepT hr) c9
  · replace c9 := b01_t c9
    refine w_aload_n rfl rfl ?_
    refine w_iload_n rfl rfl ?_
    refine w_virtual rfl rfl (mset_ob hc) ⟨(Nat.le_of_ble_eq_true rfl), rfl, (Nat.le_of_ble_eq_true rfl), (Nat.le_of_ble_eq_true rfl)⟩ rfl (Nat.le_of_ble_eq_true rfl) (c_m_isReq hc (nI q)) ?_
    rintro _ _ ⟨rfl, rfl⟩
    refine ⟨_, rfl, ?_⟩
    refine w_ifCond_eq rfl rfl (fun c17 => ?_) (fun c17 => ?_)
    · replace c17 := b01_f c17
      exact absurd ⟨nI_pos (by omega), by rw [hqn]; exact nI_ge hq (by omega)⟩ c17
    · replace c17 := b01_t c17
      refine w_iload_n rfl rfl ?_
      refine w_aload_n rfl rfl ?_
      refine w_getfield rfl (mset_ob hc) rfl ?_
      refine w_if_icmp_ne rfl rfl (fun c25 => ?_) (fun c25 => ?_)
      · refine w_iconst (v := 4) rfl (by decide) ?_
        refine w_iload_n rfl rfl ?_
        refine w_imulN (x := 4) (y := q) rfl rfl rfl ?_
        refine w_iload_n rfl rfl ?_
        refine w_iaddN (x := (4 * q)) (y := r) rfl rfl rfl ?_
        refine w_istore_n rfl (Nat.le_of_ble_eq_true rfl) ?_
        refine w_aload_n rfl rfl ?_
        refine w_getfield rfl (mset_ob hc) rfl ?_
        refine w_ifCond_lt rfl rfl (fun c43 => ?_) (fun c43 => ?_)
        · exact absurd c43 (by rw [hft]; exact nI_pos (by omega))
        · refine w_aload_n rfl rfl ?_
          refine w_getfield rfl (mset_ob hc) rfl ?_
          refine w_iload_n rfl rfl ?_
          refine w_mil (k := 30) (j := ((4 * q) + r)) rfl hc (by decide) rfl ⟨show ((4 * q) + r) < 48 from by omega, by decide⟩ ?_
          refine w_ifCond_ge rfl rfl (fun c52 => ?_) (fun c52 => ?_)
          · refine w_aload_n rfl rfl ?_
            refine w_aload_n rfl rfl ?_
            refine w_getfield rfl (mset_ob hc) rfl ?_
            refine w_iload_n rfl rfl ?_
            refine w_aload_n rfl rfl ?_
            refine w_getfield rfl (mset_ob hc) rfl ?_
            refine w_iload_n rfl rfl ?_
            refine w_mil (k := 30) (j := ((4 * q) + r)) rfl hc (by decide) rfl ⟨show ((4 * q) + r) < 48 from by omega, by decide⟩ ?_
            refine w_aload_n rfl rfl ?_
            refine w_getfield rfl (mset_ob hc) rfl ?_
            refine w_iload_n rfl rfl ?_
            refine w_mil (k := 31) (j := ((4 * q) + r)) rfl hc (by decide) rfl ⟨show ((4 * q) + r) < 48 from by omega, by decide⟩ ?_
            refine w_aload_n rfl rfl ?_
            refine w_getfield rfl (mset_ob hc) rfl ?_
            refine w_iload_n rfl rfl ?_
            refine w_mil (k := 32) (j := ((4 * q) + r)) rfl hc (by decide) rfl ⟨show ((4 * q) + r) < 48 from by omega, by decide⟩ ?_
            refine w_aload_n rfl rfl ?_
            refine w_getfield rfl (mset_ob hc) rfl ?_
            refine w_iload_n rfl rfl ?_
            refine w_mil (k := 33) (j := ((4 * q) + r)) rfl hc (by decide) rfl ⟨show ((4 * q) + r) < 48 from by omega, by decide⟩ ?_
            rw [hft]
            refine w_virtual rfl rfl (mset_ob hc) ⟨(Nat.le_of_ble_eq_true rfl), rfl, (Nat.le_of_ble_eq_true rfl), (Nat.le_of_ble_eq_true rfl)⟩ rfl (Nat.le_of_ble_eq_true rfl) (c_m_trep hc t q ht (by omega) _ _ _ _) ?_
            rintro _ _ ⟨rfl, rfl⟩
            refine ⟨_, rfl, ?_⟩
            refine w_iconst (v := 1) rfl (by decide) ?_
            exact w_ireturn rfl (by first | exact Or.inl rfl | exact Or.inr ⟨rfl, Or.inl rfl⟩ | exact Or.inr ⟨rfl, Or.inr rfl⟩ | exact Or.inr ⟨rfl, by assumption⟩) ⟨(by first | rfl | (simp only [c9, c17, c25, c43, c52, if_true, if_false, and_true, true_and, and_false, false_and, or_true, true_or, or_false, false_or, not_true_eq_false, not_false_eq_true, ite_self]; done) | (simp only [c9, c17, c25, c43, c52, if_true, if_false, and_true, true_and, and_false, false_and, or_true, true_or, or_false, false_or, not_true_eq_false, not_false_eq_true, ite_self]; rfl)), (by first | rfl | (simp only [c9, c17, c25, c43, c52, if_true, if_false, and_true, true_and, and_false, false_and, or_true, true_or, or_false, false_or, not_true_eq_false, not_false_eq_true, ite_self]; done) | (simp only [c9, c17, c25, c43, c52, if_true, if_false, and_true, true_and, and_false, false_and, or_true, true_or, or_false, false_or, not_true_eq_false, not_false_eq_true, ite_self]; rfl))⟩
          · exact absurd hg c52
      · exact absurd c25 hf
set_option maxRecDepth 100000 in
set_option maxHeartbeats 4000000 in
theorem c_m_msgs {sc : pm_Sc} {cs : List pm_C} {s : MS} {kn : Nat × Nat} (hc : 72 < cs.length) {z : MS} (hz : up s 0 0 0 = z)  : pu sc 120 [.ref 31] (mset cs s, kn) (pz (some (.int (z.1 17 0))) (mset cs (z), kn)) := by
  refine w_aload_n rfl rfl ?_
  refine w_iconst (v := 0) rfl (by decide) ?_
  refine w_mps rfl hc (by decide) rfl ?_
  rw [hz]
  refine w_aload_n rfl rfl ?_
  refine w_getfield rfl (mset_ob hc) rfl ?_
  exact w_ireturn rfl (by first | exact Or.inl rfl | exact Or.inr ⟨rfl, Or.inl rfl⟩ | exact Or.inr ⟨rfl, Or.inr rfl⟩ | exact Or.inr ⟨rfl, by assumption⟩) ⟨(by first | rfl | (simp only [if_true, if_false, and_true, true_and, and_false, false_and, or_true, true_or, or_false, false_or, not_true_eq_false, not_false_eq_true, ite_self]; done) | (simp only [if_true, if_false, and_true, true_and, and_false, false_and, or_true, true_or, or_false, false_or, not_true_eq_false, not_false_eq_true, ite_self]; rfl)), (by first | rfl | (simp only [if_true, if_false, and_true, true_and, and_false, false_and, or_true, true_or, or_false, false_or, not_true_eq_false, not_false_eq_true, ite_self]; done) | (simp only [if_true, if_false, and_true, true_and, and_false, false_and, or_true, true_or, or_false, false_or, not_true_eq_false, not_false_eq_true, ite_self]; rfl))⟩
set_option maxRecDepth 100000 in
set_option maxHeartbeats 4000000 in
theorem c_m_view {sc : pm_Sc} {cs : List pm_C} {s : MS} {kn : Nat × Nat} (hc : 72 < cs.length) {z : MS} (hz : up s 0 0 0 = z)  : pu sc 124 [.ref 31] (mset cs s, kn) (pz (some (.int (z.1 29 0))) (mset cs (z), kn)) := by
  refine w_aload_n rfl rfl ?_
  refine w_iconst (v := 0) rfl (by decide) ?_
  refine w_mps rfl hc (by decide) rfl ?_
  rw [hz]
  refine w_aload_n rfl rfl ?_
  refine w_getfield rfl (mset_ob hc) rfl ?_
  exact w_ireturn rfl (by first | exact Or.inl rfl | exact Or.inr ⟨rfl, Or.inl rfl⟩ | exact Or.inr ⟨rfl, Or.inr rfl⟩ | exact Or.inr ⟨rfl, by assumption⟩) ⟨(by first | rfl | (simp only [if_true, if_false, and_true, true_and, and_false, false_and, or_true, true_or, or_false, false_or, not_true_eq_false, not_false_eq_true, ite_self]; done) | (simp only [if_true, if_false, and_true, true_and, and_false, false_and, or_true, true_or, or_false, false_or, not_true_eq_false, not_false_eq_true, ite_self]; rfl)), (by first | rfl | (simp only [if_true, if_false, and_true, true_and, and_false, false_and, or_true, true_or, or_false, false_or, not_true_eq_false, not_false_eq_true, ite_self]; done) | (simp only [if_true, if_false, and_true, true_and, and_false, false_and, or_true, true_or, or_false, false_or, not_true_eq_false, not_false_eq_true, ite_self]; rfl))⟩
