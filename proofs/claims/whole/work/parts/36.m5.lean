-- deps: 35.m4
/-! THE REFERENCE: what a replica takes -/
def cntN (s : MS) (r : Nat) (v : Int32) : Nat → Int32
  | 0 => 0
  | t + 1 => cntN s r v t + (if s.1 13 (4 * r + t) = v then 1 else 0)
def kept (s : MS) (r t : Nat) (v : Int32) (x : Int64) (n f : Int32) : MS := up (up (ul (up s 13 (4 * r + t) v) 15 (4 * r + t) x) 14 (4 * r + t) n) 16 (4 * r + t) f
def f_change (s : MS) (r t : Nat) (v : Int32) (x : Int64) (n f : Int32) : MS := if rm4 v = nI r ∧ s.1 6 r ≤ v then (if ¬ (kept s r t v x n f).1 10 r = 0 ∧ (kept s r t v x n f).1 6 r = v ∧ ¬ cntN (kept s r t v x n f) r v 4 < 3 then f_new (kept s r t v x n f) r else kept s r t v x n f) else s
def hat1 (s : MS) (r : Nat) (fr : Int32) : MS := up s 12 r (s.1 12 r ||| (1 <<< (fr &&& 31)))
def hat4 (s : MS) (r : Nat) (fr : Int32) : MS := up (up (up (hat1 s r fr) 6 r ((hat1 s r fr).1 6 r + 1)) 12 r 0) 10 r 1
def f_hate (s : MS) (r : Nat) (fr : Int32) : MS := if 2 ≤ bitN ((hat1 s r fr).1 12 r) 4 then (if rm4 ((hat4 s r fr).1 6 r) = nI r then f_change (hat4 s r fr) r r ((hat4 s r fr).1 6 r) ((hat4 s r fr).2 8 r) ((hat4 s r fr).1 7 r) ((hat4 s r fr).1 9 r) else f_row (hat4 s r fr) 6 (nI r) (rm4 ((hat4 s r fr).1 6 r)) ((hat4 s r fr).1 6 r) ((hat4 s r fr).2 8 r) ((hat4 s r fr).1 7 r) ((hat4 s r fr).1 9 r)) else hat1 s r fr
def lnN (s : MS) (r : Nat) : Nat := (s.1 7 r).toNatClampNeg
def wnt (s : MS) (r : Nat) (q : Int32) : MS := up s 11 r (s.1 11 r ||| (1 <<< (q &&& 31)))
def f_ask (s : MS) (r : Nat) (q fr : Int32) : MS :=
  if plN (s.2 8 r) q (lnN s r) ≤ 0 then (if rm4 (s.1 6 r) = nI r then f_reply (f_order (f_append s r q) r (lnN s r + 1)) r (lnN s r + 1) else if rm4 ((wnt s r q).1 6 r) = fr then wnt s r q else f_send (wnt s r q) 0 (nI r) (rm4 ((wnt s r q).1 6 r)) 0 q 0 0)
  else if rm4 ((f_reply s r (plN (s.2 8 r) q (lnN s r)).toNatClampNeg).1 6 r) = nI r then f_order (f_reply s r (plN (s.2 8 r) q (lnN s r)).toNatClampNeg) r (plN (s.2 8 r) q (lnN s r)).toNatClampNeg else f_reply s r (plN (s.2 8 r) q (lnN s r)).toNatClampNeg
def f_ord (s : MS) (r : Nat) (fr v p q d : Int32) : MS := if s.1 10 r = 0 ∧ v = s.1 6 r ∧ fr = rm4 v ∧ p = s.1 7 r + 1 ∧ plN (s.2 8 r) q (lnN s r) ≤ 0 ∧ d = 31 * digN (s.2 8 r) (lnN s r) + q + 1 then f_reply (f_append s r q) r (lnN s r + 1) else s
def f_ordV (s : MS) (r : Nat) (fr v p q d : Int32) : Int32 := b01 (s.1 10 r = 0 ∧ v = s.1 6 r ∧ fr = rm4 v ∧ p = s.1 7 r + 1 ∧ plN (s.2 8 r) q (lnN s r) ≤ 0 ∧ d = 31 * digN (s.2 8 r) (lnN s r) + q + 1)
def f_proof (s : MS) (r : Nat) (v : Int32) (p : Nat) (d : Int32) : MS := if v = s.1 6 r ∧ ¬ s.1 7 r < nI p ∧ d = digN (s.2 8 r) p then f_send (up s 9 r (if nI p ≤ s.1 9 r then s.1 9 r else nI p)) 4 (nI r) 4 v (-1) (nI p) d else s
def f_tnew (s : MS) (r m : Nat) : MS := if s.1 19 m = rm4 (s.1 21 m) ∧ (s.1 6 r < s.1 21 m ∨ (s.1 21 m = s.1 6 r ∧ ¬ s.1 10 r = 0)) then f_turn s r (s.1 21 m) (s.2 27 m) (s.1 22 m).toNatClampNeg (s.1 26 m) else s
def f_take (s : MS) (r m : Nat) : MS :=
  if s.1 18 m = 0 then (if s.1 10 r = 0 then f_ask s r (s.1 23 m) (s.1 19 m) else s)
  else if s.1 18 m = 1 then f_ord s r (s.1 19 m) (s.1 21 m) (s.1 22 m) (s.1 23 m) (s.1 24 m)
  else if s.1 18 m = 3 then (if s.1 10 r = 0 then f_proof s r (s.1 21 m) (s.1 22 m).toNatClampNeg (s.1 24 m) else s)
  else if s.1 18 m = 5 then (if s.1 21 m = s.1 6 r then f_hate s r (s.1 19 m) else s)
  else if s.1 18 m = 6 then f_change s r (s.1 19 m).toNatClampNeg (s.1 21 m) (s.2 27 m) (s.1 22 m) (s.1 26 m)
  else f_tnew s r m
theorem plN_nat (x : Int64) (q : Int32) : ∀ n, ∃ p, p ≤ n ∧ plN x q n = nI p
  | 0 => ⟨0, by omega, rfl⟩
  | n + 1 => by
    rw [plN]; split
    · exact ⟨n + 1, by omega, rfl⟩
    · obtain ⟨p, h1, h2⟩ := plN_nat x q n
      exact ⟨p, by omega, h2⟩
theorem not_le0 {p : Nat} (h : ¬ nI p ≤ 0) : 1 ≤ p := by
  rcases Nat.eq_zero_or_pos p with z | z
  · subst z; exact absurd (by decide) h
  · exact z
set_option maxRecDepth 100000 in
set_option maxHeartbeats 4000000 in
theorem l_m_cnt {sc : pm_Sc} {cs : List pm_C} {kn : Nat × Nat} (hc : 72 < cs.length) {s : MS} (r : Nat) (hr : r < 4) (v : Int32) {Q : (Option Value ⊕ Nat) → pm_H → Prop} (G : ∀ lv, pm_ld lv 0 = some (.ref 31) → pm_ld lv 1 = some (.int (nI r)) → pm_ld lv 3 = some (.int v) → pm_ld lv 9 = some (.int (cntN s r v 4)) → pw sc 93 (103, lv, [], (mset cs s, kn)) Q) : ∀ (d k : Nat) (lv : pm_L), k + d = 4 → pm_ld lv 0 = some (.ref 31) → pm_ld lv 1 = some (.int (nI r)) → pm_ld lv 3 = some (.int v) → pm_ld lv 9 = some (.int (cntN s r v k)) → pm_ld lv 10 = some (.int (nI k)) → pw sc 93 (66, lv, [], (mset cs s, kn)) (Q) := by
  intro d
  induction d with
  | zero =>
    intro k lv hk g0 g1 g3 g9 g10
    obtain rfl : 4 = k := by omega
    refine w_iload rfl g10 ?_
    refine w_iconst (v := 4) rfl (by decide) ?_
    refine w_if_icmp_ge rfl rfl (fun c69 => ?_) (fun c69 => ?_)
    · exact G _ g0 g1 g3 g9
    · exact absurd (nI_le (a := 4) (b := 4) (Nat.le_refl _) (by omega)) c69
  | succ d ih =>
    intro k lv hk g0 g1 g3 g9 g10
    refine w_iload rfl g10 ?_
    refine w_iconst (v := 4) rfl (by decide) ?_
    refine w_if_icmp_ge rfl rfl (fun c69 => ?_) (fun c69 => ?_)
    · exact absurd c69 (nI_ge (a := k) (b := 4) (by omega) (by omega))
    · refine w_iload rfl g9 ?_
      refine w_aload_n rfl g0 ?_
      refine w_getfield rfl (mset_ob hc) rfl ?_
      refine w_iconst (v := 4) rfl (by decide) ?_
      refine w_iload_n rfl g1 ?_
      refine w_imulN (x := 4) (y := r) rfl rfl rfl ?_
      refine w_iload rfl g10 ?_
      refine w_iaddN (x := (4 * r)) (y := k) rfl rfl rfl ?_
      refine w_mil (k := 13) (j := ((4 * r) + k)) rfl hc (by decide) rfl ⟨show ((4 * r) + k) < 16 from by omega, by decide⟩ ?_
      refine w_iload_n rfl g3 ?_
      refine w_if_icmp_ne rfl rfl (fun c86 => ?_) (fun c86 => ?_)
      · refine w_iconst (v := 0) rfl (by decide) ?_
        refine w_iadd rfl ?_
        refine w_istore rfl (Nat.le_of_ble_eq_true rfl) ?_
        refine w_iincN (j := k) rfl rfl (ld_s1 (by decide) g10 (fun _ => rfl)) (Nat.le_of_ble_eq_true rfl) ?_
        refine w_goto rfl rfl ?_
        have e : cntN s r v (k + 1) = cntN s r v k + (if s.1 13 (4 * r + k) = v then 1 else 0) := rfl
        rw [if_neg c86] at e
        have ih2 := ih (k + 1)
        rw [e] at ih2
        exact ih2 _ (by omega) (ld_s1 (by decide) (ld_s1 (by decide) g0 (fun _ => rfl)) (fun _ => rfl)) (ld_s1 (by decide) (ld_s1 (by decide) g1 (fun _ => rfl)) (fun _ => rfl)) (ld_s1 (by decide) (ld_s1 (by decide) g3 (fun _ => rfl)) (fun _ => rfl)) (ld_s1 (by decide) ld_self (fun _ => rfl)) ld_self
      · refine w_iconst (v := 1) rfl (by decide) ?_
        refine w_goto rfl rfl ?_
        refine w_iadd rfl ?_
        refine w_istore rfl (Nat.le_of_ble_eq_true rfl) ?_
        refine w_iincN (j := k) rfl rfl (ld_s1 (by decide) g10 (fun _ => rfl)) (Nat.le_of_ble_eq_true rfl) ?_
        refine w_goto rfl rfl ?_
        have e : cntN s r v (k + 1) = cntN s r v k + (if s.1 13 (4 * r + k) = v then 1 else 0) := rfl
        rw [if_pos c86] at e
        have ih2 := ih (k + 1)
        rw [e] at ih2
        exact ih2 _ (by omega) (ld_s1 (by decide) (ld_s1 (by decide) g0 (fun _ => rfl)) (fun _ => rfl)) (ld_s1 (by decide) (ld_s1 (by decide) g1 (fun _ => rfl)) (fun _ => rfl)) (ld_s1 (by decide) (ld_s1 (by decide) g3 (fun _ => rfl)) (fun _ => rfl)) (ld_s1 (by decide) ld_self (fun _ => rfl)) ld_self
set_option maxRecDepth 100000 in
set_option maxHeartbeats 4000000 in
theorem c_m_change {sc : pm_Sc} {cs : List pm_C} {s : MS} {kn : Nat × Nat} (hc : 72 < cs.length) (r t : Nat) (hr : r < 4) (ht : t < 4) (v : Int32) (x : Int64) (n f : Int32) (hN : ¬ (kept s r t v x n f).1 10 r = 0 → (kept s r t v x n f).1 6 r = v → ¬ cntN (kept s r t v x n f) r v 4 < 3 → NewPre (kept s r t v x n f) r) : pu sc 93 [.ref 31, .int (nI r), .int (nI t), .int v, .long x, .int n, .int f] (mset cs s, kn) (pz none (mset cs (f_change s r t v x n f), kn)) := by
  refine w_iload_n rfl rfl ?_
  refine w_iconst (v := 4) rfl (by decide) ?_
  refine w_irem4 rfl ?_
  refine w_iload_n rfl rfl ?_
  refine w_if_icmp_ne rfl rfl (fun c4 => ?_) (fun c4 => ?_)
  · exact w_return rfl rfl ⟨(by first | (simp only [f_change, c4, if_true, if_false, and_true, true_and, and_false, false_and, or_true, true_or, or_false, false_or, not_true_eq_false, not_false_eq_true, ite_self]; done) | (simp only [f_change, c4, if_true, if_false, and_true, true_and, and_false, false_and, or_true, true_or, or_false, false_or, not_true_eq_false, not_false_eq_true, ite_self]; rfl) | rfl), (by first | (simp only [f_change, c4, if_true, if_false, and_true, true_and, and_false, false_and, or_true, true_or, or_false, false_or, not_true_eq_false, not_false_eq_true, ite_self]; done) | (simp only [f_change, c4, if_true, if_false, and_true, true_and, and_false, false_and, or_true, true_or, or_false, false_or, not_true_eq_false, not_false_eq_true, ite_self]; rfl) | rfl)⟩
  · refine w_iload_n rfl rfl ?_
    refine w_aload_n rfl rfl ?_
    refine w_getfield rfl (mset_ob hc) rfl ?_
    refine w_iload_n rfl rfl ?_
    refine w_mil (k := 6) (j := r) rfl hc (by decide) rfl ⟨show r < 4 from by omega, by decide⟩ ?_
    refine w_if_icmp_ge rfl rfl (fun c14 => ?_) (fun c14 => ?_)
    · refine w_iconst (v := 4) rfl (by decide) ?_
      refine w_iload_n rfl rfl ?_
      refine w_imulN (x := 4) (y := r) rfl rfl rfl ?_
      refine w_iload_n rfl rfl ?_
      refine w_iaddN (x := (4 * r)) (y := t) rfl rfl rfl ?_
      refine w_istore rfl (Nat.le_of_ble_eq_true rfl) ?_
      refine w_aload_n rfl rfl ?_
      refine w_getfield rfl (mset_ob hc) rfl ?_
      refine w_iload rfl rfl ?_
      refine w_iload_n rfl rfl ?_
      refine w_mis (k := 13) (j := ((4 * r) + t)) rfl hc (by decide) rfl ⟨show ((4 * r) + t) < 16 from by omega, by decide⟩ ?_
      refine w_aload_n rfl rfl ?_
      refine w_getfield rfl (mset_ob hc) rfl ?_
      refine w_iload rfl rfl ?_
      refine w_lload rfl rfl ?_
      refine w_mls (k := 15) (j := ((4 * r) + t)) rfl hc (by decide) rfl ⟨show ((4 * r) + t) < 16 from by omega, by decide⟩ ?_
      refine w_aload_n rfl rfl ?_
      refine w_getfield rfl (mset_ob hc) rfl ?_
      refine w_iload rfl rfl ?_
      refine w_iload rfl rfl ?_
      refine w_mis (k := 14) (j := ((4 * r) + t)) rfl hc (by decide) rfl ⟨show ((4 * r) + t) < 16 from by omega, by decide⟩ ?_
      refine w_aload_n rfl rfl ?_
      refine w_getfield rfl (mset_ob hc) rfl ?_
      refine w_iload rfl rfl ?_
      refine w_iload rfl rfl ?_
      refine w_mis (k := 16) (j := ((4 * r) + t)) rfl hc (by decide) rfl ⟨show ((4 * r) + t) < 16 from by omega, by decide⟩ ?_
      refine w_iconst (v := 0) rfl (by decide) ?_
      refine w_istore rfl (Nat.le_of_ble_eq_true rfl) ?_
      refine w_iconst (v := 0) rfl (by decide) ?_
      refine w_istore rfl (Nat.le_of_ble_eq_true rfl) ?_
      have S4 : up (up (ul (up s 13 (4 * r + t) v) 15 (4 * r + t) x) 14 (4 * r + t) n) 16 (4 * r + t) f = kept s r t v x n f := rfl
      rw [S4]
      refine l_m_cnt hc r hr v (fun lv e0 e1 e3 e9 => ?_) 4 0 _ (by omega) rfl rfl rfl rfl rfl
      refine w_aload_n rfl e0 ?_
      refine w_getfield rfl (mset_ob hc) rfl ?_
      refine w_iload_n rfl e1 ?_
      refine w_mbl (k := 10) (j := r) rfl hc (by decide) rfl ⟨show r < 4 from by omega, by decide⟩ ?_
      refine w_ifCond_eq rfl rfl (fun c109 => ?_) (fun c109 => ?_)
      · exact w_return rfl rfl ⟨(by first | (simp only [f_change, (eq_true c4), c14, (eq_true c109), if_true, if_false, and_true, true_and, and_false, false_and, or_true, true_or, or_false, false_or, not_true_eq_false, not_false_eq_true, ite_self]; done) | (simp only [f_change, (eq_true c4), c14, (eq_true c109), if_true, if_false, and_true, true_and, and_false, false_and, or_true, true_or, or_false, false_or, not_true_eq_false, not_false_eq_true, ite_self]; rfl) | rfl), (by first | (simp only [f_change, (eq_true c4), c14, (eq_true c109), if_true, if_false, and_true, true_and, and_false, false_and, or_true, true_or, or_false, false_or, not_true_eq_false, not_false_eq_true, ite_self]; done) | (simp only [f_change, (eq_true c4), c14, (eq_true c109), if_true, if_false, and_true, true_and, and_false, false_and, or_true, true_or, or_false, false_or, not_true_eq_false, not_false_eq_true, ite_self]; rfl) | rfl)⟩
      · refine w_aload_n rfl e0 ?_
        refine w_getfield rfl (mset_ob hc) rfl ?_
        refine w_iload_n rfl e1 ?_
        refine w_mil (k := 6) (j := r) rfl hc (by decide) rfl ⟨show r < 4 from by omega, by decide⟩ ?_
        refine w_iload_n rfl e3 ?_
        refine w_if_icmp_ne rfl rfl (fun c119 => ?_) (fun c119 => ?_)
        · exact w_return rfl rfl ⟨(by first | (simp only [f_change, (eq_true c4), c14, c109, c119, if_true, if_false, and_true, true_and, and_false, false_and, or_true, true_or, or_false, false_or, not_true_eq_false, not_false_eq_true, ite_self]; done) | (simp only [f_change, (eq_true c4), c14, c109, c119, if_true, if_false, and_true, true_and, and_false, false_and, or_true, true_or, or_false, false_or, not_true_eq_false, not_false_eq_true, ite_self]; rfl) | rfl), (by first | (simp only [f_change, (eq_true c4), c14, c109, c119, if_true, if_false, and_true, true_and, and_false, false_and, or_true, true_or, or_false, false_or, not_true_eq_false, not_false_eq_true, ite_self]; done) | (simp only [f_change, (eq_true c4), c14, c109, c119, if_true, if_false, and_true, true_and, and_false, false_and, or_true, true_or, or_false, false_or, not_true_eq_false, not_false_eq_true, ite_self]; rfl) | rfl)⟩
        · refine w_iload rfl e9 ?_
          refine w_iconst (v := 3) rfl (by decide) ?_
          refine w_if_icmp_lt rfl rfl (fun c125 => ?_) (fun c125 => ?_)
          · exact w_return rfl rfl ⟨(by first | (simp only [f_change, (eq_true c4), c14, c109, (eq_true c119), c125, if_true, if_false, and_true, true_and, and_false, false_and, or_true, true_or, or_false, false_or, not_true_eq_false, not_false_eq_true, ite_self]; done) | (simp only [f_change, (eq_true c4), c14, c109, (eq_true c119), c125, if_true, if_false, and_true, true_and, and_false, false_and, or_true, true_or, or_false, false_or, not_true_eq_false, not_false_eq_true, ite_self]; rfl) | rfl), (by first | (simp only [f_change, (eq_true c4), c14, c109, (eq_true c119), c125, if_true, if_false, and_true, true_and, and_false, false_and, or_true, true_or, or_false, false_or, not_true_eq_false, not_false_eq_true, ite_self]; done) | (simp only [f_change, (eq_true c4), c14, c109, (eq_true c119), c125, if_true, if_false, and_true, true_and, and_false, false_and, or_true, true_or, or_false, false_or, not_true_eq_false, not_false_eq_true, ite_self]; rfl) | rfl)⟩
          · refine w_aload_n rfl e0 ?_
            refine w_iload_n rfl e1 ?_
            refine w_virtual rfl rfl (mset_ob hc) ⟨(Nat.le_of_ble_eq_true rfl), rfl, (Nat.le_of_ble_eq_true rfl), (Nat.le_of_ble_eq_true rfl)⟩ rfl (Nat.le_of_ble_eq_true rfl) (c_m_new hc r hr (hN c109 c119 c125)) ?_
            rintro _ _ ⟨rfl, rfl⟩
            refine ⟨_, rfl, ?_⟩
            exact w_return rfl rfl ⟨(by first | (simp only [f_change, (eq_true c4), c14, c109, (eq_true c119), c125, if_true, if_false, and_true, true_and, and_false, false_and, or_true, true_or, or_false, false_or, not_true_eq_false, not_false_eq_true, ite_self]; done) | (simp only [f_change, (eq_true c4), c14, c109, (eq_true c119), c125, if_true, if_false, and_true, true_and, and_false, false_and, or_true, true_or, or_false, false_or, not_true_eq_false, not_false_eq_true, ite_self]; rfl) | rfl), (by first | (simp only [f_change, (eq_true c4), c14, c109, (eq_true c119), c125, if_true, if_false, and_true, true_and, and_false, false_and, or_true, true_or, or_false, false_or, not_true_eq_false, not_false_eq_true, ite_self]; done) | (simp only [f_change, (eq_true c4), c14, c109, (eq_true c119), c125, if_true, if_false, and_true, true_and, and_false, false_and, or_true, true_or, or_false, false_or, not_true_eq_false, not_false_eq_true, ite_self]; rfl) | rfl)⟩
    · exact w_return rfl rfl ⟨(by first | (simp only [f_change, (eq_true c4), c14, if_true, if_false, and_true, true_and, and_false, false_and, or_true, true_or, or_false, false_or, not_true_eq_false, not_false_eq_true, ite_self]; done) | (simp only [f_change, (eq_true c4), c14, if_true, if_false, and_true, true_and, and_false, false_and, or_true, true_or, or_false, false_or, not_true_eq_false, not_false_eq_true, ite_self]; rfl) | rfl), (by first | (simp only [f_change, (eq_true c4), c14, if_true, if_false, and_true, true_and, and_false, false_and, or_true, true_or, or_false, false_or, not_true_eq_false, not_false_eq_true, ite_self]; done) | (simp only [f_change, (eq_true c4), c14, if_true, if_false, and_true, true_and, and_false, false_and, or_true, true_or, or_false, false_or, not_true_eq_false, not_false_eq_true, ite_self]; rfl) | rfl)⟩
set_option maxRecDepth 100000 in
set_option maxHeartbeats 4000000 in
theorem c_m_hate {sc : pm_Sc} {cs : List pm_C} {s : MS} {kn : Nat × Nat} (hc : 72 < cs.length) (r : Nat) (hr : r < 4) (fr : Int32) {m : Nat} (hm : s.1 17 0 = nI m) (h6 : m ≤ 600) (hN : rm4 ((hat4 s r fr).1 6 r) = nI r → ¬ cntN (kept (hat4 s r fr) r r ((hat4 s r fr).1 6 r) ((hat4 s r fr).2 8 r) ((hat4 s r fr).1 7 r) ((hat4 s r fr).1 9 r)) r ((hat4 s r fr).1 6 r) 4 < 3 → NewPre (kept (hat4 s r fr) r r ((hat4 s r fr).1 6 r) ((hat4 s r fr).2 8 r) ((hat4 s r fr).1 7 r) ((hat4 s r fr).1 9 r)) r) : pu sc 92 [.ref 31, .int (nI r), .int fr] (mset cs s, kn) (pz none (mset cs (f_hate s r fr), kn)) := by
  refine w_aload_n rfl rfl ?_
  refine w_getfield rfl (mset_ob hc) rfl ?_
  refine w_iload_n rfl rfl ?_
  refine w_dup2 rfl rfl rfl ?_
  refine w_mil (k := 12) (j := r) rfl hc (by decide) rfl ⟨show r < 4 from by omega, by decide⟩ ?_
  refine w_iconst (v := 1) rfl (by decide) ?_
  refine w_iload_n rfl rfl ?_
  refine w_ishl rfl ?_
  refine w_ior rfl ?_
  refine w_mis (k := 12) (j := r) rfl hc (by decide) rfl ⟨show r < 4 from by omega, by decide⟩ ?_
  refine w_aload_n rfl rfl ?_
  refine w_getfield rfl (mset_ob hc) rfl ?_
  refine w_iload_n rfl rfl ?_
  refine w_mil (k := 12) (j := r) rfl hc (by decide) rfl ⟨show r < 4 from by omega, by decide⟩ ?_
  refine w_static rfl (by decide) rfl ⟨(Nat.le_of_ble_eq_true rfl), (Nat.le_of_ble_eq_true rfl), (Nat.le_of_ble_eq_true rfl)⟩ rfl (Nat.le_of_ble_eq_true rfl) (c_m_bit _) ?_
  rintro _ _ ⟨rfl, rfl⟩
  refine ⟨_, rfl, ?_⟩
  refine w_iconst (v := 2) rfl (by decide) ?_
  refine w_if_icmp_ge rfl rfl (fun c22 => ?_) (fun c22 => ?_)
  · refine w_aload_n rfl rfl ?_
    refine w_getfield rfl (mset_ob hc) rfl ?_
    refine w_iload_n rfl rfl ?_
    refine w_dup2 rfl rfl rfl ?_
    refine w_mil (k := 6) (j := r) rfl hc (by decide) rfl ⟨show r < 4 from by omega, by decide⟩ ?_
    refine w_iconst (v := 1) rfl (by decide) ?_
    refine w_iadd rfl ?_
    refine w_mis (k := 6) (j := r) rfl hc (by decide) rfl ⟨show r < 4 from by omega, by decide⟩ ?_
    refine w_aload_n rfl rfl ?_
    refine w_getfield rfl (mset_ob hc) rfl ?_
    refine w_iload_n rfl rfl ?_
    refine w_iconst (v := 0) rfl (by decide) ?_
    refine w_mis (k := 12) (j := r) rfl hc (by decide) rfl ⟨show r < 4 from by omega, by decide⟩ ?_
    refine w_aload_n rfl rfl ?_
    refine w_getfield rfl (mset_ob hc) rfl ?_
    refine w_iload_n rfl rfl ?_
    refine w_iconst (v := 1) rfl (by decide) ?_
    refine w_mbs (k := 10) (j := r) rfl hc (by decide) (by decide) rfl ⟨show r < 4 from by omega, by decide⟩ ?_
    refine w_aload_n rfl rfl ?_
    refine w_getfield rfl (mset_ob hc) rfl ?_
    refine w_iload_n rfl rfl ?_
    refine w_mil (k := 6) (j := r) rfl hc (by decide) rfl ⟨show r < 4 from by omega, by decide⟩ ?_
    refine w_iconst (v := 4) rfl (by decide) ?_
    refine w_irem4 rfl ?_
    refine w_istore_n rfl (Nat.le_of_ble_eq_true rfl) ?_
    refine w_iload_n rfl rfl ?_
    refine w_iload_n rfl rfl ?_
    refine w_if_icmp_ne rfl rfl (fun c61 => ?_) (fun c61 => ?_)
    · refine w_aload_n rfl rfl ?_
      refine w_bipush (v := 6) rfl (by decide) ?_
      refine w_iload_n rfl rfl ?_
      refine w_iload_n rfl rfl ?_
      refine w_aload_n rfl rfl ?_
      refine w_getfield rfl (mset_ob hc) rfl ?_
      refine w_iload_n rfl rfl ?_
      refine w_mil (k := 6) (j := r) rfl hc (by decide) rfl ⟨show r < 4 from by omega, by decide⟩ ?_
      refine w_aload_n rfl rfl ?_
      refine w_getfield rfl (mset_ob hc) rfl ?_
      refine w_iload_n rfl rfl ?_
      refine w_mll (k := 8) (j := r) rfl hc (by decide) rfl ⟨show r < 4 from by omega, by decide⟩ ?_
      refine w_aload_n rfl rfl ?_
      refine w_getfield rfl (mset_ob hc) rfl ?_
      refine w_iload_n rfl rfl ?_
      refine w_mil (k := 7) (j := r) rfl hc (by decide) rfl ⟨show r < 4 from by omega, by decide⟩ ?_
      refine w_aload_n rfl rfl ?_
      refine w_getfield rfl (mset_ob hc) rfl ?_
      refine w_iload_n rfl rfl ?_
      refine w_mil (k := 9) (j := r) rfl hc (by decide) rfl ⟨show r < 4 from by omega, by decide⟩ ?_
      refine w_virtual rfl rfl (mset_ob hc) ⟨(Nat.le_of_ble_eq_true rfl), rfl, (Nat.le_of_ble_eq_true rfl), (Nat.le_of_ble_eq_true rfl)⟩ rfl (Nat.le_of_ble_eq_true rfl) (c_m_row (s := hat4 s r fr) hc _ _ _ _ _ _ _ hm h6) ?_
      rintro _ _ ⟨rfl, rfl⟩
      refine ⟨_, rfl, ?_⟩
      exact w_return rfl rfl ⟨(by first | (simp only [f_hate, hat4, hat1, c22, c61, if_true, if_false, and_true, true_and, and_false, false_and, or_true, true_or, or_false, false_or, not_true_eq_false, not_false_eq_true, ite_self]; done) | (simp only [f_hate, hat4, hat1, c22, c61, if_true, if_false, and_true, true_and, and_false, false_and, or_true, true_or, or_false, false_or, not_true_eq_false, not_false_eq_true, ite_self]; rfl) | rfl), (by first | (simp only [f_hate, hat4, hat1, c22, c61, if_true, if_false, and_true, true_and, and_false, false_and, or_true, true_or, or_false, false_or, not_true_eq_false, not_false_eq_true, ite_self]; done) | (simp only [f_hate, hat4, hat1, c22, c61, if_true, if_false, and_true, true_and, and_false, false_and, or_true, true_or, or_false, false_or, not_true_eq_false, not_false_eq_true, ite_self]; rfl) | rfl)⟩
    · refine w_aload_n rfl rfl ?_
      refine w_iload_n rfl rfl ?_
      refine w_iload_n rfl rfl ?_
      refine w_aload_n rfl rfl ?_
      refine w_getfield rfl (mset_ob hc) rfl ?_
      refine w_iload_n rfl rfl ?_
      refine w_mil (k := 6) (j := r) rfl hc (by decide) rfl ⟨show r < 4 from by omega, by decide⟩ ?_
      refine w_aload_n rfl rfl ?_
      refine w_getfield rfl (mset_ob hc) rfl ?_
      refine w_iload_n rfl rfl ?_
      refine w_mll (k := 8) (j := r) rfl hc (by decide) rfl ⟨show r < 4 from by omega, by decide⟩ ?_
      refine w_aload_n rfl rfl ?_
      refine w_getfield rfl (mset_ob hc) rfl ?_
      refine w_iload_n rfl rfl ?_
      refine w_mil (k := 7) (j := r) rfl hc (by decide) rfl ⟨show r < 4 from by omega, by decide⟩ ?_
      refine w_aload_n rfl rfl ?_
      refine w_getfield rfl (mset_ob hc) rfl ?_
      refine w_iload_n rfl rfl ?_
      refine w_mil (k := 9) (j := r) rfl hc (by decide) rfl ⟨show r < 4 from by omega, by decide⟩ ?_
      refine w_virtual rfl rfl (mset_ob hc) ⟨(Nat.le_of_ble_eq_true rfl), rfl, (Nat.le_of_ble_eq_true rfl), (Nat.le_of_ble_eq_true rfl)⟩ rfl (Nat.le_of_ble_eq_true rfl) (c_m_change (s := hat4 s r fr) hc r r hr hr _ _ _ _ (fun _ _ h3 => hN c61 h3)) ?_
      rintro _ _ ⟨rfl, rfl⟩
      refine ⟨_, rfl, ?_⟩
      refine w_goto rfl rfl ?_
      exact w_return rfl rfl ⟨(by first | (simp only [f_hate, hat4, hat1, c22, (eq_true c61), if_true, if_false, and_true, true_and, and_false, false_and, or_true, true_or, or_false, false_or, not_true_eq_false, not_false_eq_true, ite_self]; done) | (simp only [f_hate, hat4, hat1, c22, (eq_true c61), if_true, if_false, and_true, true_and, and_false, false_and, or_true, true_or, or_false, false_or, not_true_eq_false, not_false_eq_true, ite_self]; rfl) | rfl), (by first | (simp only [f_hate, hat4, hat1, c22, (eq_true c61), if_true, if_false, and_true, true_and, and_false, false_and, or_true, true_or, or_false, false_or, not_true_eq_false, not_false_eq_true, ite_self]; done) | (simp only [f_hate, hat4, hat1, c22, (eq_true c61), if_true, if_false, and_true, true_and, and_false, false_and, or_true, true_or, or_false, false_or, not_true_eq_false, not_false_eq_true, ite_self]; rfl) | rfl)⟩
  · exact w_return rfl rfl ⟨(by first | (simp only [f_hate, hat4, hat1, c22, if_true, if_false, and_true, true_and, and_false, false_and, or_true, true_or, or_false, false_or, not_true_eq_false, not_false_eq_true, ite_self]; done) | (simp only [f_hate, hat4, hat1, c22, if_true, if_false, and_true, true_and, and_false, false_and, or_true, true_or, or_false, false_or, not_true_eq_false, not_false_eq_true, ite_self]; rfl) | rfl), (by first | (simp only [f_hate, hat4, hat1, c22, if_true, if_false, and_true, true_and, and_false, false_and, or_true, true_or, or_false, false_or, not_true_eq_false, not_false_eq_true, ite_self]; done) | (simp only [f_hate, hat4, hat1, c22, if_true, if_false, and_true, true_and, and_false, false_and, or_true, true_or, or_false, false_or, not_true_eq_false, not_false_eq_true, ite_self]; rfl) | rfl)⟩
set_option maxRecDepth 100000 in
set_option maxHeartbeats 4000000 in
theorem c_m_ask {sc : pm_Sc} {cs : List pm_C} {s : MS} {kn : Nat × Nat} (hc : 72 < cs.length) (r : Nat) (hr : r < 4) (q fr : Int32) {n m : Nat} (hn : s.1 7 r = nI n) (hn2 : n ≤ 12) (hrow : RowOK (s.2 8 r) n) (hky : KeyOK s) (hm : s.1 17 0 = nI m) (h6 : m ≤ 600) (hA : rm4 (s.1 6 r) = nI r → plN (s.2 8 r) q n ≤ 0 → n < 12 ∧ RowOK ((f_append s r q).2 8 r) (n + 1)) : pu sc 88 [.ref 31, .int (nI r), .int q, .int fr] (mset cs s, kn) (pz none (mset cs (f_ask s r q fr), kn)) := by
  obtain ⟨p, hp, ep⟩ := plN_nat (s.2 8 r) q n
  have hln : lnN s r = n := by rw [lnN, hn, nI_clamp (by omega)]
  have hcl : (nI p).toNatClampNeg = p := nI_clamp (by omega)
  refine w_aload_n rfl rfl ?_
  refine w_getfield rfl (mset_ob hc) rfl ?_
  refine w_iload_n rfl rfl ?_
  refine w_mll (k := 8) (j := r) rfl hc (by decide) rfl ⟨show r < 4 from by omega, by decide⟩ ?_
  refine w_aload_n rfl rfl ?_
  refine w_getfield rfl (mset_ob hc) rfl ?_
  refine w_iload_n rfl rfl ?_
  refine w_mil (k := 7) (j := r) rfl hc (by decide) rfl ⟨show r < 4 from by omega, by decide⟩ ?_
  refine w_iload_n rfl rfl ?_
  rw [hn]
  refine w_static rfl (by decide) rfl ⟨(Nat.le_of_ble_eq_true rfl), (Nat.le_of_ble_eq_true rfl), (Nat.le_of_ble_eq_true rfl)⟩ rfl (Nat.le_of_ble_eq_true rfl) (c_m_pl (s.2 8 r) q n (by omega)) ?_
  rintro _ _ ⟨rfl, rfl⟩
  refine ⟨_, rfl, ?_⟩
  rw [ep]
  refine w_istore rfl (Nat.le_of_ble_eq_true rfl) ?_
  refine w_iload rfl rfl ?_
  refine w_ifCond_le rfl rfl (fun c20 => ?_) (fun c20 => ?_)
  · refine w_aload_n rfl rfl ?_
    refine w_iload_n rfl rfl ?_
    refine w_virtual rfl rfl (mset_ob hc) ⟨(Nat.le_of_ble_eq_true rfl), rfl, (Nat.le_of_ble_eq_true rfl), (Nat.le_of_ble_eq_true rfl)⟩ rfl (Nat.le_of_ble_eq_true rfl) (c_m_prim hc r hr) ?_
    rintro _ _ ⟨rfl, rfl⟩
    refine ⟨_, rfl, ?_⟩
    refine w_ifCond_eq rfl rfl (fun c53 => ?_) (fun c53 => ?_)
    · replace c53 := b01_f c53
      refine w_aload_n rfl rfl ?_
      refine w_getfield rfl (mset_ob hc) rfl ?_
      refine w_iload_n rfl rfl ?_
      refine w_dup2 rfl rfl rfl ?_
      refine w_mil (k := 11) (j := r) rfl hc (by decide) rfl ⟨show r < 4 from by omega, by decide⟩ ?_
      refine w_iconst (v := 1) rfl (by decide) ?_
      refine w_iload_n rfl rfl ?_
      refine w_ishl rfl ?_
      refine w_ior rfl ?_
      refine w_mis (k := 11) (j := r) rfl hc (by decide) rfl ⟨show r < 4 from by omega, by decide⟩ ?_
      refine w_aload_n rfl rfl ?_
      refine w_getfield rfl (mset_ob hc) rfl ?_
      refine w_iload_n rfl rfl ?_
      refine w_mil (k := 6) (j := r) rfl hc (by decide) rfl ⟨show r < 4 from by omega, by decide⟩ ?_
      refine w_iconst (v := 4) rfl (by decide) ?_
      refine w_irem4 rfl ?_
      refine w_iload_n rfl rfl ?_
      refine w_if_icmp_ne rfl rfl (fun c108 => ?_) (fun c108 => ?_)
      · refine w_aload_n rfl rfl ?_
        refine w_iconst (v := 0) rfl (by decide) ?_
        refine w_iload_n rfl rfl ?_
        refine w_aload_n rfl rfl ?_
        refine w_getfield rfl (mset_ob hc) rfl ?_
        refine w_iload_n rfl rfl ?_
        refine w_mil (k := 6) (j := r) rfl hc (by decide) rfl ⟨show r < 4 from by omega, by decide⟩ ?_
        refine w_iconst (v := 4) rfl (by decide) ?_
        refine w_irem4 rfl ?_
        refine w_iconst (v := 0) rfl (by decide) ?_
        refine w_iload_n rfl rfl ?_
        refine w_iconst (v := 0) rfl (by decide) ?_
        refine w_iconst (v := 0) rfl (by decide) ?_
        refine w_virtual rfl rfl (mset_ob hc) ⟨(Nat.le_of_ble_eq_true rfl), rfl, (Nat.le_of_ble_eq_true rfl), (Nat.le_of_ble_eq_true rfl)⟩ rfl (Nat.le_of_ble_eq_true rfl) (c_m_send (s := wnt s r q) hc _ _ _ _ _ _ _ hm h6) ?_
        rintro _ _ ⟨rfl, rfl⟩
        refine ⟨_, rfl, ?_⟩
        refine w_istore rfl (Nat.le_of_ble_eq_true rfl) ?_
        exact w_return rfl rfl ⟨(by first | (simp only [f_ask, wnt, hln, ep, hcl, c20, c53, c108, if_true, if_false, and_true, true_and, and_false, false_and, or_true, true_or, or_false, false_or, not_true_eq_false, not_false_eq_true, ite_self]; done) | (simp only [f_ask, wnt, hln, ep, hcl, c20, c53, c108, if_true, if_false, and_true, true_and, and_false, false_and, or_true, true_or, or_false, false_or, not_true_eq_false, not_false_eq_true, ite_self]; rfl) | rfl), (by first | (simp only [f_ask, wnt, hln, ep, hcl, c20, c53, c108, if_true, if_false, and_true, true_and, and_false, false_and, or_true, true_or, or_false, false_or, not_true_eq_false, not_false_eq_true, ite_self]; done) | (simp only [f_ask, wnt, hln, ep, hcl, c20, c53, c108, if_true, if_false, and_true, true_and, and_false, false_and, or_true, true_or, or_false, false_or, not_true_eq_false, not_false_eq_true, ite_self]; rfl) | rfl)⟩
      · refine w_iconst (v := (-1)) rfl (by decide) ?_
        refine w_goto rfl rfl ?_
        refine w_istore rfl (Nat.le_of_ble_eq_true rfl) ?_
        exact w_return rfl rfl ⟨(by first | (simp only [f_ask, wnt, hln, ep, hcl, c20, c53, (eq_true c108), if_true, if_false, and_true, true_and, and_false, false_and, or_true, true_or, or_false, false_or, not_true_eq_false, not_false_eq_true, ite_self]; done) | (simp only [f_ask, wnt, hln, ep, hcl, c20, c53, (eq_true c108), if_true, if_false, and_true, true_and, and_false, false_and, or_true, true_or, or_false, false_or, not_true_eq_false, not_false_eq_true, ite_self]; rfl) | rfl), (by first | (simp only [f_ask, wnt, hln, ep, hcl, c20, c53, (eq_true c108), if_true, if_false, and_true, true_and, and_false, false_and, or_true, true_or, or_false, false_or, not_true_eq_false, not_false_eq_true, ite_self]; done) | (simp only [f_ask, wnt, hln, ep, hcl, c20, c53, (eq_true c108), if_true, if_false, and_true, true_and, and_false, false_and, or_true, true_or, or_false, false_or, not_true_eq_false, not_false_eq_true, ite_self]; rfl) | rfl)⟩
    · replace c53 := b01_t c53
      refine w_aload_n rfl rfl ?_
      refine w_iload_n rfl rfl ?_
      refine w_iload_n rfl rfl ?_
      have hA2 := hA c53 (by rw [ep]; exact c20)
      have hn3 : (f_append s r q).1 7 r = nI (n + 1) := by show (up (ul s 8 r _) 7 r (s.1 7 r + 1)).1 7 r = _; rw [up_i, hn, nI_succ]
      obtain ⟨m', h6', hm'⟩ := f_all_m (s := f_append s r q) (m := m) hm h6 1 (nI r) ((f_append s r q).1 6 r) (m_at ((f_append s r q).2 8 r) (nI (n + 1 - 1))) (nI (n + 1)) (digN ((f_append s r q).2 8 r) (n + 1)) 4
      refine w_virtual rfl rfl (mset_ob hc) ⟨(Nat.le_of_ble_eq_true rfl), rfl, (Nat.le_of_ble_eq_true rfl), (Nat.le_of_ble_eq_true rfl)⟩ rfl (Nat.le_of_ble_eq_true rfl) (c_m_app hc r hr q) ?_
      rintro _ _ ⟨rfl, rfl⟩
      refine ⟨_, rfl, ?_⟩
      refine w_aload_n rfl rfl ?_
      refine w_iload_n rfl rfl ?_
      refine w_aload_n rfl rfl ?_
      refine w_getfield rfl (mset_ob hc) rfl ?_
      refine w_iload_n rfl rfl ?_
      refine w_mil (k := 7) (j := r) rfl hc (by decide) rfl ⟨show r < 4 from by omega, by decide⟩ ?_
      rw [hn3]
      refine w_virtual rfl rfl (mset_ob hc) ⟨(Nat.le_of_ble_eq_true rfl), rfl, (Nat.le_of_ble_eq_true rfl), (Nat.le_of_ble_eq_true rfl)⟩ rfl (Nat.le_of_ble_eq_true rfl) (c_m_order (s := f_append s r q) hc r (n + 1) hr (by omega) (by omega) hm h6) ?_
      rintro _ _ ⟨rfl, rfl⟩
      refine ⟨_, rfl, ?_⟩
      refine w_aload_n rfl rfl ?_
      refine w_iload_n rfl rfl ?_
      refine w_aload_n rfl rfl ?_
      refine w_getfield rfl (mset_ob hc) rfl ?_
      refine w_iload_n rfl rfl ?_
      refine w_mil (k := 7) (j := r) rfl hc (by decide) rfl ⟨show r < 4 from by omega, by decide⟩ ?_
      rw [show (f_order (f_append s r q) r (n + 1)).1 7 r = nI (n + 1) from ((fr_all 4).1 7 r (by omega) (by omega)).trans hn3]
      refine w_virtual rfl rfl (mset_ob hc) ⟨(Nat.le_of_ble_eq_true rfl), rfl, (Nat.le_of_ble_eq_true rfl), (Nat.le_of_ble_eq_true rfl)⟩ rfl (Nat.le_of_ble_eq_true rfl) (c_m_reply (s := f_order (f_append s r q) r (n + 1)) hc r (n + 1) hr (by omega) (by omega) (by rw [show (f_order (f_append s r q) r (n + 1)).2 8 r = (f_append s r q).2 8 r from (fr_all 4).2 8 r (by omega)]; exact hA2.2) (KeyOK.fr (s := f_append s r q) hky (fr_all 4)) hm' h6') ?_
      rintro _ _ ⟨rfl, rfl⟩
      refine ⟨_, rfl, ?_⟩
      refine w_goto rfl rfl ?_
      exact w_return rfl rfl ⟨(by first | (simp only [f_ask, wnt, hln, ep, hcl, c20, c53, if_true, if_false, and_true, true_and, and_false, false_and, or_true, true_or, or_false, false_or, not_true_eq_false, not_false_eq_true, ite_self]; done) | (simp only [f_ask, wnt, hln, ep, hcl, c20, c53, if_true, if_false, and_true, true_and, and_false, false_and, or_true, true_or, or_false, false_or, not_true_eq_false, not_false_eq_true, ite_self]; rfl) | rfl), (by first | (simp only [f_ask, wnt, hln, ep, hcl, c20, c53, if_true, if_false, and_true, true_and, and_false, false_and, or_true, true_or, or_false, false_or, not_true_eq_false, not_false_eq_true, ite_self]; done) | (simp only [f_ask, wnt, hln, ep, hcl, c20, c53, if_true, if_false, and_true, true_and, and_false, false_and, or_true, true_or, or_false, false_or, not_true_eq_false, not_false_eq_true, ite_self]; rfl) | rfl)⟩
  · refine w_aload_n rfl rfl ?_
    refine w_iload_n rfl rfl ?_
    refine w_iload rfl rfl ?_
    have hp1 := not_le0 c20
    obtain ⟨m', h6', hm'⟩ := f_reply_m hm h6 r p
    refine w_virtual rfl rfl (mset_ob hc) ⟨(Nat.le_of_ble_eq_true rfl), rfl, (Nat.le_of_ble_eq_true rfl), (Nat.le_of_ble_eq_true rfl)⟩ rfl (Nat.le_of_ble_eq_true rfl) (c_m_reply hc r p hr hp1 (by omega) (fun j hj => hrow j (by omega)) hky hm h6) ?_
    rintro _ _ ⟨rfl, rfl⟩
    refine ⟨_, rfl, ?_⟩
    refine w_aload_n rfl rfl ?_
    refine w_iload_n rfl rfl ?_
    refine w_virtual rfl rfl (mset_ob hc) ⟨(Nat.le_of_ble_eq_true rfl), rfl, (Nat.le_of_ble_eq_true rfl), (Nat.le_of_ble_eq_true rfl)⟩ rfl (Nat.le_of_ble_eq_true rfl) (c_m_prim hc r hr) ?_
    rintro _ _ ⟨rfl, rfl⟩
    refine ⟨_, rfl, ?_⟩
    refine w_ifCond_eq rfl rfl (fun c35 => ?_) (fun c35 => ?_)
    · replace c35 := b01_f c35
      exact w_return rfl rfl ⟨(by first | (simp only [f_ask, wnt, hln, ep, hcl, c20, c35, if_true, if_false, and_true, true_and, and_false, false_and, or_true, true_or, or_false, false_or, not_true_eq_false, not_false_eq_true, ite_self]; done) | (simp only [f_ask, wnt, hln, ep, hcl, c20, c35, if_true, if_false, and_true, true_and, and_false, false_and, or_true, true_or, or_false, false_or, not_true_eq_false, not_false_eq_true, ite_self]; rfl) | rfl), (by first | (simp only [f_ask, wnt, hln, ep, hcl, c20, c35, if_true, if_false, and_true, true_and, and_false, false_and, or_true, true_or, or_false, false_or, not_true_eq_false, not_false_eq_true, ite_self]; done) | (simp only [f_ask, wnt, hln, ep, hcl, c20, c35, if_true, if_false, and_true, true_and, and_false, false_and, or_true, true_or, or_false, false_or, not_true_eq_false, not_false_eq_true, ite_self]; rfl) | rfl)⟩
    · replace c35 := b01_t c35
      refine w_aload_n rfl rfl ?_
      refine w_iload_n rfl rfl ?_
      refine w_iload rfl rfl ?_
      refine w_virtual rfl rfl (mset_ob hc) ⟨(Nat.le_of_ble_eq_true rfl), rfl, (Nat.le_of_ble_eq_true rfl), (Nat.le_of_ble_eq_true rfl)⟩ rfl (Nat.le_of_ble_eq_true rfl) (c_m_order hc r p hr hp1 (by omega) hm' h6') ?_
      rintro _ _ ⟨rfl, rfl⟩
      refine ⟨_, rfl, ?_⟩
      refine w_goto rfl rfl ?_
      exact w_return rfl rfl ⟨(by first | (simp only [f_ask, wnt, hln, ep, hcl, c20, c35, if_true, if_false, and_true, true_and, and_false, false_and, or_true, true_or, or_false, false_or, not_true_eq_false, not_false_eq_true, ite_self]; done) | (simp only [f_ask, wnt, hln, ep, hcl, c20, c35, if_true, if_false, and_true, true_and, and_false, false_and, or_true, true_or, or_false, false_or, not_true_eq_false, not_false_eq_true, ite_self]; rfl) | rfl), (by first | (simp only [f_ask, wnt, hln, ep, hcl, c20, c35, if_true, if_false, and_true, true_and, and_false, false_and, or_true, true_or, or_false, false_or, not_true_eq_false, not_false_eq_true, ite_self]; done) | (simp only [f_ask, wnt, hln, ep, hcl, c20, c35, if_true, if_false, and_true, true_and, and_false, false_and, or_true, true_or, or_false, false_or, not_true_eq_false, not_false_eq_true, ite_self]; rfl) | rfl)⟩
set_option maxRecDepth 100000 in
set_option maxHeartbeats 4000000 in
theorem c_m_ord {sc : pm_Sc} {cs : List pm_C} {s : MS} {kn : Nat × Nat} (hc : 72 < cs.length) (r : Nat) (hr : r < 4) (fr v p q d : Int32) {n m : Nat} (hn : s.1 7 r = nI n) (hn2 : n ≤ 12) (hky : KeyOK s) (hm : s.1 17 0 = nI m) (h6 : m ≤ 600) (hA : s.1 10 r = 0 → fr = rm4 (s.1 6 r) → plN (s.2 8 r) q n ≤ 0 → n < 12 ∧ RowOK ((f_append s r q).2 8 r) (n + 1)) : pu sc 89 [.ref 31, .int (nI r), .int fr, .int v, .int p, .int q, .int d] (mset cs s, kn) (pz (some (.int (f_ordV s r fr v p q d))) (mset cs (f_ord s r fr v p q d), kn)) := by
  have hln : lnN s r = n := by rw [lnN, hn, nI_clamp (by omega)]
  refine w_aload_n rfl rfl ?_
  refine w_getfield rfl (mset_ob hc) rfl ?_
  refine w_iload_n rfl rfl ?_
  refine w_mbl (k := 10) (j := r) rfl hc (by decide) rfl ⟨show r < 4 from by omega, by decide⟩ ?_
  refine w_ifCond_ne rfl rfl (fun c6 => ?_) (fun c6 => ?_)
  · refine w_iconst (v := 0) rfl (by decide) ?_
    exact w_ireturn rfl (by first | exact Or.inl rfl | exact Or.inr ⟨rfl, Or.inl rfl⟩ | exact Or.inr ⟨rfl, Or.inr rfl⟩ | exact Or.inr ⟨rfl, by assumption⟩) ⟨(by first | (simp only [f_ord, f_ordV, hln, b01, c6, if_true, if_false, and_true, true_and, and_false, false_and, or_true, true_or, or_false, false_or, not_true_eq_false, not_false_eq_true, ite_self]; done) | (simp only [f_ord, f_ordV, hln, b01, c6, if_true, if_false, and_true, true_and, and_false, false_and, or_true, true_or, or_false, false_or, not_true_eq_false, not_false_eq_true, ite_self]; rfl) | rfl), (by first | (simp only [f_ord, f_ordV, hln, b01, c6, if_true, if_false, and_true, true_and, and_false, false_and, or_true, true_or, or_false, false_or, not_true_eq_false, not_false_eq_true, ite_self]; done) | (simp only [f_ord, f_ordV, hln, b01, c6, if_true, if_false, and_true, true_and, and_false, false_and, or_true, true_or, or_false, false_or, not_true_eq_false, not_false_eq_true, ite_self]; rfl) | rfl)⟩
  · refine w_iload_n rfl rfl ?_
    refine w_aload_n rfl rfl ?_
    refine w_getfield rfl (mset_ob hc) rfl ?_
    refine w_iload_n rfl rfl ?_
    refine w_mil (k := 6) (j := r) rfl hc (by decide) rfl ⟨show r < 4 from by omega, by decide⟩ ?_
    refine w_if_icmp_ne rfl rfl (fun c16 => ?_) (fun c16 => ?_)
    · refine w_iconst (v := 0) rfl (by decide) ?_
      exact w_ireturn rfl (by first | exact Or.inl rfl | exact Or.inr ⟨rfl, Or.inl rfl⟩ | exact Or.inr ⟨rfl, Or.inr rfl⟩ | exact Or.inr ⟨rfl, by assumption⟩) ⟨(by first | (simp only [f_ord, f_ordV, hln, b01, (eq_true c6), c16, if_true, if_false, and_true, true_and, and_false, false_and, or_true, true_or, or_false, false_or, not_true_eq_false, not_false_eq_true, ite_self]; done) | (simp only [f_ord, f_ordV, hln, b01, (eq_true c6), c16, if_true, if_false, and_true, true_and, and_false, false_and, or_true, true_or, or_false, false_or, not_true_eq_false, not_false_eq_true, ite_self]; rfl) | rfl), (by first | (simp only [f_ord, f_ordV, hln, b01, (eq_true c6), c16, if_true, if_false, and_true, true_and, and_false, false_and, or_true, true_or, or_false, false_or, not_true_eq_false, not_false_eq_true, ite_self]; done) | (simp only [f_ord, f_ordV, hln, b01, (eq_true c6), c16, if_true, if_false, and_true, true_and, and_false, false_and, or_true, true_or, or_false, false_or, not_true_eq_false, not_false_eq_true, ite_self]; rfl) | rfl)⟩
    · refine w_iload_n rfl rfl ?_
      refine w_iload_n rfl rfl ?_
      refine w_iconst (v := 4) rfl (by decide) ?_
      refine w_irem4 rfl ?_
      refine w_if_icmp_ne rfl rfl (fun c23 => ?_) (fun c23 => ?_)
      · refine w_iconst (v := 0) rfl (by decide) ?_
        exact w_ireturn rfl (by first | exact Or.inl rfl | exact Or.inr ⟨rfl, Or.inl rfl⟩ | exact Or.inr ⟨rfl, Or.inr rfl⟩ | exact Or.inr ⟨rfl, by assumption⟩) ⟨(by first | (simp only [f_ord, f_ordV, hln, b01, (eq_true c6), (eq_true c16), c23, if_true, if_false, and_true, true_and, and_false, false_and, or_true, true_or, or_false, false_or, not_true_eq_false, not_false_eq_true, ite_self]; done) | (simp only [f_ord, f_ordV, hln, b01, (eq_true c6), (eq_true c16), c23, if_true, if_false, and_true, true_and, and_false, false_and, or_true, true_or, or_false, false_or, not_true_eq_false, not_false_eq_true, ite_self]; rfl) | rfl), (by first | (simp only [f_ord, f_ordV, hln, b01, (eq_true c6), (eq_true c16), c23, if_true, if_false, and_true, true_and, and_false, false_and, or_true, true_or, or_false, false_or, not_true_eq_false, not_false_eq_true, ite_self]; done) | (simp only [f_ord, f_ordV, hln, b01, (eq_true c6), (eq_true c16), c23, if_true, if_false, and_true, true_and, and_false, false_and, or_true, true_or, or_false, false_or, not_true_eq_false, not_false_eq_true, ite_self]; rfl) | rfl)⟩
      · refine w_iload rfl rfl ?_
        refine w_aload_n rfl rfl ?_
        refine w_getfield rfl (mset_ob hc) rfl ?_
        refine w_iload_n rfl rfl ?_
        refine w_mil (k := 7) (j := r) rfl hc (by decide) rfl ⟨show r < 4 from by omega, by decide⟩ ?_
        refine w_iconst (v := 1) rfl (by decide) ?_
        refine w_iadd rfl ?_
        refine w_if_icmp_ne rfl rfl (fun c36 => ?_) (fun c36 => ?_)
        · refine w_iconst (v := 0) rfl (by decide) ?_
          exact w_ireturn rfl (by first | exact Or.inl rfl | exact Or.inr ⟨rfl, Or.inl rfl⟩ | exact Or.inr ⟨rfl, Or.inr rfl⟩ | exact Or.inr ⟨rfl, by assumption⟩) ⟨(by first | (simp only [f_ord, f_ordV, hln, b01, (eq_true c6), (eq_true c16), (eq_true c23), c36, if_true, if_false, and_true, true_and, and_false, false_and, or_true, true_or, or_false, false_or, not_true_eq_false, not_false_eq_true, ite_self]; done) | (simp only [f_ord, f_ordV, hln, b01, (eq_true c6), (eq_true c16), (eq_true c23), c36, if_true, if_false, and_true, true_and, and_false, false_and, or_true, true_or, or_false, false_or, not_true_eq_false, not_false_eq_true, ite_self]; rfl) | rfl), (by first | (simp only [f_ord, f_ordV, hln, b01, (eq_true c6), (eq_true c16), (eq_true c23), c36, if_true, if_false, and_true, true_and, and_false, false_and, or_true, true_or, or_false, false_or, not_true_eq_false, not_false_eq_true, ite_self]; done) | (simp only [f_ord, f_ordV, hln, b01, (eq_true c6), (eq_true c16), (eq_true c23), c36, if_true, if_false, and_true, true_and, and_false, false_and, or_true, true_or, or_false, false_or, not_true_eq_false, not_false_eq_true, ite_self]; rfl) | rfl)⟩
        · refine w_aload_n rfl rfl ?_
          refine w_getfield rfl (mset_ob hc) rfl ?_
          refine w_iload_n rfl rfl ?_
          refine w_mll (k := 8) (j := r) rfl hc (by decide) rfl ⟨show r < 4 from by omega, by decide⟩ ?_
          refine w_aload_n rfl rfl ?_
          refine w_getfield rfl (mset_ob hc) rfl ?_
          refine w_iload_n rfl rfl ?_
          refine w_mil (k := 7) (j := r) rfl hc (by decide) rfl ⟨show r < 4 from by omega, by decide⟩ ?_
          refine w_iload rfl rfl ?_
          rw [hn]
          refine w_static rfl (by decide) rfl ⟨(Nat.le_of_ble_eq_true rfl), (Nat.le_of_ble_eq_true rfl), (Nat.le_of_ble_eq_true rfl)⟩ rfl (Nat.le_of_ble_eq_true rfl) (c_m_pl (s.2 8 r) q n (by omega)) ?_
          rintro _ _ ⟨rfl, rfl⟩
          refine ⟨_, rfl, ?_⟩
          refine w_ifCond_le rfl rfl (fun c56 => ?_) (fun c56 => ?_)
          · refine w_iload rfl rfl ?_
            refine w_bipush (v := 31) rfl (by decide) ?_
            refine w_aload_n rfl rfl ?_
            refine w_getfield rfl (mset_ob hc) rfl ?_
            refine w_iload_n rfl rfl ?_
            refine w_mll (k := 8) (j := r) rfl hc (by decide) rfl ⟨show r < 4 from by omega, by decide⟩ ?_
            refine w_aload_n rfl rfl ?_
            refine w_getfield rfl (mset_ob hc) rfl ?_
            refine w_iload_n rfl rfl ?_
            refine w_mil (k := 7) (j := r) rfl hc (by decide) rfl ⟨show r < 4 from by omega, by decide⟩ ?_
            rw [hn]
            refine w_static rfl (by decide) rfl ⟨(Nat.le_of_ble_eq_true rfl), (Nat.le_of_ble_eq_true rfl), (Nat.le_of_ble_eq_true rfl)⟩ rfl (Nat.le_of_ble_eq_true rfl) (c_m_dig (s.2 8 r) n (by omega)) ?_
            rintro _ _ ⟨rfl, rfl⟩
            refine ⟨_, rfl, ?_⟩
            refine w_imul rfl ?_
            refine w_iload rfl rfl ?_
            refine w_iadd rfl ?_
            refine w_iconst (v := 1) rfl (by decide) ?_
            refine w_iadd rfl ?_
            refine w_if_icmp_eq rfl rfl (fun c86 => ?_) (fun c86 => ?_)
            · refine w_aload_n rfl rfl ?_
              refine w_iload_n rfl rfl ?_
              refine w_iload rfl rfl ?_
              have hA2 := hA c6 (by rw [← c16]; exact c23) c56
              refine w_virtual rfl rfl (mset_ob hc) ⟨(Nat.le_of_ble_eq_true rfl), rfl, (Nat.le_of_ble_eq_true rfl), (Nat.le_of_ble_eq_true rfl)⟩ rfl (Nat.le_of_ble_eq_true rfl) (c_m_app hc r hr q) ?_
              rintro _ _ ⟨rfl, rfl⟩
              refine ⟨_, rfl, ?_⟩
              refine w_aload_n rfl rfl ?_
              refine w_iload_n rfl rfl ?_
              refine w_iload rfl rfl ?_
              have hpn : p = nI (n + 1) := by rw [c36, hn, nI_succ]
              rw [hpn]
              refine w_virtual rfl rfl (mset_ob hc) ⟨(Nat.le_of_ble_eq_true rfl), rfl, (Nat.le_of_ble_eq_true rfl), (Nat.le_of_ble_eq_true rfl)⟩ rfl (Nat.le_of_ble_eq_true rfl) (c_m_reply (s := f_append s r q) hc r (n + 1) hr (by omega) (by omega) hA2.2 hky hm h6) ?_
              rintro _ _ ⟨rfl, rfl⟩
              refine ⟨_, rfl, ?_⟩
              rw [← hpn]
              refine w_iconst (v := 1) rfl (by decide) ?_
              exact w_ireturn rfl (by first | exact Or.inl rfl | exact Or.inr ⟨rfl, Or.inl rfl⟩ | exact Or.inr ⟨rfl, Or.inr rfl⟩ | exact Or.inr ⟨rfl, by assumption⟩) ⟨(by first | (simp only [f_ord, f_ordV, hln, b01, (eq_true c6), (eq_true c16), (eq_true c23), (eq_true c36), c56, (eq_true c86), if_true, if_false, and_true, true_and, and_false, false_and, or_true, true_or, or_false, false_or, not_true_eq_false, not_false_eq_true, ite_self]; done) | (simp only [f_ord, f_ordV, hln, b01, (eq_true c6), (eq_true c16), (eq_true c23), (eq_true c36), c56, (eq_true c86), if_true, if_false, and_true, true_and, and_false, false_and, or_true, true_or, or_false, false_or, not_true_eq_false, not_false_eq_true, ite_self]; rfl) | rfl), (by first | (simp only [f_ord, f_ordV, hln, b01, (eq_true c6), (eq_true c16), (eq_true c23), (eq_true c36), c56, (eq_true c86), if_true, if_false, and_true, true_and, and_false, false_and, or_true, true_or, or_false, false_or, not_true_eq_false, not_false_eq_true, ite_self]; done) | (simp only [f_ord, f_ordV, hln, b01, (eq_true c6), (eq_true c16), (eq_true c23), (eq_true c36), c56, (eq_true c86), if_true, if_false, and_true, true_and, and_false, false_and, or_true, true_or, or_false, false_or, not_true_eq_false, not_false_eq_true, ite_self]; rfl) | rfl)⟩
            · refine w_iconst (v := 0) rfl (by decide) ?_
              exact w_ireturn rfl (by first | exact Or.inl rfl | exact Or.inr ⟨rfl, Or.inl rfl⟩ | exact Or.inr ⟨rfl, Or.inr rfl⟩ | exact Or.inr ⟨rfl, by assumption⟩) ⟨(by first | (simp only [f_ord, f_ordV, hln, b01, (eq_true c6), (eq_true c16), (eq_true c23), (eq_true c36), c56, c86, if_true, if_false, and_true, true_and, and_false, false_and, or_true, true_or, or_false, false_or, not_true_eq_false, not_false_eq_true, ite_self]; done) | (simp only [f_ord, f_ordV, hln, b01, (eq_true c6), (eq_true c16), (eq_true c23), (eq_true c36), c56, c86, if_true, if_false, and_true, true_and, and_false, false_and, or_true, true_or, or_false, false_or, not_true_eq_false, not_false_eq_true, ite_self]; rfl) | rfl), (by first | (simp only [f_ord, f_ordV, hln, b01, (eq_true c6), (eq_true c16), (eq_true c23), (eq_true c36), c56, c86, if_true, if_false, and_true, true_and, and_false, false_and, or_true, true_or, or_false, false_or, not_true_eq_false, not_false_eq_true, ite_self]; done) | (simp only [f_ord, f_ordV, hln, b01, (eq_true c6), (eq_true c16), (eq_true c23), (eq_true c36), c56, c86, if_true, if_false, and_true, true_and, and_false, false_and, or_true, true_or, or_false, false_or, not_true_eq_false, not_false_eq_true, ite_self]; rfl) | rfl)⟩
          · refine w_iconst (v := 0) rfl (by decide) ?_
            exact w_ireturn rfl (by first | exact Or.inl rfl | exact Or.inr ⟨rfl, Or.inl rfl⟩ | exact Or.inr ⟨rfl, Or.inr rfl⟩ | exact Or.inr ⟨rfl, by assumption⟩) ⟨(by first | (simp only [f_ord, f_ordV, hln, b01, (eq_true c6), (eq_true c16), (eq_true c23), (eq_true c36), c56, if_true, if_false, and_true, true_and, and_false, false_and, or_true, true_or, or_false, false_or, not_true_eq_false, not_false_eq_true, ite_self]; done) | (simp only [f_ord, f_ordV, hln, b01, (eq_true c6), (eq_true c16), (eq_true c23), (eq_true c36), c56, if_true, if_false, and_true, true_and, and_false, false_and, or_true, true_or, or_false, false_or, not_true_eq_false, not_false_eq_true, ite_self]; rfl) | rfl), (by first | (simp only [f_ord, f_ordV, hln, b01, (eq_true c6), (eq_true c16), (eq_true c23), (eq_true c36), c56, if_true, if_false, and_true, true_and, and_false, false_and, or_true, true_or, or_false, false_or, not_true_eq_false, not_false_eq_true, ite_self]; done) | (simp only [f_ord, f_ordV, hln, b01, (eq_true c6), (eq_true c16), (eq_true c23), (eq_true c36), c56, if_true, if_false, and_true, true_and, and_false, false_and, or_true, true_or, or_false, false_or, not_true_eq_false, not_false_eq_true, ite_self]; rfl) | rfl)⟩
set_option maxRecDepth 100000 in
set_option maxHeartbeats 4000000 in
theorem c_m_proof {sc : pm_Sc} {cs : List pm_C} {s : MS} {kn : Nat × Nat} (hc : 72 < cs.length) (r : Nat) (hr : r < 4) (v : Int32) (p : Nat) (hp : p < 2 ^ 31) (d : Int32) {m : Nat} (hm : s.1 17 0 = nI m) (h6 : m ≤ 600) : pu sc 90 [.ref 31, .int (nI r), .int v, .int (nI p), .int d] (mset cs s, kn) (pz none (mset cs (f_proof s r v p d), kn)) := by
  refine w_iload_n rfl rfl ?_
  refine w_aload_n rfl rfl ?_
  refine w_getfield rfl (mset_ob hc) rfl ?_
  refine w_iload_n rfl rfl ?_
  refine w_mil (k := 6) (j := r) rfl hc (by decide) rfl ⟨show r < 4 from by omega, by decide⟩ ?_
  refine w_if_icmp_ne rfl rfl (fun c7 => ?_) (fun c7 => ?_)
  · exact w_return rfl rfl ⟨(by first | (simp only [f_proof, c7, if_true, if_false, and_true, true_and, and_false, false_and, or_true, true_or, or_false, false_or, not_true_eq_false, not_false_eq_true, ite_self]; done) | (simp only [f_proof, c7, if_true, if_false, and_true, true_and, and_false, false_and, or_true, true_or, or_false, false_or, not_true_eq_false, not_false_eq_true, ite_self]; rfl) | rfl), (by first | (simp only [f_proof, c7, if_true, if_false, and_true, true_and, and_false, false_and, or_true, true_or, or_false, false_or, not_true_eq_false, not_false_eq_true, ite_self]; done) | (simp only [f_proof, c7, if_true, if_false, and_true, true_and, and_false, false_and, or_true, true_or, or_false, false_or, not_true_eq_false, not_false_eq_true, ite_self]; rfl) | rfl)⟩
  · refine w_iload_n rfl rfl ?_
    refine w_aload_n rfl rfl ?_
    refine w_getfield rfl (mset_ob hc) rfl ?_
    refine w_iload_n rfl rfl ?_
    refine w_mil (k := 7) (j := r) rfl hc (by decide) rfl ⟨show r < 4 from by omega, by decide⟩ ?_
    refine w_if_icmp_gt rfl rfl (fun c17 => ?_) (fun c17 => ?_)
    · exact w_return rfl rfl ⟨(by first | (simp only [f_proof, (eq_true c7), c17, if_true, if_false, and_true, true_and, and_false, false_and, or_true, true_or, or_false, false_or, not_true_eq_false, not_false_eq_true, ite_self]; done) | (simp only [f_proof, (eq_true c7), c17, if_true, if_false, and_true, true_and, and_false, false_and, or_true, true_or, or_false, false_or, not_true_eq_false, not_false_eq_true, ite_self]; rfl) | rfl), (by first | (simp only [f_proof, (eq_true c7), c17, if_true, if_false, and_true, true_and, and_false, false_and, or_true, true_or, or_false, false_or, not_true_eq_false, not_false_eq_true, ite_self]; done) | (simp only [f_proof, (eq_true c7), c17, if_true, if_false, and_true, true_and, and_false, false_and, or_true, true_or, or_false, false_or, not_true_eq_false, not_false_eq_true, ite_self]; rfl) | rfl)⟩
    · refine w_iload rfl rfl ?_
      refine w_aload_n rfl rfl ?_
      refine w_getfield rfl (mset_ob hc) rfl ?_
      refine w_iload_n rfl rfl ?_
      refine w_mll (k := 8) (j := r) rfl hc (by decide) rfl ⟨show r < 4 from by omega, by decide⟩ ?_
      refine w_iload_n rfl rfl ?_
      refine w_static rfl (by decide) rfl ⟨(Nat.le_of_ble_eq_true rfl), (Nat.le_of_ble_eq_true rfl), (Nat.le_of_ble_eq_true rfl)⟩ rfl (Nat.le_of_ble_eq_true rfl) (c_m_dig (s.2 8 r) p hp) ?_
      rintro _ _ ⟨rfl, rfl⟩
      refine ⟨_, rfl, ?_⟩
      refine w_if_icmp_eq rfl rfl (fun c32 => ?_) (fun c32 => ?_)
      · refine w_aload_n rfl rfl ?_
        refine w_getfield rfl (mset_ob hc) rfl ?_
        refine w_iload_n rfl rfl ?_
        refine w_iload_n rfl rfl ?_
        refine w_aload_n rfl rfl ?_
        refine w_getfield rfl (mset_ob hc) rfl ?_
        refine w_iload_n rfl rfl ?_
        refine w_mil (k := 9) (j := r) rfl hc (by decide) rfl ⟨show r < 4 from by omega, by decide⟩ ?_
        refine w_if_icmp_le rfl rfl (fun c48 => ?_) (fun c48 => ?_)
        · refine w_aload_n rfl rfl ?_
          refine w_getfield rfl (mset_ob hc) rfl ?_
          refine w_iload_n rfl rfl ?_
          refine w_mil (k := 9) (j := r) rfl hc (by decide) rfl ⟨show r < 4 from by omega, by decide⟩ ?_
          refine w_mis (k := 9) (j := r) rfl hc (by decide) rfl ⟨show r < 4 from by omega, by decide⟩ ?_
          refine w_aload_n rfl rfl ?_
          refine w_iconst (v := 4) rfl (by decide) ?_
          refine w_iload_n rfl rfl ?_
          refine w_iconst (v := 4) rfl (by decide) ?_
          refine w_iload_n rfl rfl ?_
          refine w_iconst (v := (-1)) rfl (by decide) ?_
          refine w_iload_n rfl rfl ?_
          refine w_iload rfl rfl ?_
          refine w_virtual rfl rfl (mset_ob hc) ⟨(Nat.le_of_ble_eq_true rfl), rfl, (Nat.le_of_ble_eq_true rfl), (Nat.le_of_ble_eq_true rfl)⟩ rfl (Nat.le_of_ble_eq_true rfl) (c_m_send (s := up s 9 r _) hc _ _ _ _ _ _ _ hm h6) ?_
          rintro _ _ ⟨rfl, rfl⟩
          refine ⟨_, rfl, ?_⟩
          refine w_istore rfl (Nat.le_of_ble_eq_true rfl) ?_
          exact w_return rfl rfl ⟨(by first | (simp only [f_proof, (eq_true c7), c17, (eq_true c32), c48, if_true, if_false, and_true, true_and, and_false, false_and, or_true, true_or, or_false, false_or, not_true_eq_false, not_false_eq_true, ite_self]; done) | (simp only [f_proof, (eq_true c7), c17, (eq_true c32), c48, if_true, if_false, and_true, true_and, and_false, false_and, or_true, true_or, or_false, false_or, not_true_eq_false, not_false_eq_true, ite_self]; rfl) | rfl), (by first | (simp only [f_proof, (eq_true c7), c17, (eq_true c32), c48, if_true, if_false, and_true, true_and, and_false, false_and, or_true, true_or, or_false, false_or, not_true_eq_false, not_false_eq_true, ite_self]; done) | (simp only [f_proof, (eq_true c7), c17, (eq_true c32), c48, if_true, if_false, and_true, true_and, and_false, false_and, or_true, true_or, or_false, false_or, not_true_eq_false, not_false_eq_true, ite_self]; rfl) | rfl)⟩
        · refine w_iload_n rfl rfl ?_
          refine w_goto rfl rfl ?_
          refine w_mis (k := 9) (j := r) rfl hc (by decide) rfl ⟨show r < 4 from by omega, by decide⟩ ?_
          refine w_aload_n rfl rfl ?_
          refine w_iconst (v := 4) rfl (by decide) ?_
          refine w_iload_n rfl rfl ?_
          refine w_iconst (v := 4) rfl (by decide) ?_
          refine w_iload_n rfl rfl ?_
          refine w_iconst (v := (-1)) rfl (by decide) ?_
          refine w_iload_n rfl rfl ?_
          refine w_iload rfl rfl ?_
          refine w_virtual rfl rfl (mset_ob hc) ⟨(Nat.le_of_ble_eq_true rfl), rfl, (Nat.le_of_ble_eq_true rfl), (Nat.le_of_ble_eq_true rfl)⟩ rfl (Nat.le_of_ble_eq_true rfl) (c_m_send (s := up s 9 r _) hc _ _ _ _ _ _ _ hm h6) ?_
          rintro _ _ ⟨rfl, rfl⟩
          refine ⟨_, rfl, ?_⟩
          refine w_istore rfl (Nat.le_of_ble_eq_true rfl) ?_
          exact w_return rfl rfl ⟨(by first | (simp only [f_proof, (eq_true c7), c17, (eq_true c32), c48, if_true, if_false, and_true, true_and, and_false, false_and, or_true, true_or, or_false, false_or, not_true_eq_false, not_false_eq_true, ite_self]; done) | (simp only [f_proof, (eq_true c7), c17, (eq_true c32), c48, if_true, if_false, and_true, true_and, and_false, false_and, or_true, true_or, or_false, false_or, not_true_eq_false, not_false_eq_true, ite_self]; rfl) | rfl), (by first | (simp only [f_proof, (eq_true c7), c17, (eq_true c32), c48, if_true, if_false, and_true, true_and, and_false, false_and, or_true, true_or, or_false, false_or, not_true_eq_false, not_false_eq_true, ite_self]; done) | (simp only [f_proof, (eq_true c7), c17, (eq_true c32), c48, if_true, if_false, and_true, true_and, and_false, false_and, or_true, true_or, or_false, false_or, not_true_eq_false, not_false_eq_true, ite_self]; rfl) | rfl)⟩
      · exact w_return rfl rfl ⟨(by first | (simp only [f_proof, (eq_true c7), c17, c32, if_true, if_false, and_true, true_and, and_false, false_and, or_true, true_or, or_false, false_or, not_true_eq_false, not_false_eq_true, ite_self]; done) | (simp only [f_proof, (eq_true c7), c17, c32, if_true, if_false, and_true, true_and, and_false, false_and, or_true, true_or, or_false, false_or, not_true_eq_false, not_false_eq_true, ite_self]; rfl) | rfl), (by first | (simp only [f_proof, (eq_true c7), c17, c32, if_true, if_false, and_true, true_and, and_false, false_and, or_true, true_or, or_false, false_or, not_true_eq_false, not_false_eq_true, ite_self]; done) | (simp only [f_proof, (eq_true c7), c17, c32, if_true, if_false, and_true, true_and, and_false, false_and, or_true, true_or, or_false, false_or, not_true_eq_false, not_false_eq_true, ite_self]; rfl) | rfl)⟩
set_option maxRecDepth 100000 in
set_option maxHeartbeats 4000000 in
theorem c_m_tnew {sc : pm_Sc} {cs : List pm_C} {s : MS} {kn : Nat × Nat} (hc : 72 < cs.length) (r j : Nat) (hr : r < 4) (hj : j < 600) {n m : Nat} (hn : s.1 22 j = nI n) (hn2 : n ≤ 12) (hrow : RowOK (s.2 27 j) n) (hky : KeyOK s) (hm : s.1 17 0 = nI m) (h6 : m ≤ 600) : pu sc 99 [.ref 31, .int (nI r), .int (nI j)] (mset cs s, kn) (pz none (mset cs (f_tnew s r j), kn)) := by
  have hcl : (nI n).toNatClampNeg = n := nI_clamp (by omega)
  refine w_aload_n rfl rfl ?_
  refine w_getfield rfl (mset_ob hc) rfl ?_
  refine w_iload_n rfl rfl ?_
  refine w_mil (k := 21) (j := j) rfl hc (by decide) rfl ⟨show j < 600 from by omega, by decide⟩ ?_
  refine w_istore_n rfl (Nat.le_of_ble_eq_true rfl) ?_
  refine w_aload_n rfl rfl ?_
  refine w_getfield rfl (mset_ob hc) rfl ?_
  refine w_iload_n rfl rfl ?_
  refine w_mil (k := 19) (j := j) rfl hc (by decide) rfl ⟨show j < 600 from by omega, by decide⟩ ?_
  refine w_iload_n rfl rfl ?_
  refine w_iconst (v := 4) rfl (by decide) ?_
  refine w_irem4 rfl ?_
  refine w_if_icmp_ne rfl rfl (fun c16 => ?_) (fun c16 => ?_)
  · refine w_iconst (v := 0) rfl (by decide) ?_
    refine w_istore rfl (Nat.le_of_ble_eq_true rfl) ?_
    refine w_iload rfl rfl ?_
    refine w_ifCond_eq rfl rfl (fun c57 => ?_) (fun c57 => ?_)
    · exact w_return rfl rfl ⟨(by first | (simp only [f_tnew, hn, hcl, c16, (eq_true c57), if_true, if_false, and_true, true_and, and_false, false_and, or_true, true_or, or_false, false_or, not_true_eq_false, not_false_eq_true, ite_self]; done) | (simp only [f_tnew, hn, hcl, c16, (eq_true c57), if_true, if_false, and_true, true_and, and_false, false_and, or_true, true_or, or_false, false_or, not_true_eq_false, not_false_eq_true, ite_self]; rfl) | rfl), (by first | (simp only [f_tnew, hn, hcl, c16, (eq_true c57), if_true, if_false, and_true, true_and, and_false, false_and, or_true, true_or, or_false, false_or, not_true_eq_false, not_false_eq_true, ite_self]; done) | (simp only [f_tnew, hn, hcl, c16, (eq_true c57), if_true, if_false, and_true, true_and, and_false, false_and, or_true, true_or, or_false, false_or, not_true_eq_false, not_false_eq_true, ite_self]; rfl) | rfl)⟩
    · exact absurd (by decide) c57
  · refine w_iload_n rfl rfl ?_
    refine w_aload_n rfl rfl ?_
    refine w_getfield rfl (mset_ob hc) rfl ?_
    refine w_iload_n rfl rfl ?_
    refine w_mil (k := 6) (j := r) rfl hc (by decide) rfl ⟨show r < 4 from by omega, by decide⟩ ?_
    refine w_if_icmp_gt rfl rfl (fun c26 => ?_) (fun c26 => ?_)
    · refine w_iconst (v := 1) rfl (by decide) ?_
      refine w_goto rfl rfl ?_
      refine w_istore rfl (Nat.le_of_ble_eq_true rfl) ?_
      refine w_iload rfl rfl ?_
      refine w_ifCond_eq rfl rfl (fun c57 => ?_) (fun c57 => ?_)
      · exact absurd c57 (by decide)
      · refine w_aload_n rfl rfl ?_
        refine w_iload_n rfl rfl ?_
        refine w_iload_n rfl rfl ?_
        refine w_aload_n rfl rfl ?_
        refine w_getfield rfl (mset_ob hc) rfl ?_
        refine w_iload_n rfl rfl ?_
        refine w_mll (k := 27) (j := j) rfl hc (by decide) rfl ⟨show j < 600 from by omega, by decide⟩ ?_
        refine w_aload_n rfl rfl ?_
        refine w_getfield rfl (mset_ob hc) rfl ?_
        refine w_iload_n rfl rfl ?_
        refine w_mil (k := 22) (j := j) rfl hc (by decide) rfl ⟨show j < 600 from by omega, by decide⟩ ?_
        refine w_aload_n rfl rfl ?_
        refine w_getfield rfl (mset_ob hc) rfl ?_
        refine w_iload_n rfl rfl ?_
        refine w_mil (k := 26) (j := j) rfl hc (by decide) rfl ⟨show j < 600 from by omega, by decide⟩ ?_
        rw [hn]
        refine w_virtual rfl rfl (mset_ob hc) ⟨(Nat.le_of_ble_eq_true rfl), rfl, (Nat.le_of_ble_eq_true rfl), (Nat.le_of_ble_eq_true rfl)⟩ rfl (Nat.le_of_ble_eq_true rfl) (c_m_turn hc r hr _ _ n hn2 _ hrow hky hm h6) ?_
        rintro _ _ ⟨rfl, rfl⟩
        refine ⟨_, rfl, ?_⟩
        exact w_return rfl rfl ⟨(by first | (simp only [f_tnew, hn, hcl, (eq_true c16), c26, c57, if_true, if_false, and_true, true_and, and_false, false_and, or_true, true_or, or_false, false_or, not_true_eq_false, not_false_eq_true, ite_self]; done) | (simp only [f_tnew, hn, hcl, (eq_true c16), c26, c57, if_true, if_false, and_true, true_and, and_false, false_and, or_true, true_or, or_false, false_or, not_true_eq_false, not_false_eq_true, ite_self]; rfl) | rfl), (by first | (simp only [f_tnew, hn, hcl, (eq_true c16), c26, c57, if_true, if_false, and_true, true_and, and_false, false_and, or_true, true_or, or_false, false_or, not_true_eq_false, not_false_eq_true, ite_self]; done) | (simp only [f_tnew, hn, hcl, (eq_true c16), c26, c57, if_true, if_false, and_true, true_and, and_false, false_and, or_true, true_or, or_false, false_or, not_true_eq_false, not_false_eq_true, ite_self]; rfl) | rfl)⟩
    · refine w_iload_n rfl rfl ?_
      refine w_aload_n rfl rfl ?_
      refine w_getfield rfl (mset_ob hc) rfl ?_
      refine w_iload_n rfl rfl ?_
      refine w_mil (k := 6) (j := r) rfl hc (by decide) rfl ⟨show r < 4 from by omega, by decide⟩ ?_
      refine w_if_icmp_ne rfl rfl (fun c36 => ?_) (fun c36 => ?_)
      · refine w_iconst (v := 0) rfl (by decide) ?_
        refine w_istore rfl (Nat.le_of_ble_eq_true rfl) ?_
        refine w_iload rfl rfl ?_
        refine w_ifCond_eq rfl rfl (fun c57 => ?_) (fun c57 => ?_)
        · exact w_return rfl rfl ⟨(by first | (simp only [f_tnew, hn, hcl, (eq_true c16), c26, c36, (eq_true c57), if_true, if_false, and_true, true_and, and_false, false_and, or_true, true_or, or_false, false_or, not_true_eq_false, not_false_eq_true, ite_self]; done) | (simp only [f_tnew, hn, hcl, (eq_true c16), c26, c36, (eq_true c57), if_true, if_false, and_true, true_and, and_false, false_and, or_true, true_or, or_false, false_or, not_true_eq_false, not_false_eq_true, ite_self]; rfl) | rfl), (by first | (simp only [f_tnew, hn, hcl, (eq_true c16), c26, c36, (eq_true c57), if_true, if_false, and_true, true_and, and_false, false_and, or_true, true_or, or_false, false_or, not_true_eq_false, not_false_eq_true, ite_self]; done) | (simp only [f_tnew, hn, hcl, (eq_true c16), c26, c36, (eq_true c57), if_true, if_false, and_true, true_and, and_false, false_and, or_true, true_or, or_false, false_or, not_true_eq_false, not_false_eq_true, ite_self]; rfl) | rfl)⟩
        · exact absurd (by decide) c57
      · refine w_aload_n rfl rfl ?_
        refine w_getfield rfl (mset_ob hc) rfl ?_
        refine w_iload_n rfl rfl ?_
        refine w_mbl (k := 10) (j := r) rfl hc (by decide) rfl ⟨show r < 4 from by omega, by decide⟩ ?_
        refine w_ifCond_eq rfl rfl (fun c45 => ?_) (fun c45 => ?_)
        · refine w_iconst (v := 0) rfl (by decide) ?_
          refine w_istore rfl (Nat.le_of_ble_eq_true rfl) ?_
          refine w_iload rfl rfl ?_
          refine w_ifCond_eq rfl rfl (fun c57 => ?_) (fun c57 => ?_)
          · exact w_return rfl rfl ⟨(by first | (simp only [f_tnew, hn, hcl, (eq_true c16), c26, (eq_true c36), (eq_true c45), (eq_true c57), if_true, if_false, and_true, true_and, and_false, false_and, or_true, true_or, or_false, false_or, not_true_eq_false, not_false_eq_true, ite_self]; done) | (simp only [f_tnew, hn, hcl, (eq_true c16), c26, (eq_true c36), (eq_true c45), (eq_true c57), if_true, if_false, and_true, true_and, and_false, false_and, or_true, true_or, or_false, false_or, not_true_eq_false, not_false_eq_true, ite_self]; rfl) | rfl), (by first | (simp only [f_tnew, hn, hcl, (eq_true c16), c26, (eq_true c36), (eq_true c45), (eq_true c57), if_true, if_false, and_true, true_and, and_false, false_and, or_true, true_or, or_false, false_or, not_true_eq_false, not_false_eq_true, ite_self]; done) | (simp only [f_tnew, hn, hcl, (eq_true c16), c26, (eq_true c36), (eq_true c45), (eq_true c57), if_true, if_false, and_true, true_and, and_false, false_and, or_true, true_or, or_false, false_or, not_true_eq_false, not_false_eq_true, ite_self]; rfl) | rfl)⟩
          · exact absurd (by decide) c57
        · refine w_iconst (v := 1) rfl (by decide) ?_
          refine w_goto rfl rfl ?_
          refine w_istore rfl (Nat.le_of_ble_eq_true rfl) ?_
          refine w_iload rfl rfl ?_
          refine w_ifCond_eq rfl rfl (fun c57 => ?_) (fun c57 => ?_)
          · exact absurd c57 (by decide)
          · refine w_aload_n rfl rfl ?_
            refine w_iload_n rfl rfl ?_
            refine w_iload_n rfl rfl ?_
            refine w_aload_n rfl rfl ?_
            refine w_getfield rfl (mset_ob hc) rfl ?_
            refine w_iload_n rfl rfl ?_
            refine w_mll (k := 27) (j := j) rfl hc (by decide) rfl ⟨show j < 600 from by omega, by decide⟩ ?_
            refine w_aload_n rfl rfl ?_
            refine w_getfield rfl (mset_ob hc) rfl ?_
            refine w_iload_n rfl rfl ?_
            refine w_mil (k := 22) (j := j) rfl hc (by decide) rfl ⟨show j < 600 from by omega, by decide⟩ ?_
            refine w_aload_n rfl rfl ?_
            refine w_getfield rfl (mset_ob hc) rfl ?_
            refine w_iload_n rfl rfl ?_
            refine w_mil (k := 26) (j := j) rfl hc (by decide) rfl ⟨show j < 600 from by omega, by decide⟩ ?_
            rw [hn]
            refine w_virtual rfl rfl (mset_ob hc) ⟨(Nat.le_of_ble_eq_true rfl), rfl, (Nat.le_of_ble_eq_true rfl), (Nat.le_of_ble_eq_true rfl)⟩ rfl (Nat.le_of_ble_eq_true rfl) (c_m_turn hc r hr _ _ n hn2 _ hrow hky hm h6) ?_
            rintro _ _ ⟨rfl, rfl⟩
            refine ⟨_, rfl, ?_⟩
            exact w_return rfl rfl ⟨(by first | (simp only [f_tnew, hn, hcl, (eq_true c16), c26, (eq_true c36), c45, c57, if_true, if_false, and_true, true_and, and_false, false_and, or_true, true_or, or_false, false_or, not_true_eq_false, not_false_eq_true, ite_self]; done) | (simp only [f_tnew, hn, hcl, (eq_true c16), c26, (eq_true c36), c45, c57, if_true, if_false, and_true, true_and, and_false, false_and, or_true, true_or, or_false, false_or, not_true_eq_false, not_false_eq_true, ite_self]; rfl) | rfl), (by first | (simp only [f_tnew, hn, hcl, (eq_true c16), c26, (eq_true c36), c45, c57, if_true, if_false, and_true, true_and, and_false, false_and, or_true, true_or, or_false, false_or, not_true_eq_false, not_false_eq_true, ite_self]; done) | (simp only [f_tnew, hn, hcl, (eq_true c16), c26, (eq_true c36), c45, c57, if_true, if_false, and_true, true_and, and_false, false_and, or_true, true_or, or_false, false_or, not_true_eq_false, not_false_eq_true, ite_self]; rfl) | rfl)⟩
set_option maxRecDepth 100000 in
set_option maxHeartbeats 4000000 in
theorem c_m_take0 {sc : pm_Sc} {cs : List pm_C} {s : MS} {kn : Nat × Nat} (hc : 72 < cs.length) (r j : Nat) (hr : r < 4) (hj : j < 600) (hk : s.1 18 j = 0) {n m : Nat} (hn : s.1 7 r = nI n) (hn2 : n ≤ 12) (hrow : RowOK (s.2 8 r) n) (hky : KeyOK s) (hm : s.1 17 0 = nI m) (h6 : m ≤ 600) (hA : s.1 10 r = 0 → rm4 (s.1 6 r) = nI r → plN (s.2 8 r) (s.1 23 j) n ≤ 0 → n < 12 ∧ RowOK ((f_append s r (s.1 23 j)).2 8 r) (n + 1)) : pu sc 100 [.ref 31, .int (nI r), .int (nI j)] (mset cs s, kn) (pz none (mset cs (f_take s r j), kn)) := by
  rw [f_take]
  rw [if_pos hk]
  refine w_aload_n rfl rfl ?_
  refine w_getfield rfl (mset_ob hc) rfl ?_
  refine w_iload_n rfl rfl ?_
  refine w_mil (k := 18) (j := j) rfl hc (by decide) rfl ⟨show j < 600 from by omega, by decide⟩ ?_
  rw [hk]
  refine w_tableIn rfl (by decide) rfl rfl ?_
  refine w_aload_n rfl rfl ?_
  refine w_getfield rfl (mset_ob hc) rfl ?_
  refine w_iload_n rfl rfl ?_
  refine w_mbl (k := 10) (j := r) rfl hc (by decide) rfl ⟨show r < 4 from by omega, by decide⟩ ?_
  refine w_ifCond_ne rfl rfl (fun c54 => ?_) (fun c54 => ?_)
  · exact w_return rfl rfl ⟨(by first | (simp only [f_take, hk, c54, if_true, if_false, and_true, true_and, and_false, false_and, or_true, true_or, or_false, false_or, not_true_eq_false, not_false_eq_true, ite_self]; done) | (simp only [f_take, hk, c54, if_true, if_false, and_true, true_and, and_false, false_and, or_true, true_or, or_false, false_or, not_true_eq_false, not_false_eq_true, ite_self]; rfl) | rfl), (by first | (simp only [f_take, hk, c54, if_true, if_false, and_true, true_and, and_false, false_and, or_true, true_or, or_false, false_or, not_true_eq_false, not_false_eq_true, ite_self]; done) | (simp only [f_take, hk, c54, if_true, if_false, and_true, true_and, and_false, false_and, or_true, true_or, or_false, false_or, not_true_eq_false, not_false_eq_true, ite_self]; rfl) | rfl)⟩
  · refine w_aload_n rfl rfl ?_
    refine w_iload_n rfl rfl ?_
    refine w_aload_n rfl rfl ?_
    refine w_getfield rfl (mset_ob hc) rfl ?_
    refine w_iload_n rfl rfl ?_
    refine w_mil (k := 23) (j := j) rfl hc (by decide) rfl ⟨show j < 600 from by omega, by decide⟩ ?_
    refine w_aload_n rfl rfl ?_
    refine w_getfield rfl (mset_ob hc) rfl ?_
    refine w_iload_n rfl rfl ?_
    refine w_mil (k := 19) (j := j) rfl hc (by decide) rfl ⟨show j < 600 from by omega, by decide⟩ ?_
    refine w_virtual rfl rfl (mset_ob hc) ⟨(Nat.le_of_ble_eq_true rfl), rfl, (Nat.le_of_ble_eq_true rfl), (Nat.le_of_ble_eq_true rfl)⟩ rfl (Nat.le_of_ble_eq_true rfl) (c_m_ask hc r hr _ _ hn hn2 hrow hky hm h6 (hA c54)) ?_
    rintro _ _ ⟨rfl, rfl⟩
    refine ⟨_, rfl, ?_⟩
    refine w_goto rfl rfl ?_
    exact w_return rfl rfl ⟨(by first | (simp only [f_take, hk, (eq_true c54), if_true, if_false, and_true, true_and, and_false, false_and, or_true, true_or, or_false, false_or, not_true_eq_false, not_false_eq_true, ite_self]; done) | (simp only [f_take, hk, (eq_true c54), if_true, if_false, and_true, true_and, and_false, false_and, or_true, true_or, or_false, false_or, not_true_eq_false, not_false_eq_true, ite_self]; rfl) | rfl), (by first | (simp only [f_take, hk, (eq_true c54), if_true, if_false, and_true, true_and, and_false, false_and, or_true, true_or, or_false, false_or, not_true_eq_false, not_false_eq_true, ite_self]; done) | (simp only [f_take, hk, (eq_true c54), if_true, if_false, and_true, true_and, and_false, false_and, or_true, true_or, or_false, false_or, not_true_eq_false, not_false_eq_true, ite_self]; rfl) | rfl)⟩
set_option maxRecDepth 100000 in
set_option maxHeartbeats 4000000 in
theorem c_m_take1 {sc : pm_Sc} {cs : List pm_C} {s : MS} {kn : Nat × Nat} (hc : 72 < cs.length) (r j : Nat) (hr : r < 4) (hj : j < 600) (hk : s.1 18 j = 1) {n m : Nat} (hn : s.1 7 r = nI n) (hn2 : n ≤ 12) (hky : KeyOK s) (hm : s.1 17 0 = nI m) (h6 : m ≤ 600) (hA : s.1 10 r = 0 → s.1 19 j = rm4 (s.1 6 r) → plN (s.2 8 r) (s.1 23 j) n ≤ 0 → n < 12 ∧ RowOK ((f_append s r (s.1 23 j)).2 8 r) (n + 1)) : pu sc 100 [.ref 31, .int (nI r), .int (nI j)] (mset cs s, kn) (pz none (mset cs (f_take s r j), kn)) := by
  rw [f_take]
  rw [if_neg (show ¬ s.1 18 j = 0 by rw [hk]; decide)]
  rw [if_pos hk]
  refine w_aload_n rfl rfl ?_
  refine w_getfield rfl (mset_ob hc) rfl ?_
  refine w_iload_n rfl rfl ?_
  refine w_mil (k := 18) (j := j) rfl hc (by decide) rfl ⟨show j < 600 from by omega, by decide⟩ ?_
  rw [hk]
  refine w_tableIn rfl (by decide) rfl rfl ?_
  refine w_aload_n rfl rfl ?_
  refine w_iload_n rfl rfl ?_
  refine w_aload_n rfl rfl ?_
  refine w_getfield rfl (mset_ob hc) rfl ?_
  refine w_iload_n rfl rfl ?_
  refine w_mil (k := 19) (j := j) rfl hc (by decide) rfl ⟨show j < 600 from by omega, by decide⟩ ?_
  refine w_aload_n rfl rfl ?_
  refine w_getfield rfl (mset_ob hc) rfl ?_
  refine w_iload_n rfl rfl ?_
  refine w_mil (k := 21) (j := j) rfl hc (by decide) rfl ⟨show j < 600 from by omega, by decide⟩ ?_
  refine w_aload_n rfl rfl ?_
  refine w_getfield rfl (mset_ob hc) rfl ?_
  refine w_iload_n rfl rfl ?_
  refine w_mil (k := 22) (j := j) rfl hc (by decide) rfl ⟨show j < 600 from by omega, by decide⟩ ?_
  refine w_aload_n rfl rfl ?_
  refine w_getfield rfl (mset_ob hc) rfl ?_
  refine w_iload_n rfl rfl ?_
  refine w_mil (k := 23) (j := j) rfl hc (by decide) rfl ⟨show j < 600 from by omega, by decide⟩ ?_
  refine w_aload_n rfl rfl ?_
  refine w_getfield rfl (mset_ob hc) rfl ?_
  refine w_iload_n rfl rfl ?_
  refine w_mil (k := 24) (j := j) rfl hc (by decide) rfl ⟨show j < 600 from by omega, by decide⟩ ?_
  refine w_virtual rfl rfl (mset_ob hc) ⟨(Nat.le_of_ble_eq_true rfl), rfl, (Nat.le_of_ble_eq_true rfl), (Nat.le_of_ble_eq_true rfl)⟩ rfl (Nat.le_of_ble_eq_true rfl) (c_m_ord hc r hr _ _ _ _ _ hn hn2 hky hm h6 hA) ?_
  rintro _ _ ⟨rfl, rfl⟩
  refine ⟨_, rfl, ?_⟩
  refine w_pop rfl rfl ?_
  refine w_goto rfl rfl ?_
  exact w_return rfl rfl ⟨(by first | (simp only [f_take, hk, if_true, if_false, and_true, true_and, and_false, false_and, or_true, true_or, or_false, false_or, not_true_eq_false, not_false_eq_true, ite_self]; done) | (simp only [f_take, hk, if_true, if_false, and_true, true_and, and_false, false_and, or_true, true_or, or_false, false_or, not_true_eq_false, not_false_eq_true, ite_self]; rfl) | rfl), (by first | (simp only [f_take, hk, if_true, if_false, and_true, true_and, and_false, false_and, or_true, true_or, or_false, false_or, not_true_eq_false, not_false_eq_true, ite_self]; done) | (simp only [f_take, hk, if_true, if_false, and_true, true_and, and_false, false_and, or_true, true_or, or_false, false_or, not_true_eq_false, not_false_eq_true, ite_self]; rfl) | rfl)⟩
set_option maxRecDepth 100000 in
set_option maxHeartbeats 4000000 in
theorem c_m_take3 {sc : pm_Sc} {cs : List pm_C} {s : MS} {kn : Nat × Nat} (hc : 72 < cs.length) (r j : Nat) (hr : r < 4) (hj : j < 600) (hk : s.1 18 j = 3) {p m : Nat} (hp : s.1 22 j = nI p) (hp2 : p < 2 ^ 31) (hm : s.1 17 0 = nI m) (h6 : m ≤ 600) : pu sc 100 [.ref 31, .int (nI r), .int (nI j)] (mset cs s, kn) (pz none (mset cs (f_take s r j), kn)) := by
  rw [f_take]
  rw [if_neg (show ¬ s.1 18 j = 0 by rw [hk]; decide)]
  rw [if_neg (show ¬ s.1 18 j = 1 by rw [hk]; decide)]
  rw [if_pos hk]
  have hcl : (nI p).toNatClampNeg = p := nI_clamp (by omega)
  refine w_aload_n rfl rfl ?_
  refine w_getfield rfl (mset_ob hc) rfl ?_
  refine w_iload_n rfl rfl ?_
  refine w_mil (k := 18) (j := j) rfl hc (by decide) rfl ⟨show j < 600 from by omega, by decide⟩ ?_
  rw [hk]
  refine w_tableIn rfl (by decide) rfl rfl ?_
  refine w_aload_n rfl rfl ?_
  refine w_getfield rfl (mset_ob hc) rfl ?_
  refine w_iload_n rfl rfl ?_
  refine w_mbl (k := 10) (j := r) rfl hc (by decide) rfl ⟨show r < 4 from by omega, by decide⟩ ?_
  refine w_ifCond_ne rfl rfl (fun c122 => ?_) (fun c122 => ?_)
  · exact w_return rfl rfl ⟨(by first | (simp only [f_take, hk, hp, hcl, c122, if_true, if_false, and_true, true_and, and_false, false_and, or_true, true_or, or_false, false_or, not_true_eq_false, not_false_eq_true, ite_self]; done) | (simp only [f_take, hk, hp, hcl, c122, if_true, if_false, and_true, true_and, and_false, false_and, or_true, true_or, or_false, false_or, not_true_eq_false, not_false_eq_true, ite_self]; rfl) | rfl), (by first | (simp only [f_take, hk, hp, hcl, c122, if_true, if_false, and_true, true_and, and_false, false_and, or_true, true_or, or_false, false_or, not_true_eq_false, not_false_eq_true, ite_self]; done) | (simp only [f_take, hk, hp, hcl, c122, if_true, if_false, and_true, true_and, and_false, false_and, or_true, true_or, or_false, false_or, not_true_eq_false, not_false_eq_true, ite_self]; rfl) | rfl)⟩
  · refine w_aload_n rfl rfl ?_
    refine w_iload_n rfl rfl ?_
    refine w_aload_n rfl rfl ?_
    refine w_getfield rfl (mset_ob hc) rfl ?_
    refine w_iload_n rfl rfl ?_
    refine w_mil (k := 21) (j := j) rfl hc (by decide) rfl ⟨show j < 600 from by omega, by decide⟩ ?_
    refine w_aload_n rfl rfl ?_
    refine w_getfield rfl (mset_ob hc) rfl ?_
    refine w_iload_n rfl rfl ?_
    refine w_mil (k := 22) (j := j) rfl hc (by decide) rfl ⟨show j < 600 from by omega, by decide⟩ ?_
    refine w_aload_n rfl rfl ?_
    refine w_getfield rfl (mset_ob hc) rfl ?_
    refine w_iload_n rfl rfl ?_
    refine w_mil (k := 24) (j := j) rfl hc (by decide) rfl ⟨show j < 600 from by omega, by decide⟩ ?_
    rw [hp]
    refine w_virtual rfl rfl (mset_ob hc) ⟨(Nat.le_of_ble_eq_true rfl), rfl, (Nat.le_of_ble_eq_true rfl), (Nat.le_of_ble_eq_true rfl)⟩ rfl (Nat.le_of_ble_eq_true rfl) (c_m_proof hc r hr _ p hp2 _ hm h6) ?_
    rintro _ _ ⟨rfl, rfl⟩
    refine ⟨_, rfl, ?_⟩
    refine w_goto rfl rfl ?_
    exact w_return rfl rfl ⟨(by first | (simp only [f_take, hk, hp, hcl, (eq_true c122), if_true, if_false, and_true, true_and, and_false, false_and, or_true, true_or, or_false, false_or, not_true_eq_false, not_false_eq_true, ite_self]; done) | (simp only [f_take, hk, hp, hcl, (eq_true c122), if_true, if_false, and_true, true_and, and_false, false_and, or_true, true_or, or_false, false_or, not_true_eq_false, not_false_eq_true, ite_self]; rfl) | rfl), (by first | (simp only [f_take, hk, hp, hcl, (eq_true c122), if_true, if_false, and_true, true_and, and_false, false_and, or_true, true_or, or_false, false_or, not_true_eq_false, not_false_eq_true, ite_self]; done) | (simp only [f_take, hk, hp, hcl, (eq_true c122), if_true, if_false, and_true, true_and, and_false, false_and, or_true, true_or, or_false, false_or, not_true_eq_false, not_false_eq_true, ite_self]; rfl) | rfl)⟩
set_option maxRecDepth 100000 in
set_option maxHeartbeats 4000000 in
theorem c_m_take5 {sc : pm_Sc} {cs : List pm_C} {s : MS} {kn : Nat × Nat} (hc : 72 < cs.length) (r j : Nat) (hr : r < 4) (hj : j < 600) (hk : s.1 18 j = 5) {m : Nat} (hm : s.1 17 0 = nI m) (h6 : m ≤ 600) (hN : rm4 ((hat4 s r (s.1 19 j)).1 6 r) = nI r → ¬ cntN (kept (hat4 s r (s.1 19 j)) r r ((hat4 s r (s.1 19 j)).1 6 r) ((hat4 s r (s.1 19 j)).2 8 r) ((hat4 s r (s.1 19 j)).1 7 r) ((hat4 s r (s.1 19 j)).1 9 r)) r ((hat4 s r (s.1 19 j)).1 6 r) 4 < 3 → NewPre (kept (hat4 s r (s.1 19 j)) r r ((hat4 s r (s.1 19 j)).1 6 r) ((hat4 s r (s.1 19 j)).2 8 r) ((hat4 s r (s.1 19 j)).1 7 r) ((hat4 s r (s.1 19 j)).1 9 r)) r) : pu sc 100 [.ref 31, .int (nI r), .int (nI j)] (mset cs s, kn) (pz none (mset cs (f_take s r j), kn)) := by
  rw [f_take]
  rw [if_neg (show ¬ s.1 18 j = 0 by rw [hk]; decide)]
  rw [if_neg (show ¬ s.1 18 j = 1 by rw [hk]; decide)]
  rw [if_neg (show ¬ s.1 18 j = 3 by rw [hk]; decide)]
  rw [if_pos hk]
  refine w_aload_n rfl rfl ?_
  refine w_getfield rfl (mset_ob hc) rfl ?_
  refine w_iload_n rfl rfl ?_
  refine w_mil (k := 18) (j := j) rfl hc (by decide) rfl ⟨show j < 600 from by omega, by decide⟩ ?_
  rw [hk]
  refine w_tableIn rfl (by decide) rfl rfl ?_
  refine w_aload_n rfl rfl ?_
  refine w_getfield rfl (mset_ob hc) rfl ?_
  refine w_iload_n rfl rfl ?_
  refine w_mil (k := 21) (j := j) rfl hc (by decide) rfl ⟨show j < 600 from by omega, by decide⟩ ?_
  refine w_aload_n rfl rfl ?_
  refine w_getfield rfl (mset_ob hc) rfl ?_
  refine w_iload_n rfl rfl ?_
  refine w_mil (k := 6) (j := r) rfl hc (by decide) rfl ⟨show r < 4 from by omega, by decide⟩ ?_
  refine w_if_icmp_ne rfl rfl (fun c163 => ?_) (fun c163 => ?_)
  · exact w_return rfl rfl ⟨(by first | (simp only [f_take, hk, c163, if_true, if_false, and_true, true_and, and_false, false_and, or_true, true_or, or_false, false_or, not_true_eq_false, not_false_eq_true, ite_self]; done) | (simp only [f_take, hk, c163, if_true, if_false, and_true, true_and, and_false, false_and, or_true, true_or, or_false, false_or, not_true_eq_false, not_false_eq_true, ite_self]; rfl) | rfl), (by first | (simp only [f_take, hk, c163, if_true, if_false, and_true, true_and, and_false, false_and, or_true, true_or, or_false, false_or, not_true_eq_false, not_false_eq_true, ite_self]; done) | (simp only [f_take, hk, c163, if_true, if_false, and_true, true_and, and_false, false_and, or_true, true_or, or_false, false_or, not_true_eq_false, not_false_eq_true, ite_self]; rfl) | rfl)⟩
  · refine w_aload_n rfl rfl ?_
    refine w_iload_n rfl rfl ?_
    refine w_aload_n rfl rfl ?_
    refine w_getfield rfl (mset_ob hc) rfl ?_
    refine w_iload_n rfl rfl ?_
    refine w_mil (k := 19) (j := j) rfl hc (by decide) rfl ⟨show j < 600 from by omega, by decide⟩ ?_
    refine w_virtual rfl rfl (mset_ob hc) ⟨(Nat.le_of_ble_eq_true rfl), rfl, (Nat.le_of_ble_eq_true rfl), (Nat.le_of_ble_eq_true rfl)⟩ rfl (Nat.le_of_ble_eq_true rfl) (c_m_hate hc r hr _ hm h6 hN) ?_
    rintro _ _ ⟨rfl, rfl⟩
    refine ⟨_, rfl, ?_⟩
    refine w_goto rfl rfl ?_
    exact w_return rfl rfl ⟨(by first | (simp only [f_take, hk, (eq_true c163), if_true, if_false, and_true, true_and, and_false, false_and, or_true, true_or, or_false, false_or, not_true_eq_false, not_false_eq_true, ite_self]; done) | (simp only [f_take, hk, (eq_true c163), if_true, if_false, and_true, true_and, and_false, false_and, or_true, true_or, or_false, false_or, not_true_eq_false, not_false_eq_true, ite_self]; rfl) | rfl), (by first | (simp only [f_take, hk, (eq_true c163), if_true, if_false, and_true, true_and, and_false, false_and, or_true, true_or, or_false, false_or, not_true_eq_false, not_false_eq_true, ite_self]; done) | (simp only [f_take, hk, (eq_true c163), if_true, if_false, and_true, true_and, and_false, false_and, or_true, true_or, or_false, false_or, not_true_eq_false, not_false_eq_true, ite_self]; rfl) | rfl)⟩
set_option maxRecDepth 100000 in
set_option maxHeartbeats 4000000 in
theorem c_m_take6 {sc : pm_Sc} {cs : List pm_C} {s : MS} {kn : Nat × Nat} (hc : 72 < cs.length) (r j : Nat) (hr : r < 4) (hj : j < 600) (hk : s.1 18 j = 6) {t : Nat} (ht : t < 4) (hs : s.1 19 j = nI t) (hN : ¬ (kept s r t (s.1 21 j) (s.2 27 j) (s.1 22 j) (s.1 26 j)).1 10 r = 0 → (kept s r t (s.1 21 j) (s.2 27 j) (s.1 22 j) (s.1 26 j)).1 6 r = s.1 21 j → ¬ cntN (kept s r t (s.1 21 j) (s.2 27 j) (s.1 22 j) (s.1 26 j)) r (s.1 21 j) 4 < 3 → NewPre (kept s r t (s.1 21 j) (s.2 27 j) (s.1 22 j) (s.1 26 j)) r) : pu sc 100 [.ref 31, .int (nI r), .int (nI j)] (mset cs s, kn) (pz none (mset cs (f_take s r j), kn)) := by
  rw [f_take]
  rw [if_neg (show ¬ s.1 18 j = 0 by rw [hk]; decide)]
  rw [if_neg (show ¬ s.1 18 j = 1 by rw [hk]; decide)]
  rw [if_neg (show ¬ s.1 18 j = 3 by rw [hk]; decide)]
  rw [if_neg (show ¬ s.1 18 j = 5 by rw [hk]; decide)]
  rw [if_pos hk]
  have hcl : (nI t).toNatClampNeg = t := nI_clamp (by omega)
  refine w_aload_n rfl rfl ?_
  refine w_getfield rfl (mset_ob hc) rfl ?_
  refine w_iload_n rfl rfl ?_
  refine w_mil (k := 18) (j := j) rfl hc (by decide) rfl ⟨show j < 600 from by omega, by decide⟩ ?_
  rw [hk]
  refine w_tableIn rfl (by decide) rfl rfl ?_
  refine w_aload_n rfl rfl ?_
  refine w_iload_n rfl rfl ?_
  refine w_aload_n rfl rfl ?_
  refine w_getfield rfl (mset_ob hc) rfl ?_
  refine w_iload_n rfl rfl ?_
  refine w_mil (k := 19) (j := j) rfl hc (by decide) rfl ⟨show j < 600 from by omega, by decide⟩ ?_
  refine w_aload_n rfl rfl ?_
  refine w_getfield rfl (mset_ob hc) rfl ?_
  refine w_iload_n rfl rfl ?_
  refine w_mil (k := 21) (j := j) rfl hc (by decide) rfl ⟨show j < 600 from by omega, by decide⟩ ?_
  refine w_aload_n rfl rfl ?_
  refine w_getfield rfl (mset_ob hc) rfl ?_
  refine w_iload_n rfl rfl ?_
  refine w_mll (k := 27) (j := j) rfl hc (by decide) rfl ⟨show j < 600 from by omega, by decide⟩ ?_
  refine w_aload_n rfl rfl ?_
  refine w_getfield rfl (mset_ob hc) rfl ?_
  refine w_iload_n rfl rfl ?_
  refine w_mil (k := 22) (j := j) rfl hc (by decide) rfl ⟨show j < 600 from by omega, by decide⟩ ?_
  refine w_aload_n rfl rfl ?_
  refine w_getfield rfl (mset_ob hc) rfl ?_
  refine w_iload_n rfl rfl ?_
  refine w_mil (k := 26) (j := j) rfl hc (by decide) rfl ⟨show j < 600 from by omega, by decide⟩ ?_
  rw [hs]
  refine w_virtual rfl rfl (mset_ob hc) ⟨(Nat.le_of_ble_eq_true rfl), rfl, (Nat.le_of_ble_eq_true rfl), (Nat.le_of_ble_eq_true rfl)⟩ rfl (Nat.le_of_ble_eq_true rfl) (c_m_change hc r t hr ht _ _ _ _ hN) ?_
  rintro _ _ ⟨rfl, rfl⟩
  refine ⟨_, rfl, ?_⟩
  refine w_goto rfl rfl ?_
  exact w_return rfl rfl ⟨(by first | (simp only [f_take, hk, hs, hcl, if_true, if_false, and_true, true_and, and_false, false_and, or_true, true_or, or_false, false_or, not_true_eq_false, not_false_eq_true, ite_self]; done) | (simp only [f_take, hk, hs, hcl, if_true, if_false, and_true, true_and, and_false, false_and, or_true, true_or, or_false, false_or, not_true_eq_false, not_false_eq_true, ite_self]; rfl) | rfl), (by first | (simp only [f_take, hk, hs, hcl, if_true, if_false, and_true, true_and, and_false, false_and, or_true, true_or, or_false, false_or, not_true_eq_false, not_false_eq_true, ite_self]; done) | (simp only [f_take, hk, hs, hcl, if_true, if_false, and_true, true_and, and_false, false_and, or_true, true_or, or_false, false_or, not_true_eq_false, not_false_eq_true, ite_self]; rfl) | rfl)⟩
set_option maxRecDepth 100000 in
set_option maxHeartbeats 4000000 in
theorem c_m_take7 {sc : pm_Sc} {cs : List pm_C} {s : MS} {kn : Nat × Nat} (hc : 72 < cs.length) (r j : Nat) (hr : r < 4) (hj : j < 600) (hk : s.1 18 j = 7) {n m : Nat} (hn : s.1 22 j = nI n) (hn2 : n ≤ 12) (hrow : RowOK (s.2 27 j) n) (hky : KeyOK s) (hm : s.1 17 0 = nI m) (h6 : m ≤ 600) : pu sc 100 [.ref 31, .int (nI r), .int (nI j)] (mset cs s, kn) (pz none (mset cs (f_take s r j), kn)) := by
  rw [f_take]
  rw [if_neg (show ¬ s.1 18 j = 0 by rw [hk]; decide)]
  rw [if_neg (show ¬ s.1 18 j = 1 by rw [hk]; decide)]
  rw [if_neg (show ¬ s.1 18 j = 3 by rw [hk]; decide)]
  rw [if_neg (show ¬ s.1 18 j = 5 by rw [hk]; decide)]
  rw [if_neg (show ¬ s.1 18 j = 6 by rw [hk]; decide)]
  refine w_aload_n rfl rfl ?_
  refine w_getfield rfl (mset_ob hc) rfl ?_
  refine w_iload_n rfl rfl ?_
  refine w_mil (k := 18) (j := j) rfl hc (by decide) rfl ⟨show j < 600 from by omega, by decide⟩ ?_
  rw [hk]
  refine w_tableOut rfl (by decide) rfl ?_
  refine w_aload_n rfl rfl ?_
  refine w_iload_n rfl rfl ?_
  refine w_iload_n rfl rfl ?_
  refine w_virtual rfl rfl (mset_ob hc) ⟨(Nat.le_of_ble_eq_true rfl), rfl, (Nat.le_of_ble_eq_true rfl), (Nat.le_of_ble_eq_true rfl)⟩ rfl (Nat.le_of_ble_eq_true rfl) (c_m_tnew hc r j hr hj hn hn2 hrow hky hm h6) ?_
  rintro _ _ ⟨rfl, rfl⟩
  refine ⟨_, rfl, ?_⟩
  exact w_return rfl rfl ⟨(by first | (simp only [f_take, hk, if_true, if_false, and_true, true_and, and_false, false_and, or_true, true_or, or_false, false_or, not_true_eq_false, not_false_eq_true, ite_self]; done) | (simp only [f_take, hk, if_true, if_false, and_true, true_and, and_false, false_and, or_true, true_or, or_false, false_or, not_true_eq_false, not_false_eq_true, ite_self]; rfl) | rfl), (by first | (simp only [f_take, hk, if_true, if_false, and_true, true_and, and_false, false_and, or_true, true_or, or_false, false_or, not_true_eq_false, not_false_eq_true, ite_self]; done) | (simp only [f_take, hk, if_true, if_false, and_true, true_and, and_false, false_and, or_true, true_or, or_false, false_or, not_true_eq_false, not_false_eq_true, ite_self]; rfl) | rfl)⟩
