-- deps: 32.m1
/-! THE REFERENCE: work, send -/
def wkA (s : MS) (r : Int64) : Nat → (Nat → Int32) × Int32
  | 0 => (fun _ => 0, 0)
  | n + 1 =>
    if s.1 3 (m_at r (nI n)).toNatClampNeg = 0 then (fun b => if b = (s.1 4 (m_at r (nI n)).toNatClampNeg).toNatClampNeg then s.1 5 (m_at r (nI n)).toNatClampNeg else (wkA s r n).1 b, (wkA s r n).1 (s.1 4 (m_at r (nI n)).toNatClampNeg).toNatClampNeg)
    else if s.1 3 (m_at r (nI n)).toNatClampNeg = 1 then (fun b => if b = (s.1 4 (m_at r (nI n)).toNatClampNeg).toNatClampNeg then (wkA s r n).1 (s.1 4 (m_at r (nI n)).toNatClampNeg).toNatClampNeg + s.1 5 (m_at r (nI n)).toNatClampNeg else (wkA s r n).1 b, (wkA s r n).1 (s.1 4 (m_at r (nI n)).toNatClampNeg).toNatClampNeg + s.1 5 (m_at r (nI n)).toNatClampNeg)
    else ((wkA s r n).1, (wkA s r n).1 (s.1 4 (m_at r (nI n)).toNatClampNeg).toNatClampNeg)
def numset (s : MS) (f : Nat → Int32) : MS := (fun a b => if a = 45 then f b else s.1 a b, s.2)
theorem up_num (s : MS) (f : Nat → Int32) (y : Nat) (v : Int32) : up (numset s f) 45 y v = numset s (fun b => if b = y then v else f b) := by
  unfold up numset
  dsimp only
  congr 1
  funext a b
  by_cases h : a = 45
  · by_cases g : b = y
    · simp [h, g]
    · simp [h, g]
  · simp [h]
theorem num_i {s : MS} {f : Nat → Int32} {y : Nat} : (numset s f).1 45 y = f y := rfl
theorem mset_cong {cs : List pm_C} {s s' : MS} (hc : 72 < cs.length) (h0 : ∀ k, k = 0 ∨ k = 1 ∨ k = 2 ∨ k = 17 ∨ k = 29 → s.1 k 0 = s'.1 k 0) (h1 : ∀ a j, 32 ≤ a → a ≤ 72 → j < m_len a → s.1 (m_k a) j = s'.1 (m_k a) j) (h2 : ∀ a j, 32 ≤ a → a ≤ 72 → j < m_len a → s.2 (m_k a) j = s'.2 (m_k a) j) : mset cs s = mset cs s' := by
  refine mset_ext hc (by rw [mset_length]) (fun a g1 g2 => ?_) (fun a g => mset_out g)
  rw [mset_in hc g1 g2]
  congr 1
  unfold mcell
  by_cases e : a = 31
  · rw [if_pos e, if_pos e]
    unfold mobj
    rw [h0 0 (by omega), h0 1 (by omega), h0 2 (by omega), h0 17 (by omega), h0 29 (by omega)]
  · rw [if_neg e, if_neg e]
    by_cases t : m_tag a = 1
    · rw [if_pos t, if_pos t]
      congr 2
      apply List.map_congr_left
      intro j hj
      rw [h2 a j (by omega) g2 (by simpa using hj)]
    · rw [if_neg t, if_neg t]
      congr 2
      apply List.map_congr_left
      intro j hj
      rw [h1 a j (by omega) g2 (by simpa using hj)]
def RowOK (x : Int64) (n : Nat) : Prop := ∀ k, k < n → ∃ q, q < 12 ∧ m_at x (nI k) = nI q
def KeyOK (s : MS) : Prop := ∀ q, q < 12 → ∃ y, y < 4 ∧ s.1 4 q = nI y
def num4 (s : MS) : Nat → MS
  | 0 => s
  | n + 1 => up (num4 s n) 45 n 0
theorem mset_num4 {cs : List pm_C} {s : MS} (hc : 72 < cs.length) : mset cs (num4 s 4) = mset cs (numset s (fun _ => 0)) := by
  have e4 : num4 s 4 = up (up (up (up s 45 0 0) 45 1 0) 45 2 0) 45 3 0 := rfl
  rw [e4]
  refine mset_cong hc (fun k hk => ?_) (fun a j h1 h2 h3 => ?_) (fun a j h1 h2 h3 => rfl)
  · rcases hk with rfl | rfl | rfl | rfl | rfl <;> rfl
  · by_cases e : m_k a = 45
    · have ha : a = 72 := by unfold m_k at e; split at e <;> (try split at e) <;> omega
      subst ha
      have hj : j = 0 ∨ j = 1 ∨ j = 2 ∨ j = 3 := by have : m_len 72 = 4 := by decide
                                                    omega
      rcases hj with rfl | rfl | rfl | rfl <;> rfl
    · rw [up_n (fun z => e z.1), up_n (fun z => e z.1), up_n (fun z => e z.1), up_n (fun z => e z.1)]
      exact (if_neg e).symm
theorem wkA_succ {s : MS} {r : Int64} {n q y : Nat} (hq : m_at r (nI n) = nI q) (hq2 : q < 12) (hy : s.1 4 q = nI y) (hy4 : y < 4) : wkA s r (n + 1) = (if s.1 3 q = 0 then (fun b => if b = y then s.1 5 q else (wkA s r n).1 b, (wkA s r n).1 y) else if s.1 3 q = 1 then (fun b => if b = y then (wkA s r n).1 y + s.1 5 q else (wkA s r n).1 b, (wkA s r n).1 y + s.1 5 q) else ((wkA s r n).1, (wkA s r n).1 y)) := by
  have e1 : (m_at r (nI n)).toNatClampNeg = q := by rw [hq, nI_clamp (by omega)]
  have e2 : (s.1 4 (m_at r (nI n)).toNatClampNeg).toNatClampNeg = y := by rw [e1, hy, nI_clamp (by omega)]
  rw [wkA, e2, e1]
set_option maxRecDepth 100000 in
set_option maxHeartbeats 400000 in
theorem l_m_w0 {sc : pm_Sc} {cs : List pm_C} {kn : Nat × Nat} (hc : 72 < cs.length) {s : MS} (r : Int64) (n : Nat) {Q : (Option Value ⊕ Nat) → pm_H → Prop} (G : ∀ lv, pm_ld lv 0 = some (.ref 31) → pm_ld lv 1 = some (.long r) → pm_ld lv 3 = some (.int (nI n)) → pw sc 80 (23, lv, [], (mset cs (num4 s 4), kn)) Q) : ∀ (d k : Nat) (lv : pm_L), k + d = 4 → pm_ld lv 0 = some (.ref 31) → pm_ld lv 1 = some (.long r) → pm_ld lv 3 = some (.int (nI n)) → pm_ld lv 4 = some (.int (nI k)) → pw sc 80 (3, lv, [], (mset cs (num4 s k), kn)) (Q) := by
  intro d
  induction d with
  | zero =>
    intro k lv hk g0 g1 g3 g4
    obtain rfl : 4 = k := by omega
    refine w_iload rfl g4 ?_
    refine w_iconst (v := 4) rfl (by decide) ?_
    refine w_if_icmp_ge rfl rfl (fun c6 => ?_) (fun c6 => ?_)
    · exact G _ g0 g1 g3
    · exact absurd (nI_le (a := 4) (b := 4) (Nat.le_refl _) (by omega)) c6
  | succ d ih =>
    intro k lv hk g0 g1 g3 g4
    refine w_iload rfl g4 ?_
    refine w_iconst (v := 4) rfl (by decide) ?_
    refine w_if_icmp_ge rfl rfl (fun c6 => ?_) (fun c6 => ?_)
    · exact absurd c6 (nI_ge (a := k) (b := 4) (by omega) (by omega))
    · refine w_aload_n rfl g0 ?_
      refine w_getfield rfl (mset_ob hc) rfl ?_
      refine w_iload rfl g4 ?_
      refine w_iconst (v := 0) rfl (by decide) ?_
      refine w_mis (k := 45) (j := k) rfl hc (by decide) rfl ⟨show k < 4 from by omega, by decide⟩ ?_
      refine w_iincN (j := k) rfl rfl g4 (Nat.le_of_ble_eq_true rfl) ?_
      refine w_goto rfl rfl ?_
      exact ih (k + 1) _ (by omega) (ld_s1 (by decide) g0 (fun _ => rfl)) (ld_s1 (by decide) g1 (fun e => absurd e (by decide))) (ld_s1 (by decide) g3 (fun _ => rfl)) ld_self
set_option maxRecDepth 100000 in
set_option maxHeartbeats 400000 in
theorem l_m_w1 {sc : pm_Sc} {cs : List pm_C} {kn : Nat × Nat} (hc : 72 < cs.length) {s : MS} (r : Int64) (n : Nat) (hn : n < 2 ^ 31) (hr : RowOK r n) (hky : KeyOK s) : ∀ (d k : Nat) (lv : pm_L), k + d = n → pm_ld lv 0 = some (.ref 31) → pm_ld lv 1 = some (.long r) → pm_ld lv 3 = some (.int (nI n)) → pm_ld lv 4 = some (.int (wkA s r k).2) → pm_ld lv 5 = some (.int (nI k)) → pw sc 80 (29, lv, [], (mset cs (numset s (wkA s r k).1), kn)) (pz (some (.int (wkA s r n).2)) (mset cs (numset s (wkA s r n).1), kn)) := by
  intro d
  induction d with
  | zero =>
    intro k lv hk g0 g1 g3 g4 g5
    obtain rfl : n = k := by omega
    refine w_iload rfl g5 ?_
    refine w_iload_n rfl g3 ?_
    refine w_if_icmp_ge rfl rfl (fun c32 => ?_) (fun c32 => ?_)
    · refine w_iload rfl g4 ?_
      exact w_ireturn rfl (by first | exact Or.inl rfl | exact Or.inr ⟨rfl, Or.inl rfl⟩ | exact Or.inr ⟨rfl, Or.inr rfl⟩ | exact Or.inr ⟨rfl, by assumption⟩) ⟨(by first | rfl | (simp only [c32, if_true, if_false, and_true, true_and, and_false, false_and, or_true, true_or, or_false, false_or, not_true_eq_false, not_false_eq_true, ite_self]; done) | (simp only [c32, if_true, if_false, and_true, true_and, and_false, false_and, or_true, true_or, or_false, false_or, not_true_eq_false, not_false_eq_true, ite_self]; rfl)), (by first | rfl | (simp only [c32, if_true, if_false, and_true, true_and, and_false, false_and, or_true, true_or, or_false, false_or, not_true_eq_false, not_false_eq_true, ite_self]; done) | (simp only [c32, if_true, if_false, and_true, true_and, and_false, false_and, or_true, true_or, or_false, false_or, not_true_eq_false, not_false_eq_true, ite_self]; rfl))⟩
    · exact absurd (nI_le (a := n) (b := n) (Nat.le_refl _) (by omega)) c32
  | succ d ih =>
    intro k lv hk g0 g1 g3 g4 g5
    obtain ⟨q, hq, eq⟩ := hr k (by omega)
    obtain ⟨y, hy, ey⟩   := hky q hq
    have W := wkA_succ (s := s) eq hq ey hy
    refine w_iload rfl g5 ?_
    refine w_iload_n rfl g3 ?_
    refine w_if_icmp_ge rfl rfl (fun c32 => ?_) (fun c32 => ?_)
    · exact absurd c32 (nI_ge (a := k) (b := n) (by omega) (by omega))
    · refine w_lload_n rfl g1 ?_
      refine w_iload rfl g5 ?_
      refine w_static rfl (by decide) rfl ⟨(Nat.le_of_ble_eq_true rfl), (Nat.le_of_ble_eq_true rfl), (Nat.le_of_ble_eq_true rfl)⟩ rfl (Nat.le_of_ble_eq_true rfl) (c_m_at r (nI k)) ?_
      rintro _ _ ⟨rfl, rfl⟩
      refine ⟨_, rfl, ?_⟩
      rw [eq]
      refine w_istore rfl (Nat.le_of_ble_eq_true rfl) ?_
      refine w_aload_n rfl (ld_s1 (by decide) g0 (fun _ => rfl)) ?_
      refine w_getfield rfl (mset_ob hc) rfl ?_
      refine w_aload_n rfl (ld_s1 (by decide) g0 (fun _ => rfl)) ?_
      refine w_getfield rfl (mset_ob hc) rfl ?_
      refine w_iload rfl ld_self ?_
      refine w_mil (k := 4) (j := q) rfl hc (by decide) rfl ⟨show q < 12 from by omega, by decide⟩ ?_
      refine w_mil (k := 45) (j := y) rfl hc (by decide) ey ⟨show y < 4 from by omega, by decide⟩ ?_
      refine w_istore rfl (Nat.le_of_ble_eq_true rfl) ?_
      refine w_aload_n rfl (ld_s1 (by decide) (ld_s1 (by decide) g0 (fun _ => rfl)) (fun _ => rfl)) ?_
      refine w_getfield rfl (mset_ob hc) rfl ?_
      refine w_iload rfl (ld_s1 (by decide) ld_self (fun _ => rfl)) ?_
      refine w_mil (k := 3) (j := q) rfl hc (by decide) rfl ⟨show q < 12 from by omega, by decide⟩ ?_
      refine w_ifCond_ne rfl rfl (fun c64 => ?_) (fun c64 => ?_)
      · refine w_aload_n rfl (ld_s1 (by decide) (ld_s1 (by decide) g0 (fun _ => rfl)) (fun _ => rfl)) ?_
        refine w_getfield rfl (mset_ob hc) rfl ?_
        refine w_iload rfl (ld_s1 (by decide) ld_self (fun _ => rfl)) ?_
        refine w_mil (k := 3) (j := q) rfl hc (by decide) rfl ⟨show q < 12 from by omega, by decide⟩ ?_
        refine w_iconst (v := 1) rfl (by decide) ?_
        refine w_if_icmp_ne rfl rfl (fun c94 => ?_) (fun c94 => ?_)
        · refine w_aload_n rfl (ld_s1 (by decide) (ld_s1 (by decide) g0 (fun _ => rfl)) (fun _ => rfl)) ?_
          refine w_getfield rfl (mset_ob hc) rfl ?_
          refine w_iload rfl (ld_s1 (by decide) ld_self (fun _ => rfl)) ?_
          refine w_mil (k := 3) (j := q) rfl hc (by decide) rfl ⟨show q < 12 from by omega, by decide⟩ ?_
          refine w_ifCond_ne rfl rfl (fun c126 => ?_) (fun c126 => ?_)
          · refine w_aload_n rfl (ld_s1 (by decide) (ld_s1 (by decide) g0 (fun _ => rfl)) (fun _ => rfl)) ?_
            refine w_getfield rfl (mset_ob hc) rfl ?_
            refine w_aload_n rfl (ld_s1 (by decide) (ld_s1 (by decide) g0 (fun _ => rfl)) (fun _ => rfl)) ?_
            refine w_getfield rfl (mset_ob hc) rfl ?_
            refine w_iload rfl (ld_s1 (by decide) ld_self (fun _ => rfl)) ?_
            refine w_mil (k := 4) (j := q) rfl hc (by decide) rfl ⟨show q < 12 from by omega, by decide⟩ ?_
            refine w_mil (k := 45) (j := y) rfl hc (by decide) ey ⟨show y < 4 from by omega, by decide⟩ ?_
            refine w_istore rfl (Nat.le_of_ble_eq_true rfl) ?_
            refine w_iincN (j := k) rfl rfl (ld_s1 (by decide) (ld_s1 (by decide) (ld_s1 (by decide) g5 (fun _ => rfl)) (fun _ => rfl)) (fun _ => rfl)) (Nat.le_of_ble_eq_true rfl) ?_
            refine w_goto rfl rfl ?_
            rw [if_neg (show ¬ s.1 3 q = 0 from c64), if_neg (show ¬ s.1 3 q = 1 from c94)] at W
            have ih2 := ih (k + 1)
            rw [W] at ih2
            exact ih2 _ (by omega) (ld_s1 (by decide) (ld_s1 (by decide) (ld_s1 (by decide) (ld_s1 (by decide) g0 (fun _ => rfl)) (fun _ => rfl)) (fun _ => rfl)) (fun _ => rfl)) (ld_s1 (by decide) (ld_s1 (by decide) (ld_s1 (by decide) (ld_s1 (by decide) g1 (fun e => absurd e (by decide))) (fun e => absurd e (by decide))) (fun e => absurd e (by decide))) (fun e => absurd e (by decide))) (ld_s1 (by decide) (ld_s1 (by decide) (ld_s1 (by decide) (ld_s1 (by decide) g3 (fun _ => rfl)) (fun _ => rfl)) (fun _ => rfl)) (fun _ => rfl)) (ld_s1 (by decide) ld_self (fun _ => rfl)) ld_self
          · exact absurd c126 c64
        · refine w_aload_n rfl (ld_s1 (by decide) (ld_s1 (by decide) g0 (fun _ => rfl)) (fun _ => rfl)) ?_
          refine w_getfield rfl (mset_ob hc) rfl ?_
          refine w_aload_n rfl (ld_s1 (by decide) (ld_s1 (by decide) g0 (fun _ => rfl)) (fun _ => rfl)) ?_
          refine w_getfield rfl (mset_ob hc) rfl ?_
          refine w_iload rfl (ld_s1 (by decide) ld_self (fun _ => rfl)) ?_
          refine w_mil (k := 4) (j := q) rfl hc (by decide) rfl ⟨show q < 12 from by omega, by decide⟩ ?_
          refine w_iload rfl ld_self ?_
          refine w_aload_n rfl (ld_s1 (by decide) (ld_s1 (by decide) g0 (fun _ => rfl)) (fun _ => rfl)) ?_
          refine w_getfield rfl (mset_ob hc) rfl ?_
          refine w_iload rfl (ld_s1 (by decide) ld_self (fun _ => rfl)) ?_
          refine w_mil (k := 5) (j := q) rfl hc (by decide) rfl ⟨show q < 12 from by omega, by decide⟩ ?_
          refine w_iadd rfl ?_
          refine w_mis (k := 45) (j := y) rfl hc (by decide) ey ⟨show y < 4 from by omega, by decide⟩ ?_
          rw [up_num]
          refine w_aload_n rfl (ld_s1 (by decide) (ld_s1 (by decide) g0 (fun _ => rfl)) (fun _ => rfl)) ?_
          refine w_getfield rfl (mset_ob hc) rfl ?_
          refine w_iload rfl (ld_s1 (by decide) ld_self (fun _ => rfl)) ?_
          refine w_mil (k := 3) (j := q) rfl hc (by decide) rfl ⟨show q < 12 from by omega, by decide⟩ ?_
          refine w_ifCond_ne rfl rfl (fun c126 => ?_) (fun c126 => ?_)
          · refine w_aload_n rfl (ld_s1 (by decide) (ld_s1 (by decide) g0 (fun _ => rfl)) (fun _ => rfl)) ?_
            refine w_getfield rfl (mset_ob hc) rfl ?_
            refine w_aload_n rfl (ld_s1 (by decide) (ld_s1 (by decide) g0 (fun _ => rfl)) (fun _ => rfl)) ?_
            refine w_getfield rfl (mset_ob hc) rfl ?_
            refine w_iload rfl (ld_s1 (by decide) ld_self (fun _ => rfl)) ?_
            refine w_mil (k := 4) (j := q) rfl hc (by decide) rfl ⟨show q < 12 from by omega, by decide⟩ ?_
            refine w_mil (k := 45) (j := y) rfl hc (by decide) ey ⟨show y < 4 from by omega, by decide⟩ ?_
            simp only [num_i, if_true]
            refine w_istore rfl (Nat.le_of_ble_eq_true rfl) ?_
            refine w_iincN (j := k) rfl rfl (ld_s1 (by decide) (ld_s1 (by decide) (ld_s1 (by decide) g5 (fun _ => rfl)) (fun _ => rfl)) (fun _ => rfl)) (Nat.le_of_ble_eq_true rfl) ?_
            refine w_goto rfl rfl ?_
            rw [if_neg (show ¬ s.1 3 q = 0 from c64), if_pos (show s.1 3 q = 1 from c94)] at W
            have ih2 := ih (k + 1)
            rw [W] at ih2
            exact ih2 _ (by omega) (ld_s1 (by decide) (ld_s1 (by decide) (ld_s1 (by decide) (ld_s1 (by decide) g0 (fun _ => rfl)) (fun _ => rfl)) (fun _ => rfl)) (fun _ => rfl)) (ld_s1 (by decide) (ld_s1 (by decide) (ld_s1 (by decide) (ld_s1 (by decide) g1 (fun e => absurd e (by decide))) (fun e => absurd e (by decide))) (fun e => absurd e (by decide))) (fun e => absurd e (by decide))) (ld_s1 (by decide) (ld_s1 (by decide) (ld_s1 (by decide) (ld_s1 (by decide) g3 (fun _ => rfl)) (fun _ => rfl)) (fun _ => rfl)) (fun _ => rfl)) (ld_s1 (by decide) ld_self (fun _ => rfl)) ld_self
          · exact absurd c126 c64
      · refine w_aload_n rfl (ld_s1 (by decide) (ld_s1 (by decide) g0 (fun _ => rfl)) (fun _ => rfl)) ?_
        refine w_getfield rfl (mset_ob hc) rfl ?_
        refine w_aload_n rfl (ld_s1 (by decide) (ld_s1 (by decide) g0 (fun _ => rfl)) (fun _ => rfl)) ?_
        refine w_getfield rfl (mset_ob hc) rfl ?_
        refine w_iload rfl (ld_s1 (by decide) ld_self (fun _ => rfl)) ?_
        refine w_mil (k := 4) (j := q) rfl hc (by decide) rfl ⟨show q < 12 from by omega, by decide⟩ ?_
        refine w_aload_n rfl (ld_s1 (by decide) (ld_s1 (by decide) g0 (fun _ => rfl)) (fun _ => rfl)) ?_
        refine w_getfield rfl (mset_ob hc) rfl ?_
        refine w_iload rfl (ld_s1 (by decide) ld_self (fun _ => rfl)) ?_
        refine w_mil (k := 5) (j := q) rfl hc (by decide) rfl ⟨show q < 12 from by omega, by decide⟩ ?_
        refine w_mis (k := 45) (j := y) rfl hc (by decide) ey ⟨show y < 4 from by omega, by decide⟩ ?_
        rw [up_num]
        refine w_aload_n rfl (ld_s1 (by decide) (ld_s1 (by decide) g0 (fun _ => rfl)) (fun _ => rfl)) ?_
        refine w_getfield rfl (mset_ob hc) rfl ?_
        refine w_iload rfl (ld_s1 (by decide) ld_self (fun _ => rfl)) ?_
        refine w_mil (k := 3) (j := q) rfl hc (by decide) rfl ⟨show q < 12 from by omega, by decide⟩ ?_
        refine w_iconst (v := 1) rfl (by decide) ?_
        refine w_if_icmp_ne rfl rfl (fun c94 => ?_) (fun c94 => ?_)
        · refine w_aload_n rfl (ld_s1 (by decide) (ld_s1 (by decide) g0 (fun _ => rfl)) (fun _ => rfl)) ?_
          refine w_getfield rfl (mset_ob hc) rfl ?_
          refine w_iload rfl (ld_s1 (by decide) ld_self (fun _ => rfl)) ?_
          refine w_mil (k := 3) (j := q) rfl hc (by decide) rfl ⟨show q < 12 from by omega, by decide⟩ ?_
          refine w_ifCond_ne rfl rfl (fun c126 => ?_) (fun c126 => ?_)
          · exact absurd c64 c126
          · refine w_iload rfl ld_self ?_
            refine w_goto rfl rfl ?_
            refine w_istore rfl (Nat.le_of_ble_eq_true rfl) ?_
            refine w_iincN (j := k) rfl rfl (ld_s1 (by decide) (ld_s1 (by decide) (ld_s1 (by decide) g5 (fun _ => rfl)) (fun _ => rfl)) (fun _ => rfl)) (Nat.le_of_ble_eq_true rfl) ?_
            refine w_goto rfl rfl ?_
            rw [if_pos (show s.1 3 q = 0 from c64)] at W
            have ih2 := ih (k + 1)
            rw [W] at ih2
            exact ih2 _ (by omega) (ld_s1 (by decide) (ld_s1 (by decide) (ld_s1 (by decide) (ld_s1 (by decide) g0 (fun _ => rfl)) (fun _ => rfl)) (fun _ => rfl)) (fun _ => rfl)) (ld_s1 (by decide) (ld_s1 (by decide) (ld_s1 (by decide) (ld_s1 (by decide) g1 (fun e => absurd e (by decide))) (fun e => absurd e (by decide))) (fun e => absurd e (by decide))) (fun e => absurd e (by decide))) (ld_s1 (by decide) (ld_s1 (by decide) (ld_s1 (by decide) (ld_s1 (by decide) g3 (fun _ => rfl)) (fun _ => rfl)) (fun _ => rfl)) (fun _ => rfl)) (ld_s1 (by decide) ld_self (fun _ => rfl)) ld_self
        · exact absurd (c64.symm.trans c94) (by decide)
set_option maxRecDepth 100000 in
set_option maxHeartbeats 400000 in
theorem c_m_work {sc : pm_Sc} {cs : List pm_C} {s : MS} {kn : Nat × Nat} (hc : 72 < cs.length) (r : Int64) (n : Nat) (hn : n < 2 ^ 31) (hr : RowOK r n) (hky : KeyOK s) : pu sc 80 [.ref 31, .long r, .int (nI n)] (mset cs s, kn) (pz (some (.int (wkA s r n).2)) (mset cs (numset s (wkA s r n).1), kn)) := by
  refine w_iconst (v := 0) rfl (by decide) ?_
  refine w_istore rfl (Nat.le_of_ble_eq_true rfl) ?_
  refine l_m_w0 hc r n (fun lv h0 h1 h3 => ?_) 4 0 _ (by omega) rfl rfl rfl rfl
  rw [mset_num4 hc]
  refine w_iconst (v := 0) rfl (by decide) ?_
  refine w_istore rfl (Nat.le_of_ble_eq_true rfl) ?_
  refine w_iconst (v := 0) rfl (by decide) ?_
  refine w_istore rfl (Nat.le_of_ble_eq_true rfl) ?_
  exact l_m_w1 hc r n hn hr hky n 0 _ (by omega) (ld_s1 (by decide) (ld_s1 (by decide) h0 (fun _ => rfl)) (fun _ => rfl)) (ld_s1 (by decide) (ld_s1 (by decide) h1 (fun e => absurd e (by decide))) (fun e => absurd e (by decide))) (ld_s1 (by decide) (ld_s1 (by decide) h3 (fun _ => rfl)) (fun _ => rfl)) (ld_s1 (by decide) ld_self (fun _ => rfl)) ld_self
def mN (s : MS) : Nat := (s.1 17 0).toNatClampNeg
def put (s : MS) (m : Nat) (k fr to v q p d : Int32) : MS := up (up (up (up (up (up (up (up s 18 m k) 19 m fr) 20 m to) 21 m v) 23 m q) 22 m p) 24 m d) 17 0 (s.1 17 0 + 1)
def f_send (s : MS) (k fr to v q p d : Int32) : MS := if s.1 17 0 = 600 then s else put s (mN s) k fr to v q p d
def f_row (s : MS) (k fr to v : Int32) (x : Int64) (n f : Int32) : MS := if s.1 17 0 = 600 then s else up (ul (put s (mN s) k fr to v (-1) n 0) 27 (mN s) x) 26 (mN s) f
def f_reply (s : MS) (r p : Nat) : MS := if s.1 17 0 = 600 then s else up (numset (put s (mN s) 2 (nI r) 4 (s.1 6 r) (m_at (s.2 8 r) (nI (p - 1))) (nI p) (digN (s.2 8 r) p)) (wkA s (s.2 8 r) p).1) 25 (mN s) (wkA s (s.2 8 r) p).2
def f_all (s : MS) (k fr v q p d : Int32) : Nat → MS
  | 0 => s
  | n + 1 => if nI n = fr then f_all s k fr v q p d n else f_send (f_all s k fr v q p d n) k fr (nI n) v q p d
def f_order (s : MS) (r p : Nat) : MS := f_all s 1 (nI r) (s.1 6 r) (m_at (s.2 8 r) (nI (p - 1))) (nI p) (digN (s.2 8 r) p) 4
def f_append (s : MS) (r : Nat) (q : Int32) : MS := up (up (ul s 8 r (m_with (s.2 8 r) (s.1 7 r) q)) 7 r (s.1 7 r + 1)) 11 r (s.1 11 r &&& ((1 <<< (q &&& 31)) ^^^ (-1)))
theorem mN_eq {s : MS} {m : Nat} (hm : s.1 17 0 = nI m) (h6 : m ≤ 600) : mN s = m := by unfold mN; rw [hm, nI_clamp (by omega)]
theorem not600 {s : MS} {m : Nat} (hm : s.1 17 0 = nI m) (h6 : m < 600) : ¬ s.1 17 0 = 600 := by
  rw [hm]; exact fun z => absurd ((nI_eq (b := 600) (by omega) (by omega)).mp z) (by omega)
theorem wkA_cong {s s' : MS} (r : Int64) (h : ∀ k j, k = 3 ∨ k = 4 ∨ k = 5 → s'.1 k j = s.1 k j) : ∀ n, wkA s' r n = wkA s r n := by
  intro n
  induction n with
  | zero => rfl
  | succ n ih => rw [wkA, wkA, ih]; simp only [h _ _ (Or.inl rfl), h _ _ (Or.inr (Or.inl rfl)), h _ _ (Or.inr (Or.inr rfl))]
set_option maxRecDepth 100000 in
set_option maxHeartbeats 400000 in
theorem c_m_send0 {sc : pm_Sc} {cs : List pm_C} {s : MS} {kn : Nat × Nat} (hc : 72 < cs.length) (k fr to v q p d : Int32) (h6 : s.1 17 0 = 600) : pu sc 81 [.ref 31, .int k, .int fr, .int to, .int v, .int q, .int p, .int d] (mset cs s, kn) (pz (some (.int (-1))) (mset cs s, kn)) := by
  refine w_aload_n rfl rfl ?_
  refine w_getfield rfl (mset_ob hc) rfl ?_
  refine w_sipush (v := 600) rfl (by decide) ?_
  refine w_if_icmp_ne rfl rfl (fun c7 => ?_) (fun c7 => ?_)
  · exact absurd h6 c7
  · refine w_iconst (v := (-1)) rfl (by decide) ?_
    exact w_ireturn rfl (by first | exact Or.inl rfl | exact Or.inr ⟨rfl, Or.inl rfl⟩ | exact Or.inr ⟨rfl, Or.inr rfl⟩ | exact Or.inr ⟨rfl, by assumption⟩) ⟨(by first | rfl | (simp only [(eq_true c7), if_true, if_false, and_true, true_and, and_false, false_and, or_true, true_or, or_false, false_or, not_true_eq_false, not_false_eq_true, ite_self]; done) | (simp only [(eq_true c7), if_true, if_false, and_true, true_and, and_false, false_and, or_true, true_or, or_false, false_or, not_true_eq_false, not_false_eq_true, ite_self]; rfl)), (by first | rfl | (simp only [(eq_true c7), if_true, if_false, and_true, true_and, and_false, false_and, or_true, true_or, or_false, false_or, not_true_eq_false, not_false_eq_true, ite_self]; done) | (simp only [(eq_true c7), if_true, if_false, and_true, true_and, and_false, false_and, or_true, true_or, or_false, false_or, not_true_eq_false, not_false_eq_true, ite_self]; rfl))⟩
set_option maxRecDepth 100000 in
set_option maxHeartbeats 400000 in
theorem c_m_send1 {sc : pm_Sc} {cs : List pm_C} {s : MS} {kn : Nat × Nat} (hc : 72 < cs.length) (k fr to v q p d : Int32) {m : Nat} (hm : s.1 17 0 = nI m) (h6 : m < 600) : pu sc 81 [.ref 31, .int k, .int fr, .int to, .int v, .int q, .int p, .int d] (mset cs s, kn) (pz (some (.int (nI m))) (mset cs (put s m k fr to v q p d), kn)) := by
  have hne := not600 hm h6
  refine w_aload_n rfl rfl ?_
  refine w_getfield rfl (mset_ob hc) rfl ?_
  refine w_sipush (v := 600) rfl (by decide) ?_
  refine w_if_icmp_ne rfl rfl (fun c7 => ?_) (fun c7 => ?_)
  · refine w_aload_n rfl rfl ?_
    refine w_getfield rfl (mset_ob hc) rfl ?_
    rw [hm]
    refine w_istore rfl (Nat.le_of_ble_eq_true rfl) ?_
    refine w_aload_n rfl rfl ?_
    refine w_getfield rfl (mset_ob hc) rfl ?_
    refine w_iload rfl rfl ?_
    refine w_iload_n rfl rfl ?_
    refine w_mis (k := 18) (j := m) rfl hc (by decide) rfl ⟨show m < 600 from by omega, by decide⟩ ?_
    refine w_aload_n rfl rfl ?_
    refine w_getfield rfl (mset_ob hc) rfl ?_
    refine w_iload rfl rfl ?_
    refine w_iload_n rfl rfl ?_
    refine w_mis (k := 19) (j := m) rfl hc (by decide) rfl ⟨show m < 600 from by omega, by decide⟩ ?_
    refine w_aload_n rfl rfl ?_
    refine w_getfield rfl (mset_ob hc) rfl ?_
    refine w_iload rfl rfl ?_
    refine w_iload_n rfl rfl ?_
    refine w_mis (k := 20) (j := m) rfl hc (by decide) rfl ⟨show m < 600 from by omega, by decide⟩ ?_
    refine w_aload_n rfl rfl ?_
    refine w_getfield rfl (mset_ob hc) rfl ?_
    refine w_iload rfl rfl ?_
    refine w_iload rfl rfl ?_
    refine w_mis (k := 21) (j := m) rfl hc (by decide) rfl ⟨show m < 600 from by omega, by decide⟩ ?_
    refine w_aload_n rfl rfl ?_
    refine w_getfield rfl (mset_ob hc) rfl ?_
    refine w_iload rfl rfl ?_
    refine w_iload rfl rfl ?_
    refine w_mis (k := 23) (j := m) rfl hc (by decide) rfl ⟨show m < 600 from by omega, by decide⟩ ?_
    refine w_aload_n rfl rfl ?_
    refine w_getfield rfl (mset_ob hc) rfl ?_
    refine w_iload rfl rfl ?_
    refine w_iload rfl rfl ?_
    refine w_mis (k := 22) (j := m) rfl hc (by decide) rfl ⟨show m < 600 from by omega, by decide⟩ ?_
    refine w_aload_n rfl rfl ?_
    refine w_getfield rfl (mset_ob hc) rfl ?_
    refine w_iload rfl rfl ?_
    refine w_iload rfl rfl ?_
    refine w_mis (k := 24) (j := m) rfl hc (by decide) rfl ⟨show m < 600 from by omega, by decide⟩ ?_
    refine w_aload_n rfl rfl ?_
    refine w_dup rfl rfl ?_
    refine w_getfield rfl (mset_ob hc) rfl ?_
    refine w_iconst (v := 1) rfl (by decide) ?_
    refine w_iadd rfl ?_
    refine w_mps rfl hc (by decide) rfl ?_
    refine w_iload rfl rfl ?_
    exact w_ireturn rfl (by first | exact Or.inl rfl | exact Or.inr ⟨rfl, Or.inl rfl⟩ | exact Or.inr ⟨rfl, Or.inr rfl⟩ | exact Or.inr ⟨rfl, by assumption⟩) ⟨(by first | rfl | (simp only [c7, if_true, if_false, and_true, true_and, and_false, false_and, or_true, true_or, or_false, false_or, not_true_eq_false, not_false_eq_true, ite_self]; done) | (simp only [c7, if_true, if_false, and_true, true_and, and_false, false_and, or_true, true_or, or_false, false_or, not_true_eq_false, not_false_eq_true, ite_self]; rfl)), (by first | rfl | (simp only [c7, if_true, if_false, and_true, true_and, and_false, false_and, or_true, true_or, or_false, false_or, not_true_eq_false, not_false_eq_true, ite_self]; done) | (simp only [c7, if_true, if_false, and_true, true_and, and_false, false_and, or_true, true_or, or_false, false_or, not_true_eq_false, not_false_eq_true, ite_self]; rfl))⟩
  · exact absurd c7 hne
theorem c_m_send {sc : pm_Sc} {cs : List pm_C} {s : MS} {kn : Nat × Nat} (hc : 72 < cs.length) (k fr to v q p d : Int32) {m : Nat} (hm : s.1 17 0 = nI m) (h6 : m ≤ 600) : pu sc 81 [.ref 31, .int k, .int fr, .int to, .int v, .int q, .int p, .int d] (mset cs s, kn) (pz (some (.int (if m = 600 then -1 else nI m))) (mset cs (f_send s k fr to v q p d), kn)) := by
  by_cases e : m = 600
  · subst e
    rw [if_pos rfl, f_send, if_pos (by rw [hm]; rfl)]
    exact c_m_send0 hc k fr to v q p d (by rw [hm]; rfl)
  · rw [if_neg e, f_send, if_neg (not600 hm (by omega)), mN_eq hm h6]
    exact c_m_send1 hc k fr to v q p d hm (by omega)
theorem mN_put {s : MS} {m : Nat} (hm : s.1 17 0 = nI m) (m' : Nat) (k fr to v q p d : Int32) : (put s m' k fr to v q p d).1 17 0 = nI (m + 1) := by
  show s.1 17 0 + 1 = _
  rw [hm, nI_succ]
theorem f_send_m {s : MS} {m : Nat} (hm : s.1 17 0 = nI m) (h6 : m ≤ 600) (k fr to v q p d : Int32) : ∃ m', m' ≤ 600 ∧ (f_send s k fr to v q p d).1 17 0 = nI m' := by
  unfold f_send
  by_cases e : m = 600
  · subst e; rw [if_pos (by rw [hm]; rfl)]; exact ⟨600, by omega, hm⟩
  · rw [if_neg (not600 hm (by omega))]; exact ⟨m + 1, by omega, mN_put hm _ _ _ _ _ _ _ _⟩
theorem f_all_m {s : MS} {m : Nat} (hm : s.1 17 0 = nI m) (h6 : m ≤ 600) (k fr v q p d : Int32) : ∀ n, ∃ m', m' ≤ 600 ∧ (f_all s k fr v q p d n).1 17 0 = nI m' := by
  intro n
  induction n with
  | zero => exact ⟨m, h6, hm⟩
  | succ n ih =>
    rw [f_all]
    by_cases e : nI n = fr
    · rw [if_pos e]; exact ih
    · rw [if_neg e]
      obtain ⟨m', h1, h2⟩ := ih
      exact f_send_m h2 h1 _ _ _ _ _ _ _
set_option maxRecDepth 100000 in
set_option maxHeartbeats 400000 in
theorem l_m_all {sc : pm_Sc} {cs : List pm_C} {kn : Nat × Nat} (hc : 72 < cs.length) {s : MS} (kd fr v q p d' : Int32) {m : Nat} (hm : s.1 17 0 = nI m) (h6 : m ≤ 600) : ∀ (d k : Nat) (lv : pm_L), k + d = 4 → pm_ld lv 0 = some (.ref 31) → pm_ld lv 1 = some (.int kd) → pm_ld lv 2 = some (.int fr) → pm_ld lv 3 = some (.int v) → pm_ld lv 4 = some (.int q) → pm_ld lv 5 = some (.int p) → pm_ld lv 6 = some (.int d') → pm_ld lv 7 = some (.int (nI k)) → pw sc 82 (3, lv, [], (mset cs (f_all s kd fr v q p d' k), kn)) (pz none (mset cs (f_all s kd fr v q p d' 4), kn)) := by
  intro d
  induction d with
  | zero =>
    intro k lv hk g0 g1 g2 g3 g4 g5 g6 g7
    obtain rfl : 4 = k := by omega
    refine w_iload rfl g7 ?_
    refine w_iconst (v := 4) rfl (by decide) ?_
    refine w_if_icmp_ge rfl rfl (fun c6 => ?_) (fun c6 => ?_)
    · exact w_return rfl rfl ⟨(by first | rfl | (simp only [c6, if_true, if_false, and_true, true_and, and_false, false_and, or_true, true_or, or_false, false_or, not_true_eq_false, not_false_eq_true, ite_self]; done) | (simp only [c6, if_true, if_false, and_true, true_and, and_false, false_and, or_true, true_or, or_false, false_or, not_true_eq_false, not_false_eq_true, ite_self]; rfl)), (by first | rfl | (simp only [c6, if_true, if_false, and_true, true_and, and_false, false_and, or_true, true_or, or_false, false_or, not_true_eq_false, not_false_eq_true, ite_self]; done) | (simp only [c6, if_true, if_false, and_true, true_and, and_false, false_and, or_true, true_or, or_false, false_or, not_true_eq_false, not_false_eq_true, ite_self]; rfl))⟩
    · exact absurd (nI_le (a := 4) (b := 4) (Nat.le_refl _) (by omega)) c6
  | succ d ih =>
    intro k lv hk g0 g1 g2 g3 g4 g5 g6 g7
    obtain ⟨m', h6', hm'⟩ := f_all_m hm h6 kd fr v q p d' k
    refine w_iload rfl g7 ?_
    refine w_iconst (v := 4) rfl (by decide) ?_
    refine w_if_icmp_ge rfl rfl (fun c6 => ?_) (fun c6 => ?_)
    · exact absurd c6 (nI_ge (a := k) (b := 4) (by omega) (by omega))
    · refine w_iload rfl g7 ?_
      refine w_iload_n rfl g2 ?_
      refine w_if_icmp_ne rfl rfl (fun c12 => ?_) (fun c12 => ?_)
      · refine w_aload_n rfl g0 ?_
        refine w_iload_n rfl g1 ?_
        refine w_iload_n rfl g2 ?_
        refine w_iload rfl g7 ?_
        refine w_iload_n rfl g3 ?_
        refine w_iload rfl g4 ?_
        refine w_iload rfl g5 ?_
        refine w_iload rfl g6 ?_
        refine w_virtual rfl rfl (mset_ob hc) ⟨(Nat.le_of_ble_eq_true rfl), rfl, (Nat.le_of_ble_eq_true rfl), (Nat.le_of_ble_eq_true rfl)⟩ rfl (Nat.le_of_ble_eq_true rfl) (c_m_send hc kd fr (nI k) v q p d' hm' h6') ?_
        rintro _ _ ⟨rfl, rfl⟩
        refine ⟨_, rfl, ?_⟩
        refine w_istore rfl (Nat.le_of_ble_eq_true rfl) ?_
        refine w_iincN (j := k) rfl rfl (ld_s1 (by decide) g7 (fun _ => rfl)) (Nat.le_of_ble_eq_true rfl) ?_
        refine w_goto rfl rfl ?_
        have e : f_all s kd fr v q p d' (k + 1) = (if nI k = fr then f_all s kd fr v q p d' k else f_send (f_all s kd fr v q p d' k) kd fr (nI k) v q p d') := rfl
        rw [if_neg c12] at e
        have ih2 := ih (k + 1)
        rw [e] at ih2
        exact ih2 _ (by omega) (ld_s1 (by decide) (ld_s1 (by decide) g0 (fun _ => rfl)) (fun _ => rfl)) (ld_s1 (by decide) (ld_s1 (by decide) g1 (fun _ => rfl)) (fun _ => rfl)) (ld_s1 (by decide) (ld_s1 (by decide) g2 (fun _ => rfl)) (fun _ => rfl)) (ld_s1 (by decide) (ld_s1 (by decide) g3 (fun _ => rfl)) (fun _ => rfl)) (ld_s1 (by decide) (ld_s1 (by decide) g4 (fun _ => rfl)) (fun _ => rfl)) (ld_s1 (by decide) (ld_s1 (by decide) g5 (fun _ => rfl)) (fun _ => rfl)) (ld_s1 (by decide) (ld_s1 (by decide) g6 (fun _ => rfl)) (fun _ => rfl)) ld_self
      · refine w_iconst (v := (-1)) rfl (by decide) ?_
        refine w_goto rfl rfl ?_
        refine w_istore rfl (Nat.le_of_ble_eq_true rfl) ?_
        refine w_iincN (j := k) rfl rfl (ld_s1 (by decide) g7 (fun _ => rfl)) (Nat.le_of_ble_eq_true rfl) ?_
        refine w_goto rfl rfl ?_
        have e : f_all s kd fr v q p d' (k + 1) = (if nI k = fr then f_all s kd fr v q p d' k else f_send (f_all s kd fr v q p d' k) kd fr (nI k) v q p d') := rfl
        rw [if_pos c12] at e
        have ih2 := ih (k + 1)
        rw [e] at ih2
        exact ih2 _ (by omega) (ld_s1 (by decide) (ld_s1 (by decide) g0 (fun _ => rfl)) (fun _ => rfl)) (ld_s1 (by decide) (ld_s1 (by decide) g1 (fun _ => rfl)) (fun _ => rfl)) (ld_s1 (by decide) (ld_s1 (by decide) g2 (fun _ => rfl)) (fun _ => rfl)) (ld_s1 (by decide) (ld_s1 (by decide) g3 (fun _ => rfl)) (fun _ => rfl)) (ld_s1 (by decide) (ld_s1 (by decide) g4 (fun _ => rfl)) (fun _ => rfl)) (ld_s1 (by decide) (ld_s1 (by decide) g5 (fun _ => rfl)) (fun _ => rfl)) (ld_s1 (by decide) (ld_s1 (by decide) g6 (fun _ => rfl)) (fun _ => rfl)) ld_self
set_option maxRecDepth 100000 in
set_option maxHeartbeats 400000 in
theorem c_m_all {sc : pm_Sc} {cs : List pm_C} {s : MS} {kn : Nat × Nat} (hc : 72 < cs.length) (kd fr v q p d : Int32) {m : Nat} (hm : s.1 17 0 = nI m) (h6 : m ≤ 600) : pu sc 82 [.ref 31, .int kd, .int fr, .int v, .int q, .int p, .int d] (mset cs s, kn) (pz none (mset cs (f_all s kd fr v q p d 4), kn)) := by
  refine w_iconst (v := 0) rfl (by decide) ?_
  refine w_istore rfl (Nat.le_of_ble_eq_true rfl) ?_
  exact l_m_all hc kd fr v q p d hm h6 4 0 _ (by omega) rfl rfl rfl rfl rfl rfl rfl rfl
set_option maxRecDepth 100000 in
set_option maxHeartbeats 400000 in
theorem c_m_row0 {sc : pm_Sc} {cs : List pm_C} {s : MS} {kn : Nat × Nat} (hc : 72 < cs.length) (k fr to v : Int32) (x : Int64) (n f : Int32) (h6 : s.1 17 0 = 600) : pu sc 83 [.ref 31, .int k, .int fr, .int to, .int v, .long x, .int n, .int f] (mset cs s, kn) (pz none (mset cs s, kn)) := by
  refine w_aload_n rfl rfl ?_
  refine w_iload_n rfl rfl ?_
  refine w_iload_n rfl rfl ?_
  refine w_iload_n rfl rfl ?_
  refine w_iload rfl rfl ?_
  refine w_iconst (v := (-1)) rfl (by decide) ?_
  refine w_iload rfl rfl ?_
  refine w_iconst (v := 0) rfl (by decide) ?_
  refine w_virtual rfl rfl (mset_ob hc) ⟨(Nat.le_of_ble_eq_true rfl), rfl, (Nat.le_of_ble_eq_true rfl), (Nat.le_of_ble_eq_true rfl)⟩ rfl (Nat.le_of_ble_eq_true rfl) (c_m_send0 hc k fr to v (-1) n 0 h6) ?_
  rintro _ _ ⟨rfl, rfl⟩
  refine ⟨_, rfl, ?_⟩
  refine w_istore rfl (Nat.le_of_ble_eq_true rfl) ?_
  refine w_iload rfl rfl ?_
  refine w_ifCond_ge rfl rfl (fun c17 => ?_) (fun c17 => ?_)
  · exact absurd c17 (by decide)
  · exact w_return rfl rfl ⟨(by first | rfl | (simp only [c17, if_true, if_false, and_true, true_and, and_false, false_and, or_true, true_or, or_false, false_or, not_true_eq_false, not_false_eq_true, ite_self]; done) | (simp only [c17, if_true, if_false, and_true, true_and, and_false, false_and, or_true, true_or, or_false, false_or, not_true_eq_false, not_false_eq_true, ite_self]; rfl)), (by first | rfl | (simp only [c17, if_true, if_false, and_true, true_and, and_false, false_and, or_true, true_or, or_false, false_or, not_true_eq_false, not_false_eq_true, ite_self]; done) | (simp only [c17, if_true, if_false, and_true, true_and, and_false, false_and, or_true, true_or, or_false, false_or, not_true_eq_false, not_false_eq_true, ite_self]; rfl))⟩
set_option maxRecDepth 100000 in
set_option maxHeartbeats 400000 in
theorem c_m_row1 {sc : pm_Sc} {cs : List pm_C} {s : MS} {kn : Nat × Nat} (hc : 72 < cs.length) (k fr to v : Int32) (x : Int64) (n f : Int32) {m : Nat} (hm : s.1 17 0 = nI m) (h6 : m < 600) : pu sc 83 [.ref 31, .int k, .int fr, .int to, .int v, .long x, .int n, .int f] (mset cs s, kn) (pz none (mset cs (up (ul (put s m k fr to v (-1) n 0) 27 m x) 26 m f), kn)) := by
  refine w_aload_n rfl rfl ?_
  refine w_iload_n rfl rfl ?_
  refine w_iload_n rfl rfl ?_
  refine w_iload_n rfl rfl ?_
  refine w_iload rfl rfl ?_
  refine w_iconst (v := (-1)) rfl (by decide) ?_
  refine w_iload rfl rfl ?_
  refine w_iconst (v := 0) rfl (by decide) ?_
  refine w_virtual rfl rfl (mset_ob hc) ⟨(Nat.le_of_ble_eq_true rfl), rfl, (Nat.le_of_ble_eq_true rfl), (Nat.le_of_ble_eq_true rfl)⟩ rfl (Nat.le_of_ble_eq_true rfl) (c_m_send1 hc k fr to v (-1) n 0 hm h6) ?_
  rintro _ _ ⟨rfl, rfl⟩
  refine ⟨_, rfl, ?_⟩
  refine w_istore rfl (Nat.le_of_ble_eq_true rfl) ?_
  refine w_iload rfl rfl ?_
  refine w_ifCond_ge rfl rfl (fun c17 => ?_) (fun c17 => ?_)
  · refine w_aload_n rfl rfl ?_
    refine w_getfield rfl (mset_ob hc) rfl ?_
    refine w_iload rfl rfl ?_
    refine w_lload rfl rfl ?_
    refine w_mls (k := 27) (j := m) rfl hc (by decide) rfl ⟨show m < 600 from by omega, by decide⟩ ?_
    refine w_aload_n rfl rfl ?_
    refine w_getfield rfl (mset_ob hc) rfl ?_
    refine w_iload rfl rfl ?_
    refine w_iload rfl rfl ?_
    refine w_mis (k := 26) (j := m) rfl hc (by decide) rfl ⟨show m < 600 from by omega, by decide⟩ ?_
    exact w_return rfl rfl ⟨(by first | rfl | (simp only [c17, if_true, if_false, and_true, true_and, and_false, false_and, or_true, true_or, or_false, false_or, not_true_eq_false, not_false_eq_true, ite_self]; done) | (simp only [c17, if_true, if_false, and_true, true_and, and_false, false_and, or_true, true_or, or_false, false_or, not_true_eq_false, not_false_eq_true, ite_self]; rfl)), (by first | rfl | (simp only [c17, if_true, if_false, and_true, true_and, and_false, false_and, or_true, true_or, or_false, false_or, not_true_eq_false, not_false_eq_true, ite_self]; done) | (simp only [c17, if_true, if_false, and_true, true_and, and_false, false_and, or_true, true_or, or_false, false_or, not_true_eq_false, not_false_eq_true, ite_self]; rfl))⟩
  · exact absurd (nI_pos' (by omega)) c17
theorem c_m_row {sc : pm_Sc} {cs : List pm_C} {s : MS} {kn : Nat × Nat} (hc : 72 < cs.length) (k fr to v : Int32) (x : Int64) (n f : Int32) {m : Nat} (hm : s.1 17 0 = nI m) (h6 : m ≤ 600) : pu sc 83 [.ref 31, .int k, .int fr, .int to, .int v, .long x, .int n, .int f] (mset cs s, kn) (pz none (mset cs (f_row s k fr to v x n f), kn)) := by
  by_cases e : m = 600
  · subst e
    rw [f_row, if_pos (by rw [hm]; rfl)]
    exact c_m_row0 hc k fr to v x n f (by rw [hm]; rfl)
  · rw [f_row, if_neg (not600 hm (by omega)), mN_eq hm h6]
    exact c_m_row1 hc k fr to v x n f hm (by omega)
theorem f_row_m {s : MS} {m : Nat} (hm : s.1 17 0 = nI m) (h6 : m ≤ 600) (k fr to v : Int32) (x : Int64) (n f : Int32) : ∃ m', m' ≤ 600 ∧ (f_row s k fr to v x n f).1 17 0 = nI m' := by
  unfold f_row
  by_cases e : m = 600
  · subst e; rw [if_pos (by rw [hm]; rfl)]; exact ⟨600, by omega, hm⟩
  · rw [if_neg (not600 hm (by omega))]; exact ⟨m + 1, by omega, show s.1 17 0 + 1 = _ by rw [hm, nI_succ]⟩
set_option maxRecDepth 100000 in
set_option maxHeartbeats 400000 in
theorem c_m_reply0 {sc : pm_Sc} {cs : List pm_C} {s : MS} {kn : Nat × Nat} (hc : 72 < cs.length) (r p : Nat) (hr : r < 4) (hp : 1 ≤ p) (hp2 : p ≤ 12) (h6 : s.1 17 0 = 600) : pu sc 84 [.ref 31, .int (nI r), .int (nI p)] (mset cs s, kn) (pz none (mset cs s, kn)) := by
  refine w_aload_n rfl rfl ?_
  refine w_iconst (v := 2) rfl (by decide) ?_
  refine w_iload_n rfl rfl ?_
  refine w_iconst (v := 4) rfl (by decide) ?_
  refine w_aload_n rfl rfl ?_
  refine w_getfield rfl (mset_ob hc) rfl ?_
  refine w_iload_n rfl rfl ?_
  refine w_mil (k := 6) (j := r) rfl hc (by decide) rfl ⟨show r < 4 from by omega, by decide⟩ ?_
  refine w_aload_n rfl rfl ?_
  refine w_getfield rfl (mset_ob hc) rfl ?_
  refine w_iload_n rfl rfl ?_
  refine w_mll (k := 8) (j := r) rfl hc (by decide) rfl ⟨show r < 4 from by omega, by decide⟩ ?_
  refine w_iload_n rfl rfl ?_
  refine w_iconst (v := 1) rfl (by decide) ?_
  refine w_isubN (x := p) (y := 1) rfl rfl rfl (by omega) ?_
  refine w_static rfl (by decide) rfl ⟨(Nat.le_of_ble_eq_true rfl), (Nat.le_of_ble_eq_true rfl), (Nat.le_of_ble_eq_true rfl)⟩ rfl (Nat.le_of_ble_eq_true rfl) (c_m_at (s.2 8 r) (nI (p - 1))) ?_
  rintro _ _ ⟨rfl, rfl⟩
  refine ⟨_, rfl, ?_⟩
  refine w_iload_n rfl rfl ?_
  refine w_aload_n rfl rfl ?_
  refine w_getfield rfl (mset_ob hc) rfl ?_
  refine w_iload_n rfl rfl ?_
  refine w_mll (k := 8) (j := r) rfl hc (by decide) rfl ⟨show r < 4 from by omega, by decide⟩ ?_
  refine w_iload_n rfl rfl ?_
  refine w_static rfl (by decide) rfl ⟨(Nat.le_of_ble_eq_true rfl), (Nat.le_of_ble_eq_true rfl), (Nat.le_of_ble_eq_true rfl)⟩ rfl (Nat.le_of_ble_eq_true rfl) (c_m_dig (s.2 8 r) p (by omega)) ?_
  rintro _ _ ⟨rfl, rfl⟩
  refine ⟨_, rfl, ?_⟩
  refine w_virtual rfl rfl (mset_ob hc) ⟨(Nat.le_of_ble_eq_true rfl), rfl, (Nat.le_of_ble_eq_true rfl), (Nat.le_of_ble_eq_true rfl)⟩ rfl (Nat.le_of_ble_eq_true rfl) (c_m_send0 hc _ _ _ _ _ _ _ h6) ?_
  rintro _ _ ⟨rfl, rfl⟩
  refine ⟨_, rfl, ?_⟩
  refine w_istore_n rfl (Nat.le_of_ble_eq_true rfl) ?_
  refine w_iload_n rfl rfl ?_
  refine w_ifCond_lt rfl rfl (fun c38 => ?_) (fun c38 => ?_)
  · exact w_return rfl rfl ⟨(by first | rfl | (simp only [c38, if_true, if_false, and_true, true_and, and_false, false_and, or_true, true_or, or_false, false_or, not_true_eq_false, not_false_eq_true, ite_self]; done) | (simp only [c38, if_true, if_false, and_true, true_and, and_false, false_and, or_true, true_or, or_false, false_or, not_true_eq_false, not_false_eq_true, ite_self]; rfl)), (by first | rfl | (simp only [c38, if_true, if_false, and_true, true_and, and_false, false_and, or_true, true_or, or_false, false_or, not_true_eq_false, not_false_eq_true, ite_self]; done) | (simp only [c38, if_true, if_false, and_true, true_and, and_false, false_and, or_true, true_or, or_false, false_or, not_true_eq_false, not_false_eq_true, ite_self]; rfl))⟩
  · exact absurd (by decide) c38
set_option maxRecDepth 100000 in
set_option maxHeartbeats 400000 in
theorem c_m_reply1 {sc : pm_Sc} {cs : List pm_C} {s : MS} {kn : Nat × Nat} (hc : 72 < cs.length) (r p : Nat) (hr : r < 4) (hp : 1 ≤ p) (hp2 : p ≤ 12) (hrow : RowOK (s.2 8 r) p) (hky : KeyOK s) {m : Nat} (hm : s.1 17 0 = nI m) (h6 : m < 600) : pu sc 84 [.ref 31, .int (nI r), .int (nI p)] (mset cs s, kn) (pz none (mset cs (up (numset (put s m 2 (nI r) 4 (s.1 6 r) (m_at (s.2 8 r) (nI (p - 1))) (nI p) (digN (s.2 8 r) p)) (wkA s (s.2 8 r) p).1) 25 m (wkA s (s.2 8 r) p).2), kn)) := by
  have hw : ∀ n, wkA (put s m 2 (nI r) 4 (s.1 6 r) (m_at (s.2 8 r) (nI (p - 1))) (nI p) (digN (s.2 8 r) p)) (s.2 8 r) n = wkA s (s.2 8 r) n := wkA_cong _ (by rintro k j (rfl | rfl | rfl) <;> rfl)
  rw [← hw]
  refine w_aload_n rfl rfl ?_
  refine w_iconst (v := 2) rfl (by decide) ?_
  refine w_iload_n rfl rfl ?_
  refine w_iconst (v := 4) rfl (by decide) ?_
  refine w_aload_n rfl rfl ?_
  refine w_getfield rfl (mset_ob hc) rfl ?_
  refine w_iload_n rfl rfl ?_
  refine w_mil (k := 6) (j := r) rfl hc (by decide) rfl ⟨show r < 4 from by omega, by decide⟩ ?_
  refine w_aload_n rfl rfl ?_
  refine w_getfield rfl (mset_ob hc) rfl ?_
  refine w_iload_n rfl rfl ?_
  refine w_mll (k := 8) (j := r) rfl hc (by decide) rfl ⟨show r < 4 from by omega, by decide⟩ ?_
  refine w_iload_n rfl rfl ?_
  refine w_iconst (v := 1) rfl (by decide) ?_
  refine w_isubN (x := p) (y := 1) rfl rfl rfl (by omega) ?_
  refine w_static rfl (by decide) rfl ⟨(Nat.le_of_ble_eq_true rfl), (Nat.le_of_ble_eq_true rfl), (Nat.le_of_ble_eq_true rfl)⟩ rfl (Nat.le_of_ble_eq_true rfl) (c_m_at (s.2 8 r) (nI (p - 1))) ?_
  rintro _ _ ⟨rfl, rfl⟩
  refine ⟨_, rfl, ?_⟩
  refine w_iload_n rfl rfl ?_
  refine w_aload_n rfl rfl ?_
  refine w_getfield rfl (mset_ob hc) rfl ?_
  refine w_iload_n rfl rfl ?_
  refine w_mll (k := 8) (j := r) rfl hc (by decide) rfl ⟨show r < 4 from by omega, by decide⟩ ?_
  refine w_iload_n rfl rfl ?_
  refine w_static rfl (by decide) rfl ⟨(Nat.le_of_ble_eq_true rfl), (Nat.le_of_ble_eq_true rfl), (Nat.le_of_ble_eq_true rfl)⟩ rfl (Nat.le_of_ble_eq_true rfl) (c_m_dig (s.2 8 r) p (by omega)) ?_
  rintro _ _ ⟨rfl, rfl⟩
  refine ⟨_, rfl, ?_⟩
  refine w_virtual rfl rfl (mset_ob hc) ⟨(Nat.le_of_ble_eq_true rfl), rfl, (Nat.le_of_ble_eq_true rfl), (Nat.le_of_ble_eq_true rfl)⟩ rfl (Nat.le_of_ble_eq_true rfl) (c_m_send1 hc _ _ _ _ _ _ _ hm h6) ?_
  rintro _ _ ⟨rfl, rfl⟩
  refine ⟨_, rfl, ?_⟩
  refine w_istore_n rfl (Nat.le_of_ble_eq_true rfl) ?_
  refine w_iload_n rfl rfl ?_
  refine w_ifCond_lt rfl rfl (fun c38 => ?_) (fun c38 => ?_)
  · exact absurd c38 (nI_pos (by omega))
  · refine w_aload_n rfl rfl ?_
    refine w_getfield rfl (mset_ob hc) rfl ?_
    refine w_iload_n rfl rfl ?_
    refine w_aload_n rfl rfl ?_
    refine w_aload_n rfl rfl ?_
    refine w_getfield rfl (mset_ob hc) rfl ?_
    refine w_iload_n rfl rfl ?_
    refine w_mll (k := 8) (j := r) rfl hc (by decide) rfl ⟨show r < 4 from by omega, by decide⟩ ?_
    refine w_iload_n rfl rfl ?_
    refine w_virtual rfl rfl (mset_ob hc) ⟨(Nat.le_of_ble_eq_true rfl), rfl, (Nat.le_of_ble_eq_true rfl), (Nat.le_of_ble_eq_true rfl)⟩ rfl (Nat.le_of_ble_eq_true rfl) (c_m_work hc (s.2 8 r) p (by omega) hrow hky) ?_
    rintro _ _ ⟨rfl, rfl⟩
    refine ⟨_, rfl, ?_⟩
    refine w_mis (k := 25) (j := m) rfl hc (by decide) rfl ⟨show m < 600 from by omega, by decide⟩ ?_
    exact w_return rfl rfl ⟨(by first | rfl | (simp only [c38, if_true, if_false, and_true, true_and, and_false, false_and, or_true, true_or, or_false, false_or, not_true_eq_false, not_false_eq_true, ite_self]; done) | (simp only [c38, if_true, if_false, and_true, true_and, and_false, false_and, or_true, true_or, or_false, false_or, not_true_eq_false, not_false_eq_true, ite_self]; rfl)), (by first | rfl | (simp only [c38, if_true, if_false, and_true, true_and, and_false, false_and, or_true, true_or, or_false, false_or, not_true_eq_false, not_false_eq_true, ite_self]; done) | (simp only [c38, if_true, if_false, and_true, true_and, and_false, false_and, or_true, true_or, or_false, false_or, not_true_eq_false, not_false_eq_true, ite_self]; rfl))⟩
theorem c_m_reply {sc : pm_Sc} {cs : List pm_C} {s : MS} {kn : Nat × Nat} (hc : 72 < cs.length) (r p : Nat) (hr : r < 4) (hp : 1 ≤ p) (hp2 : p ≤ 12) (hrow : RowOK (s.2 8 r) p) (hky : KeyOK s) {m : Nat} (hm : s.1 17 0 = nI m) (h6 : m ≤ 600) : pu sc 84 [.ref 31, .int (nI r), .int (nI p)] (mset cs s, kn) (pz none (mset cs (f_reply s r p), kn)) := by
  by_cases e : m = 600
  · subst e
    rw [f_reply, if_pos (by rw [hm]; rfl)]
    exact c_m_reply0 hc r p hr hp hp2 (by rw [hm]; rfl)
  · rw [f_reply, if_neg (not600 hm (by omega)), mN_eq hm h6]
    exact c_m_reply1 hc r p hr hp hp2 hrow hky hm (by omega)
theorem f_reply_m {s : MS} {m : Nat} (hm : s.1 17 0 = nI m) (h6 : m ≤ 600) (r p : Nat) : ∃ m', m' ≤ 600 ∧ (f_reply s r p).1 17 0 = nI m' := by
  unfold f_reply
  by_cases e : m = 600
  · subst e; rw [if_pos (by rw [hm]; rfl)]; exact ⟨600, by omega, hm⟩
  · rw [if_neg (not600 hm (by omega))]; exact ⟨m + 1, by omega, show s.1 17 0 + 1 = _ by rw [hm, nI_succ]⟩
set_option maxRecDepth 100000 in
set_option maxHeartbeats 400000 in
theorem c_m_order {sc : pm_Sc} {cs : List pm_C} {s : MS} {kn : Nat × Nat} (hc : 72 < cs.length) (r p : Nat) (hr : r < 4) (hp : 1 ≤ p) (hp2 : p ≤ 12) {m : Nat} (hm : s.1 17 0 = nI m) (h6 : m ≤ 600) : pu sc 85 [.ref 31, .int (nI r), .int (nI p)] (mset cs s, kn) (pz none (mset cs (f_order s r p), kn)) := by
  refine w_aload_n rfl rfl ?_
  refine w_iconst (v := 1) rfl (by decide) ?_
  refine w_iload_n rfl rfl ?_
  refine w_aload_n rfl rfl ?_
  refine w_getfield rfl (mset_ob hc) rfl ?_
  refine w_iload_n rfl rfl ?_
  refine w_mil (k := 6) (j := r) rfl hc (by decide) rfl ⟨show r < 4 from by omega, by decide⟩ ?_
  refine w_aload_n rfl rfl ?_
  refine w_getfield rfl (mset_ob hc) rfl ?_
  refine w_iload_n rfl rfl ?_
  refine w_mll (k := 8) (j := r) rfl hc (by decide) rfl ⟨show r < 4 from by omega, by decide⟩ ?_
  refine w_iload_n rfl rfl ?_
  refine w_iconst (v := 1) rfl (by decide) ?_
  refine w_isubN (x := p) (y := 1) rfl rfl rfl (by omega) ?_
  refine w_static rfl (by decide) rfl ⟨(Nat.le_of_ble_eq_true rfl), (Nat.le_of_ble_eq_true rfl), (Nat.le_of_ble_eq_true rfl)⟩ rfl (Nat.le_of_ble_eq_true rfl) (c_m_at (s.2 8 r) (nI (p - 1))) ?_
  rintro _ _ ⟨rfl, rfl⟩
  refine ⟨_, rfl, ?_⟩
  refine w_iload_n rfl rfl ?_
  refine w_aload_n rfl rfl ?_
  refine w_getfield rfl (mset_ob hc) rfl ?_
  refine w_iload_n rfl rfl ?_
  refine w_mll (k := 8) (j := r) rfl hc (by decide) rfl ⟨show r < 4 from by omega, by decide⟩ ?_
  refine w_iload_n rfl rfl ?_
  refine w_static rfl (by decide) rfl ⟨(Nat.le_of_ble_eq_true rfl), (Nat.le_of_ble_eq_true rfl), (Nat.le_of_ble_eq_true rfl)⟩ rfl (Nat.le_of_ble_eq_true rfl) (c_m_dig (s.2 8 r) p (by omega)) ?_
  rintro _ _ ⟨rfl, rfl⟩
  refine ⟨_, rfl, ?_⟩
  refine w_virtual rfl rfl (mset_ob hc) ⟨(Nat.le_of_ble_eq_true rfl), rfl, (Nat.le_of_ble_eq_true rfl), (Nat.le_of_ble_eq_true rfl)⟩ rfl (Nat.le_of_ble_eq_true rfl) (c_m_all hc _ _ _ _ _ _ hm h6) ?_
  rintro _ _ ⟨rfl, rfl⟩
  refine ⟨_, rfl, ?_⟩
  exact w_return rfl rfl ⟨(by first | rfl | (simp only [if_true, if_false, and_true, true_and, and_false, false_and, or_true, true_or, or_false, false_or, not_true_eq_false, not_false_eq_true, ite_self]; done) | (simp only [if_true, if_false, and_true, true_and, and_false, false_and, or_true, true_or, or_false, false_or, not_true_eq_false, not_false_eq_true, ite_self]; rfl)), (by first | rfl | (simp only [if_true, if_false, and_true, true_and, and_false, false_and, or_true, true_or, or_false, false_or, not_true_eq_false, not_false_eq_true, ite_self]; done) | (simp only [if_true, if_false, and_true, true_and, and_false, false_and, or_true, true_or, or_false, false_or, not_true_eq_false, not_false_eq_true, ite_self]; rfl))⟩
set_option maxRecDepth 100000 in
set_option maxHeartbeats 400000 in
theorem c_m_prim {sc : pm_Sc} {cs : List pm_C} {s : MS} {kn : Nat × Nat} (hc : 72 < cs.length) (r : Nat) (hr : r < 4) : pu sc 86 [.ref 31, .int (nI r)] (mset cs s, kn) (pz (some (.int (b01 (rm4 (s.1 6 r) = nI r)))) (mset cs s, kn)) := by
  refine w_aload_n rfl rfl ?_
  refine w_getfield rfl (mset_ob hc) rfl ?_
  refine w_iload_n rfl rfl ?_
  refine w_mil (k := 6) (j := r) rfl hc (by decide) rfl ⟨show r < 4 from by omega, by decide⟩ ?_
  refine w_iconst (v := 4) rfl (by decide) ?_
  refine w_irem4 rfl ?_
  refine w_iload_n rfl rfl ?_
  refine w_if_icmp_ne rfl rfl (fun c9 => ?_) (fun c9 => ?_)
  · refine w_iconst (v := 0) rfl (by decide) ?_
    exact w_ireturn rfl (by first | exact Or.inl rfl | exact Or.inr ⟨rfl, Or.inl rfl⟩ | exact Or.inr ⟨rfl, Or.inr rfl⟩ | exact Or.inr ⟨rfl, by assumption⟩) ⟨(by first | (simp only [b01, c9, if_true, if_false, and_true, true_and, and_false, false_and, or_true, true_or, or_false, false_or, not_true_eq_false, not_false_eq_true, ite_self]; done) | (simp only [b01, c9, if_true, if_false, and_true, true_and, and_false, false_and, or_true, true_or, or_false, false_or, not_true_eq_false, not_false_eq_true, ite_self]; rfl) | rfl), (by first | (simp only [b01, c9, if_true, if_false, and_true, true_and, and_false, false_and, or_true, true_or, or_false, false_or, not_true_eq_false, not_false_eq_true, ite_self]; done) | (simp only [b01, c9, if_true, if_false, and_true, true_and, and_false, false_and, or_true, true_or, or_false, false_or, not_true_eq_false, not_false_eq_true, ite_self]; rfl) | rfl)⟩
  · refine w_iconst (v := 1) rfl (by decide) ?_
    refine w_goto rfl rfl ?_
    exact w_ireturn rfl (by first | exact Or.inl rfl | exact Or.inr ⟨rfl, Or.inl rfl⟩ | exact Or.inr ⟨rfl, Or.inr rfl⟩ | exact Or.inr ⟨rfl, by assumption⟩) ⟨(by first | (simp only [b01, (eq_true c9), if_true, if_false, and_true, true_and, and_false, false_and, or_true, true_or, or_false, false_or, not_true_eq_false, not_false_eq_true, ite_self]; done) | (simp only [b01, (eq_true c9), if_true, if_false, and_true, true_and, and_false, false_and, or_true, true_or, or_false, false_or, not_true_eq_false, not_false_eq_true, ite_self]; rfl) | rfl), (by first | (simp only [b01, (eq_true c9), if_true, if_false, and_true, true_and, and_false, false_and, or_true, true_or, or_false, false_or, not_true_eq_false, not_false_eq_true, ite_self]; done) | (simp only [b01, (eq_true c9), if_true, if_false, and_true, true_and, and_false, false_and, or_true, true_or, or_false, false_or, not_true_eq_false, not_false_eq_true, ite_self]; rfl) | rfl)⟩
set_option maxRecDepth 100000 in
set_option maxHeartbeats 400000 in
theorem c_m_app {sc : pm_Sc} {cs : List pm_C} {s : MS} {kn : Nat × Nat} (hc : 72 < cs.length) (r : Nat) (hr : r < 4) (q : Int32) : pu sc 87 [.ref 31, .int (nI r), .int q] (mset cs s, kn) (pz none (mset cs (f_append s r q), kn)) := by
  refine w_aload_n rfl rfl ?_
  refine w_getfield rfl (mset_ob hc) rfl ?_
  refine w_iload_n rfl rfl ?_
  refine w_aload_n rfl rfl ?_
  refine w_getfield rfl (mset_ob hc) rfl ?_
  refine w_iload_n rfl rfl ?_
  refine w_mll (k := 8) (j := r) rfl hc (by decide) rfl ⟨show r < 4 from by omega, by decide⟩ ?_
  refine w_aload_n rfl rfl ?_
  refine w_getfield rfl (mset_ob hc) rfl ?_
  refine w_iload_n rfl rfl ?_
  refine w_mil (k := 7) (j := r) rfl hc (by decide) rfl ⟨show r < 4 from by omega, by decide⟩ ?_
  refine w_iload_n rfl rfl ?_
  refine w_static rfl (by decide) rfl ⟨(Nat.le_of_ble_eq_true rfl), (Nat.le_of_ble_eq_true rfl), (Nat.le_of_ble_eq_true rfl)⟩ rfl (Nat.le_of_ble_eq_true rfl) (c_m_with (s.2 8 r) (s.1 7 r) q) ?_
  rintro _ _ ⟨rfl, rfl⟩
  refine ⟨_, rfl, ?_⟩
  refine w_mls (k := 8) (j := r) rfl hc (by decide) rfl ⟨show r < 4 from by omega, by decide⟩ ?_
  refine w_aload_n rfl rfl ?_
  refine w_getfield rfl (mset_ob hc) rfl ?_
  refine w_iload_n rfl rfl ?_
  refine w_dup2 rfl rfl rfl ?_
  refine w_mil (k := 7) (j := r) rfl hc (by decide) rfl ⟨show r < 4 from by omega, by decide⟩ ?_
  refine w_iconst (v := 1) rfl (by decide) ?_
  refine w_iadd rfl ?_
  refine w_mis (k := 7) (j := r) rfl hc (by decide) rfl ⟨show r < 4 from by omega, by decide⟩ ?_
  refine w_aload_n rfl rfl ?_
  refine w_getfield rfl (mset_ob hc) rfl ?_
  refine w_iload_n rfl rfl ?_
  refine w_dup2 rfl rfl rfl ?_
  refine w_mil (k := 11) (j := r) rfl hc (by decide) rfl ⟨show r < 4 from by omega, by decide⟩ ?_
  refine w_iconst (v := 1) rfl (by decide) ?_
  refine w_iload_n rfl rfl ?_
  refine w_ishl rfl ?_
  refine w_iconst (v := (-1)) rfl (by decide) ?_
  refine w_ixor rfl ?_
  refine w_iand rfl ?_
  refine w_mis (k := 11) (j := r) rfl hc (by decide) rfl ⟨show r < 4 from by omega, by decide⟩ ?_
  exact w_return rfl rfl ⟨(by first | rfl | (simp only [if_true, if_false, and_true, true_and, and_false, false_and, or_true, true_or, or_false, false_or, not_true_eq_false, not_false_eq_true, ite_self]; done) | (simp only [if_true, if_false, and_true, true_and, and_false, false_and, or_true, true_or, or_false, false_or, not_true_eq_false, not_false_eq_true, ite_self]; rfl)), (by first | rfl | (simp only [if_true, if_false, and_true, true_and, and_false, false_and, or_true, true_or, or_false, false_or, not_true_eq_false, not_false_eq_true, ite_self]; done) | (simp only [if_true, if_false, and_true, true_and, and_false, false_and, or_true, true_or, or_false, false_or, not_true_eq_false, not_false_eq_true, ite_self]; rfl))⟩
