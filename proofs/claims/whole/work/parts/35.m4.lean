-- deps: 34.m3
/-! THE REFERENCE: turn, makeNew, takeChange, takeHate -/
def wanN (s : MS) (r : Nat) (x : Int64) : Nat → MS
  | 0 => s
  | k + 1 => up (wanN s r x k) 11 r ((wanN s r x k).1 11 r &&& ((1 <<< (m_at x (nI k) &&& 31)) ^^^ (-1)))
def repN (s : MS) (r : Nat) : Nat → MS
  | 0 => s
  | k + 1 => f_reply (repN s r k) r (k + 1)
def trn0 (s : MS) (r : Nat) (v : Int32) (x : Int64) (n f : Int32) : MS := up (up (up (up (ul (up s 6 r v) 8 r x) 7 r n) 9 r f) 10 r 0) 12 r 0
def f_turn (s : MS) (r : Nat) (v : Int32) (x : Int64) (n : Nat) (f : Int32) : MS := repN (wanN (trn0 s r v x (nI n) f) r x n) r n
/-- the same but for messages, numbers and what is thrown -/
def Fr (s s' : MS) : Prop := (∀ a j, 1 ≤ a → a < 17 ∨ (29 ≤ a ∧ a ≤ 44) → s'.1 a j = s.1 a j) ∧ (∀ a j, a < 27 → s'.2 a j = s.2 a j)
theorem Fr.rf (s : MS) : Fr s s := ⟨fun _ _ _ _ => rfl, fun _ _ _ => rfl⟩
theorem Fr.tr {s s' s'' : MS} (h : Fr s s') (g : Fr s' s'') : Fr s s'' := ⟨fun a j h1 h2 => (g.1 a j h1 h2).trans (h.1 a j h1 h2), fun a j h1 => (g.2 a j h1).trans (h.2 a j h1)⟩
theorem fr_up {s : MS} {k j : Nat} {v : Int32} (h : k = 0 ∨ (17 ≤ k ∧ k ≤ 28) ∨ k = 45) : Fr s (up s k j v) := ⟨fun a b h1 h2 => up_n (fun z => by omega), fun _ _ _ => rfl⟩
theorem fr_ul {s : MS} {k j : Nat} {v : Int64} (h : 27 ≤ k) : Fr s (ul s k j v) := ⟨fun _ _ _ _ => rfl, fun a b h1 => ul_n (fun z => by omega)⟩
theorem fr_num {s : MS} {f : Nat → Int32} : Fr s (numset s f) := ⟨fun a b h1 h2 => if_neg (by omega), fun _ _ _ => rfl⟩
theorem fr_put {s : MS} {m : Nat} {k fr to v q p d : Int32} : Fr s (put s m k fr to v q p d) := (((((((fr_up (by omega)).tr (fr_up (by omega))).tr (fr_up (by omega))).tr (fr_up (by omega))).tr (fr_up (by omega))).tr (fr_up (by omega))).tr (fr_up (by omega))).tr (fr_up (by omega))
theorem fr_send {s : MS} {k fr to v q p d : Int32} : Fr s (f_send s k fr to v q p d) := by
  unfold f_send; split
  · exact .rf s
  · exact fr_put
theorem fr_row {s : MS} {k fr to v : Int32} {x : Int64} {n f : Int32} : Fr s (f_row s k fr to v x n f) := by
  unfold f_row; split
  · exact .rf s
  · exact (fr_put.tr (fr_ul (by omega))).tr (fr_up (by omega))
theorem fr_reply {s : MS} {r p : Nat} : Fr s (f_reply s r p) := by
  unfold f_reply; split
  · exact .rf s
  · exact (fr_put.tr fr_num).tr (fr_up (by omega))
theorem fr_all {s : MS} {k fr v q p d : Int32} : ∀ n, Fr s (f_all s k fr v q p d n)
  | 0 => .rf s
  | n + 1 => by
    rw [f_all]; split
    · exact fr_all n
    · exact (fr_all n).tr fr_send
theorem fr_rep {s : MS} {r : Nat} : ∀ n, Fr s (repN s r n)
  | 0 => .rf s
  | n + 1 => (fr_rep n).tr fr_reply
theorem repN_m {s : MS} {m : Nat} (hm : s.1 17 0 = nI m) (h6 : m ≤ 600) (r : Nat) : ∀ n, ∃ m', m' ≤ 600 ∧ (repN s r n).1 17 0 = nI m'
  | 0 => ⟨m, h6, hm⟩
  | n + 1 => by
    obtain ⟨m', h1, h2⟩ := repN_m hm h6 r n
    exact f_reply_m h2 h1 r (n + 1)
theorem KeyOK.fr {s s' : MS} (h : KeyOK s) (f : Fr s s') : KeyOK s' := fun q hq => by
  obtain ⟨y, h1, h2⟩ := h q hq
  exact ⟨y, h1, by rw [f.1 4 q (by omega) (by omega)]; exact h2⟩
theorem wanN_k {s : MS} {r : Nat} {x : Int64} {a j : Nat} (ha : a ≠ 11) : ∀ n, (wanN s r x n).1 a j = s.1 a j
  | 0 => rfl
  | n + 1 => by rw [wanN, up_n (fun z => ha z.1)]; exact wanN_k ha n
theorem wanN_l {s : MS} {r : Nat} {x : Int64} : ∀ n, (wanN s r x n).2 = s.2
  | 0 => rfl
  | n + 1 => wanN_l n
set_option maxRecDepth 100000 in
set_option maxHeartbeats 4000000 in
theorem l_m_wan {sc : pm_Sc} {cs : List pm_C} {kn : Nat × Nat} (hc : 72 < cs.length) {s : MS} (r : Nat) (hr : r < 4) (v : Int32) (x : Int64) (n : Nat) (hn : n ≤ 12) (f : Int32) {Q : (Option Value ⊕ Nat) → pm_H → Prop} (G : ∀ lv, pm_ld lv 0 = some (.ref 31) → pm_ld lv 1 = some (.int (nI r)) → pm_ld lv 2 = some (.int v) → pm_ld lv 3 = some (.long x) → pm_ld lv 5 = some (.int (nI n)) → pm_ld lv 6 = some (.int f) → pw sc 98 (79, lv, [], (mset cs (wanN s r x n), kn)) Q) : ∀ (d k : Nat) (lv : pm_L), k + d = n → pm_ld lv 0 = some (.ref 31) → pm_ld lv 1 = some (.int (nI r)) → pm_ld lv 2 = some (.int v) → pm_ld lv 3 = some (.long x) → pm_ld lv 5 = some (.int (nI n)) → pm_ld lv 6 = some (.int f) → pm_ld lv 7 = some (.int (nI k)) → pw sc 98 (47, lv, [], (mset cs (wanN s r x k), kn)) (Q) := by
  intro d
  induction d with
  | zero =>
    intro k lv hk g0 g1 g2 g3 g5 g6 g7
    obtain rfl : n = k := by omega
    refine w_iload rfl g7 ?_
    refine w_iload rfl g5 ?_
    refine w_if_icmp_ge rfl rfl (fun c51 => ?_) (fun c51 => ?_)
    · exact G _ g0 g1 g2 g3 g5 g6
    · exact absurd (nI_le (a := n) (b := n) (Nat.le_refl _) (by omega)) c51
  | succ d ih =>
    intro k lv hk g0 g1 g2 g3 g5 g6 g7
    refine w_iload rfl g7 ?_
    refine w_iload rfl g5 ?_
    refine w_if_icmp_ge rfl rfl (fun c51 => ?_) (fun c51 => ?_)
    · exact absurd c51 (nI_ge (a := k) (b := n) (by omega) (by omega))
    · refine w_aload_n rfl g0 ?_
      refine w_getfield rfl (mset_ob hc) rfl ?_
      refine w_iload_n rfl g1 ?_
      refine w_dup2 rfl rfl rfl ?_
      refine w_mil (k := 11) (j := r) rfl hc (by decide) rfl ⟨show r < 4 from by omega, by decide⟩ ?_
      refine w_iconst (v := 1) rfl (by decide) ?_
      refine w_lload_n rfl g3 ?_
      refine w_iload rfl g7 ?_
      refine w_static rfl (by decide) rfl ⟨(Nat.le_of_ble_eq_true rfl), (Nat.le_of_ble_eq_true rfl), (Nat.le_of_ble_eq_true rfl)⟩ rfl (Nat.le_of_ble_eq_true rfl) (c_m_at x (nI k)) ?_
      rintro _ _ ⟨rfl, rfl⟩
      refine ⟨_, rfl, ?_⟩
      refine w_ishl rfl ?_
      refine w_iconst (v := (-1)) rfl (by decide) ?_
      refine w_ixor rfl ?_
      refine w_iand rfl ?_
      refine w_mis (k := 11) (j := r) rfl hc (by decide) rfl ⟨show r < 4 from by omega, by decide⟩ ?_
      refine w_iincN (j := k) rfl rfl g7 (Nat.le_of_ble_eq_true rfl) ?_
      refine w_goto rfl rfl ?_
      exact ih (k + 1) _ (by omega) (ld_s1 (by decide) g0 (fun _ => rfl)) (ld_s1 (by decide) g1 (fun _ => rfl)) (ld_s1 (by decide) g2 (fun _ => rfl)) (ld_s1 (by decide) g3 (fun e => absurd e (by decide))) (ld_s1 (by decide) g5 (fun _ => rfl)) (ld_s1 (by decide) g6 (fun _ => rfl)) ld_self
set_option maxRecDepth 100000 in
set_option maxHeartbeats 4000000 in
theorem l_m_rep {sc : pm_Sc} {cs : List pm_C} {kn : Nat × Nat} (hc : 72 < cs.length) {s : MS} (r : Nat) (hr : r < 4) (v : Int32) (x : Int64) (n : Nat) (hn : n ≤ 12) (f : Int32) (hrow : RowOK (s.2 8 r) n) (hky : KeyOK s) {m : Nat} (hm : s.1 17 0 = nI m) (h6 : m ≤ 600) : ∀ (d k : Nat) (lv : pm_L), k + d = n → pm_ld lv 0 = some (.ref 31) → pm_ld lv 1 = some (.int (nI r)) → pm_ld lv 2 = some (.int v) → pm_ld lv 3 = some (.long x) → pm_ld lv 5 = some (.int (nI n)) → pm_ld lv 6 = some (.int f) → pm_ld lv 7 = some (.int (nI (k + 1))) → pw sc 98 (82, lv, [], (mset cs (repN s r k), kn)) (pz none (mset cs (repN s r n), kn)) := by
  intro d
  induction d with
  | zero =>
    intro k lv hk g0 g1 g2 g3 g5 g6 g7
    obtain rfl : n = k := by omega
    refine w_iload rfl g7 ?_
    refine w_iload rfl g5 ?_
    refine w_if_icmp_gt rfl rfl (fun c86 => ?_) (fun c86 => ?_)
    · exact w_return rfl rfl ⟨(by first | rfl | (simp only [c86, if_true, if_false, and_true, true_and, and_false, false_and, or_true, true_or, or_false, false_or, not_true_eq_false, not_false_eq_true, ite_self]; done) | (simp only [c86, if_true, if_false, and_true, true_and, and_false, false_and, or_true, true_or, or_false, false_or, not_true_eq_false, not_false_eq_true, ite_self]; rfl)), (by first | rfl | (simp only [c86, if_true, if_false, and_true, true_and, and_false, false_and, or_true, true_or, or_false, false_or, not_true_eq_false, not_false_eq_true, ite_self]; done) | (simp only [c86, if_true, if_false, and_true, true_and, and_false, false_and, or_true, true_or, or_false, false_or, not_true_eq_false, not_false_eq_true, ite_self]; rfl))⟩
    · exact absurd (nI_lt (a := n) (b := n + 1) (by omega) (by omega)) c86
  | succ d ih =>
    intro k lv hk g0 g1 g2 g3 g5 g6 g7
    obtain ⟨m', h6', hm'⟩ := repN_m hm h6 r k
    have hR : RowOK ((repN s r k).2 8 r) (k + 1) := by rw [(fr_rep k).2 8 r (by omega)]; exact fun j hj => hrow j (by omega)
    refine w_iload rfl g7 ?_
    refine w_iload rfl g5 ?_
    refine w_if_icmp_gt rfl rfl (fun c86 => ?_) (fun c86 => ?_)
    · exact absurd c86 (nI_nlt (a := n) (b := k + 1) (by omega) (by omega))
    · refine w_aload_n rfl g0 ?_
      refine w_iload_n rfl g1 ?_
      refine w_iload rfl g7 ?_
      refine w_virtual rfl rfl (mset_ob hc) ⟨(Nat.le_of_ble_eq_true rfl), rfl, (Nat.le_of_ble_eq_true rfl), (Nat.le_of_ble_eq_true rfl)⟩ rfl (Nat.le_of_ble_eq_true rfl) (c_m_reply hc r (k + 1) hr (by omega) (by omega) hR (hky.fr (fr_rep k)) hm' h6') ?_
      rintro _ _ ⟨rfl, rfl⟩
      refine ⟨_, rfl, ?_⟩
      refine w_iincN (j := (k + 1)) rfl rfl g7 (Nat.le_of_ble_eq_true rfl) ?_
      refine w_goto rfl rfl ?_
      exact ih (k + 1) _ (by omega) (ld_s1 (by decide) g0 (fun _ => rfl)) (ld_s1 (by decide) g1 (fun _ => rfl)) (ld_s1 (by decide) g2 (fun _ => rfl)) (ld_s1 (by decide) g3 (fun e => absurd e (by decide))) (ld_s1 (by decide) g5 (fun _ => rfl)) (ld_s1 (by decide) g6 (fun _ => rfl)) ld_self
set_option maxRecDepth 100000 in
set_option maxHeartbeats 4000000 in
theorem c_m_turn {sc : pm_Sc} {cs : List pm_C} {s : MS} {kn : Nat × Nat} (hc : 72 < cs.length) (r : Nat) (hr : r < 4) (v : Int32) (x : Int64) (n : Nat) (hn : n ≤ 12) (f : Int32) (hrow : RowOK x n) (hky : KeyOK s) {m : Nat} (hm : s.1 17 0 = nI m) (h6 : m ≤ 600) : pu sc 98 [.ref 31, .int (nI r), .int v, .long x, .int (nI n), .int f] (mset cs s, kn) (pz none (mset cs (f_turn s r v x n f), kn)) := by
  refine w_aload_n rfl rfl ?_
  refine w_getfield rfl (mset_ob hc) rfl ?_
  refine w_iload_n rfl rfl ?_
  refine w_iload_n rfl rfl ?_
  refine w_mis (k := 6) (j := r) rfl hc (by decide) rfl ⟨show r < 4 from by omega, by decide⟩ ?_
  refine w_aload_n rfl rfl ?_
  refine w_getfield rfl (mset_ob hc) rfl ?_
  refine w_iload_n rfl rfl ?_
  refine w_lload_n rfl rfl ?_
  refine w_mls (k := 8) (j := r) rfl hc (by decide) rfl ⟨show r < 4 from by omega, by decide⟩ ?_
  refine w_aload_n rfl rfl ?_
  refine w_getfield rfl (mset_ob hc) rfl ?_
  refine w_iload_n rfl rfl ?_
  refine w_iload rfl rfl ?_
  refine w_mis (k := 7) (j := r) rfl hc (by decide) rfl ⟨show r < 4 from by omega, by decide⟩ ?_
  refine w_aload_n rfl rfl ?_
  refine w_getfield rfl (mset_ob hc) rfl ?_
  refine w_iload_n rfl rfl ?_
  refine w_iload rfl rfl ?_
  refine w_mis (k := 9) (j := r) rfl hc (by decide) rfl ⟨show r < 4 from by omega, by decide⟩ ?_
  refine w_aload_n rfl rfl ?_
  refine w_getfield rfl (mset_ob hc) rfl ?_
  refine w_iload_n rfl rfl ?_
  refine w_iconst (v := 0) rfl (by decide) ?_
  refine w_mbs (k := 10) (j := r) rfl hc (by decide) (by decide) rfl ⟨show r < 4 from by omega, by decide⟩ ?_
  refine w_aload_n rfl rfl ?_
  refine w_getfield rfl (mset_ob hc) rfl ?_
  refine w_iload_n rfl rfl ?_
  refine w_iconst (v := 0) rfl (by decide) ?_
  refine w_mis (k := 12) (j := r) rfl hc (by decide) rfl ⟨show r < 4 from by omega, by decide⟩ ?_
  refine w_iconst (v := 0) rfl (by decide) ?_
  refine w_istore rfl (Nat.le_of_ble_eq_true rfl) ?_
  refine l_m_wan (s := trn0 s r v x (nI n) f) hc r hr v x n hn f (fun lv e0 e1 e2 e3 e5 e6 => ?_) n 0 _ (by omega) rfl rfl rfl rfl rfl rfl rfl
  refine w_iconst (v := 1) rfl (by decide) ?_
  refine w_istore rfl (Nat.le_of_ble_eq_true rfl) ?_
  refine l_m_rep (s := wanN (trn0 s r v x (nI n) f) r x n) hc r hr v x n hn f (by rw [wanN_l]; show RowOK ((ul (up s 6 r v) 8 r x).2 8 r) n; rw [ul_i]; exact hrow) (fun q hq => by rw [wanN_k (by omega)]; exact hky q hq) (m := m) (by rw [wanN_k (by omega)]; exact hm) h6 n 0 _ (by omega) (ld_s1 (by decide) e0 (fun _ => rfl)) (ld_s1 (by decide) e1 (fun _ => rfl)) (ld_s1 (by decide) e2 (fun _ => rfl)) (ld_s1 (by decide) e3 (fun e => absurd e (by decide))) (ld_s1 (by decide) e5 (fun _ => rfl)) (ld_s1 (by decide) e6 (fun _ => rfl)) ld_self
/-- the row that is merged -/
def gr (s : MS) (r : Nat) : Nat → Int64 → Nat → Int64 × Nat
  | 0, x, n => (x, n)
  | d + 1, x, n => if nxt s r x (nI n) < 0 then (x, n) else gr s r d (m_with x (nI n) (nxt s r x (nI n))) (n + 1)
def rwN (s : MS) (r : Nat) (x : Int64) (n f : Int32) : Nat → MS
  | 0 => s
  | t + 1 => if nI t = nI r then rwN s r x n f t else f_row (rwN s r x n f t) 7 (nI r) (nI t) ((rwN s r x n f t).1 6 r) x n f
def nwB (s : MS) (r : Nat) : Nat := 4 * r + (safN s r 4).toNatClampNeg
def nwG (s : MS) (r : Nat) : Int64 × Nat := gr s r 12 (m_begin (s.2 15 (nwB s r)) (s.1 16 (nwB s r))) (s.1 16 (nwB s r)).toNatClampNeg
def nwR (s : MS) (r : Nat) : MS := rwN s r (nwG s r).1 (nI (nwG s r).2) (s.1 16 (nwB s r)) 4
def f_new (s : MS) (r : Nat) : MS := f_turn (nwR s r) r ((nwR s r).1 6 r) (nwG s r).1 (nwG s r).2 (s.1 16 (nwB s r))
def NewPre (s : MS) (r : Nat) : Prop := (∃ b, b < 4 ∧ safN s r 4 = nI b) ∧ (∃ f, f ≤ 12 ∧ s.1 16 (nwB s r) = nI f) ∧ (∀ x n, n < 100 → ¬ nxt s r x (nI n) < 0 → n < 12) ∧ KeyOK s ∧ RowOK (nwG s r).1 (nwG s r).2 ∧ (nwG s r).2 ≤ 12 ∧ ∃ m, m ≤ 600 ∧ s.1 17 0 = nI m
theorem fr_rw {s : MS} {r : Nat} {x : Int64} {n f : Int32} : ∀ t, Fr s (rwN s r x n f t)
  | 0 => .rf s
  | t + 1 => by
    rw [rwN]; split
    · exact fr_rw t
    · exact (fr_rw t).tr fr_row
theorem rwN_m {s : MS} {m : Nat} (hm : s.1 17 0 = nI m) (h6 : m ≤ 600) (r : Nat) (x : Int64) (n f : Int32) : ∀ t, ∃ m', m' ≤ 600 ∧ (rwN s r x n f t).1 17 0 = nI m'
  | 0 => ⟨m, h6, hm⟩
  | t + 1 => by
    obtain ⟨m', h1, h2⟩ := rwN_m hm h6 r x n f t
    rw [rwN]; split
    · exact ⟨m', h1, h2⟩
    · exact f_row_m h2 h1 _ _ _ _ _ _ _
set_option maxRecDepth 100000 in
set_option maxHeartbeats 4000000 in
theorem l_m_gr {sc : pm_Sc} {cs : List pm_C} {kn : Nat × Nat} (hc : 72 < cs.length) {s : MS} (r : Nat) (hr : r < 4) (f : Int32) (HN : ∀ x n, n < 100 → ¬ nxt s r x (nI n) < 0 → n < 12) {Q : (Option Value ⊕ Nat) → pm_H → Prop} : ∀ (d : Nat) (x : Int64) (n : Nat) (lv : pm_L), (12 ≤ n + d ∧ n + d ≤ 24) →
    (∀ lv', pm_ld lv' 0 = some (.ref 31) → pm_ld lv' 1 = some (.int (nI r)) → pm_ld lv' 3 = some (.int f) → pm_ld lv' 4 = some (.int (nI (gr s r d x n).2)) → pm_ld lv' 5 = some (.long (gr s r d x n).1) → pw sc 97 (77, lv', [], (mset cs s, kn)) Q) →
    pm_ld lv 0 = some (.ref 31) → pm_ld lv 1 = some (.int (nI r)) → pm_ld lv 3 = some (.int f) → pm_ld lv 4 = some (.int (nI n)) → pm_ld lv 5 = some (.long x) → pm_ld lv 7 = some (.int (nxt s r x (nI n))) → pw sc 97 (44, lv, [], (mset cs s, kn)) Q := by
  intro d
  induction d with
  | zero =>
    intro x n lv hd G g0 g1 g3 g4 g5 g7
    refine w_iload rfl g7 ?_
    refine w_ifCond_lt rfl rfl (fun c46 => ?_) (fun c46 => ?_)
    · exact G _ g0 g1 g3 g4 g5
    · exact absurd (HN x n (by omega) c46) (by omega)
  | succ d ih =>
    intro x n lv hd G g0 g1 g3 g4 g5 g7
    refine w_iload rfl g7 ?_
    refine w_ifCond_lt rfl rfl (fun c46 => ?_) (fun c46 => ?_)
    · have N : gr s r (d + 1) x n = (if nxt s r x (nI n) < 0 then (x, n) else gr s r d (m_with x (nI n) (nxt s r x (nI n))) (n + 1)) := rfl
      rw [if_pos c46] at N
      rw [N] at G
      exact G _ g0 g1 g3 g4 g5
    · refine w_lload rfl g5 ?_
      refine w_iload rfl g4 ?_
      refine w_iload rfl g7 ?_
      refine w_static rfl (by decide) rfl ⟨(Nat.le_of_ble_eq_true rfl), (Nat.le_of_ble_eq_true rfl), (Nat.le_of_ble_eq_true rfl)⟩ rfl (Nat.le_of_ble_eq_true rfl) (c_m_with x (nI n) _) ?_
      rintro _ _ ⟨rfl, rfl⟩
      refine ⟨_, rfl, ?_⟩
      refine w_lstore rfl (Nat.le_of_ble_eq_true rfl) ?_
      refine w_iincN (j := n) rfl rfl (ld_s2 (by decide) g4 (fun _ => rfl)) (Nat.le_of_ble_eq_true rfl) ?_
      refine w_aload_n rfl (ld_s1 (by decide) (ld_s2 (by decide) g0 (fun _ => rfl)) (fun _ => rfl)) ?_
      refine w_iload_n rfl (ld_s1 (by decide) (ld_s2 (by decide) g1 (fun _ => rfl)) (fun _ => rfl)) ?_
      refine w_lload rfl (ld_s1 (by decide) ld_self2 (fun e => absurd e (by decide))) ?_
      refine w_iload rfl ld_self ?_
      refine w_virtual rfl rfl (mset_ob hc) ⟨(Nat.le_of_ble_eq_true rfl), rfl, (Nat.le_of_ble_eq_true rfl), (Nat.le_of_ble_eq_true rfl)⟩ rfl (Nat.le_of_ble_eq_true rfl) (c_m_next hc r hr _ _) ?_
      rintro _ _ ⟨rfl, rfl⟩
      refine ⟨_, rfl, ?_⟩
      refine w_istore rfl (Nat.le_of_ble_eq_true rfl) ?_
      refine w_goto rfl rfl ?_
      have N : gr s r (d + 1) x n = (if nxt s r x (nI n) < 0 then (x, n) else gr s r d (m_with x (nI n) (nxt s r x (nI n))) (n + 1)) := rfl
      rw [if_neg c46] at N
      rw [N] at G
      exact ih _ _ _ (by omega) G (ld_s1 (by decide) (ld_s1 (by decide) (ld_s2 (by decide) g0 (fun _ => rfl)) (fun _ => rfl)) (fun _ => rfl)) (ld_s1 (by decide) (ld_s1 (by decide) (ld_s2 (by decide) g1 (fun _ => rfl)) (fun _ => rfl)) (fun _ => rfl)) (ld_s1 (by decide) (ld_s1 (by decide) (ld_s2 (by decide) g3 (fun _ => rfl)) (fun _ => rfl)) (fun _ => rfl)) (ld_s1 (by decide) ld_self (fun _ => rfl)) (ld_s1 (by decide) (ld_s1 (by decide) ld_self2 (fun e => absurd e (by decide))) (fun e => absurd e (by decide))) ld_self
set_option maxRecDepth 100000 in
set_option maxHeartbeats 4000000 in
theorem l_m_rw {sc : pm_Sc} {cs : List pm_C} {kn : Nat × Nat} (hc : 72 < cs.length) {s : MS} (r : Nat) (hr : r < 4) (x : Int64) (n f : Int32) {m : Nat} (hm : s.1 17 0 = nI m) (h6 : m ≤ 600) {Q : (Option Value ⊕ Nat) → pm_H → Prop} (G : ∀ lv, pm_ld lv 0 = some (.ref 31) → pm_ld lv 1 = some (.int (nI r)) → pm_ld lv 3 = some (.int f) → pm_ld lv 4 = some (.int n) → pm_ld lv 5 = some (.long x) → pw sc 97 (118, lv, [], (mset cs (rwN s r x n f 4), kn)) Q) : ∀ (d k : Nat) (lv : pm_L), k + d = 4 → pm_ld lv 0 = some (.ref 31) → pm_ld lv 1 = some (.int (nI r)) → pm_ld lv 3 = some (.int f) → pm_ld lv 4 = some (.int n) → pm_ld lv 5 = some (.long x) → pm_ld lv 8 = some (.int (nI k)) → pw sc 97 (80, lv, [], (mset cs (rwN s r x n f k), kn)) (Q) := by
  intro d
  induction d with
  | zero =>
    intro k lv hk g0 g1 g3 g4 g5 g8
    obtain rfl : 4 = k := by omega
    refine w_iload rfl g8 ?_
    refine w_iconst (v := 4) rfl (by decide) ?_
    refine w_if_icmp_ge rfl rfl (fun c83 => ?_) (fun c83 => ?_)
    · exact G _ g0 g1 g3 g4 g5
    · exact absurd (nI_le (a := 4) (b := 4) (Nat.le_refl _) (by omega)) c83
  | succ d ih =>
    intro k lv hk g0 g1 g3 g4 g5 g8
    obtain ⟨m', h6', hm'⟩ := rwN_m hm h6 r x n f k
    refine w_iload rfl g8 ?_
    refine w_iconst (v := 4) rfl (by decide) ?_
    refine w_if_icmp_ge rfl rfl (fun c83 => ?_) (fun c83 => ?_)
    · exact absurd c83 (nI_ge (a := k) (b := 4) (by omega) (by omega))
    · refine w_iload rfl g8 ?_
      refine w_iload_n rfl g1 ?_
      refine w_if_icmp_eq rfl rfl (fun c89 => ?_) (fun c89 => ?_)
      · refine w_iincN (j := k) rfl rfl g8 (Nat.le_of_ble_eq_true rfl) ?_
        refine w_goto rfl rfl ?_
        have e : rwN s r x n f (k + 1) = (if nI k = nI r then rwN s r x n f k else f_row (rwN s r x n f k) 7 (nI r) (nI k) ((rwN s r x n f k).1 6 r) x n f) := rfl
        rw [if_pos c89] at e
        have ih2 := ih (k + 1)
        rw [e] at ih2
        exact ih2 _ (by omega) (ld_s1 (by decide) g0 (fun _ => rfl)) (ld_s1 (by decide) g1 (fun _ => rfl)) (ld_s1 (by decide) g3 (fun _ => rfl)) (ld_s1 (by decide) g4 (fun _ => rfl)) (ld_s1 (by decide) g5 (fun e => absurd e (by decide))) ld_self
      · refine w_aload_n rfl g0 ?_
        refine w_bipush (v := 7) rfl (by decide) ?_
        refine w_iload_n rfl g1 ?_
        refine w_iload rfl g8 ?_
        refine w_aload_n rfl g0 ?_
        refine w_getfield rfl (mset_ob hc) rfl ?_
        refine w_iload_n rfl g1 ?_
        refine w_mil (k := 6) (j := r) rfl hc (by decide) rfl ⟨show r < 4 from by omega, by decide⟩ ?_
        refine w_lload rfl g5 ?_
        refine w_iload rfl g4 ?_
        refine w_iload_n rfl g3 ?_
        refine w_virtual rfl rfl (mset_ob hc) ⟨(Nat.le_of_ble_eq_true rfl), rfl, (Nat.le_of_ble_eq_true rfl), (Nat.le_of_ble_eq_true rfl)⟩ rfl (Nat.le_of_ble_eq_true rfl) (c_m_row hc _ _ _ _ _ _ _ hm' h6') ?_
        rintro _ _ ⟨rfl, rfl⟩
        refine ⟨_, rfl, ?_⟩
        refine w_iincN (j := k) rfl rfl g8 (Nat.le_of_ble_eq_true rfl) ?_
        refine w_goto rfl rfl ?_
        have e : rwN s r x n f (k + 1) = (if nI k = nI r then rwN s r x n f k else f_row (rwN s r x n f k) 7 (nI r) (nI k) ((rwN s r x n f k).1 6 r) x n f) := rfl
        rw [if_neg c89] at e
        have ih2 := ih (k + 1)
        rw [e] at ih2
        exact ih2 _ (by omega) (ld_s1 (by decide) g0 (fun _ => rfl)) (ld_s1 (by decide) g1 (fun _ => rfl)) (ld_s1 (by decide) g3 (fun _ => rfl)) (ld_s1 (by decide) g4 (fun _ => rfl)) (ld_s1 (by decide) g5 (fun e => absurd e (by decide))) ld_self
set_option maxRecDepth 100000 in
set_option maxHeartbeats 4000000 in
theorem c_m_new {sc : pm_Sc} {cs : List pm_C} {kn : Nat × Nat} (hc : 72 < cs.length) {s : MS} (r : Nat) (hr : r < 4) (hN : NewPre s r) : pu sc 97 [.ref 31, .int (nI r)] (mset cs s, kn) (pz none (mset cs (f_new s r), kn)) := by
  obtain ⟨⟨b, hb, eb⟩, ⟨f, hf, ef⟩, HN, hky, hrow, hn2, m, h6, hm⟩ := hN
  have hbe : nwB s r = 4 * r + b := by rw [nwB, eb, nI_clamp (by omega)]
  have ek : s.1 16 (4 * r + b) = s.1 16 (nwB s r) := by rw [hbe]
  refine w_iconst (v := 4) rfl (by decide) ?_
  refine w_iload_n rfl rfl ?_
  refine w_imulN (x := 4) (y := r) rfl rfl rfl ?_
  refine w_aload_n rfl rfl ?_
  refine w_iload_n rfl rfl ?_
  refine w_virtual rfl rfl (mset_ob hc) ⟨(Nat.le_of_ble_eq_true rfl), rfl, (Nat.le_of_ble_eq_true rfl), (Nat.le_of_ble_eq_true rfl)⟩ rfl (Nat.le_of_ble_eq_true rfl) (c_m_saf hc r hr) ?_
  rintro _ _ ⟨rfl, rfl⟩
  refine ⟨_, rfl, ?_⟩
  refine w_iaddN (x := (4 * r)) (y := b) rfl rfl eb ?_
  refine w_istore_n rfl (Nat.le_of_ble_eq_true rfl) ?_
  refine w_aload_n rfl rfl ?_
  refine w_getfield rfl (mset_ob hc) rfl ?_
  refine w_iload_n rfl rfl ?_
  refine w_mil (k := 16) (j := ((4 * r) + b)) rfl hc (by decide) rfl ⟨show ((4 * r) + b) < 16 from by omega, by decide⟩ ?_
  refine w_istore_n rfl (Nat.le_of_ble_eq_true rfl) ?_
  refine w_iload_n rfl rfl ?_
  refine w_istore rfl (Nat.le_of_ble_eq_true rfl) ?_
  refine w_aload_n rfl rfl ?_
  refine w_getfield rfl (mset_ob hc) rfl ?_
  refine w_iload_n rfl rfl ?_
  refine w_mll (k := 15) (j := ((4 * r) + b)) rfl hc (by decide) rfl ⟨show ((4 * r) + b) < 16 from by omega, by decide⟩ ?_
  refine w_iload rfl rfl ?_
  refine w_static rfl (by decide) rfl ⟨(Nat.le_of_ble_eq_true rfl), (Nat.le_of_ble_eq_true rfl), (Nat.le_of_ble_eq_true rfl)⟩ rfl (Nat.le_of_ble_eq_true rfl) (c_m_begin _ _) ?_
  rintro _ _ ⟨rfl, rfl⟩
  refine ⟨_, rfl, ?_⟩
  refine w_lstore rfl (Nat.le_of_ble_eq_true rfl) ?_
  refine w_aload_n rfl rfl ?_
  refine w_iload_n rfl rfl ?_
  refine w_lload rfl rfl ?_
  refine w_iload rfl rfl ?_
  refine w_virtual rfl rfl (mset_ob hc) ⟨(Nat.le_of_ble_eq_true rfl), rfl, (Nat.le_of_ble_eq_true rfl), (Nat.le_of_ble_eq_true rfl)⟩ rfl (Nat.le_of_ble_eq_true rfl) (c_m_next hc r hr _ _) ?_
  rintro _ _ ⟨rfl, rfl⟩
  refine ⟨_, rfl, ?_⟩
  refine w_istore rfl (Nat.le_of_ble_eq_true rfl) ?_
  rw [ek, ef]
  refine l_m_gr hc r hr (nI f) HN 12 _ f _ (by omega) (fun lv e0 e1 e3 e4 e5 => ?_) rfl rfl rfl rfl rfl rfl
  rw [← ef] at e3
  have eg : gr s r 12 (m_begin (s.2 15 (4 * r + b)) (nI f)) f = nwG s r := by rw [nwG, ef, hbe, nI_clamp (by omega)]
  rw [eg] at e4 e5
  refine w_iconst (v := 0) rfl (by decide) ?_
  refine w_istore rfl (Nat.le_of_ble_eq_true rfl) ?_
  refine l_m_rw hc r hr _ _ _ hm h6 (fun lv e0 e1 e3 e4 e5 => ?_) 4 0 _ (by omega) (ld_s1 (by decide) e0 (fun _ => rfl)) (ld_s1 (by decide) e1 (fun _ => rfl)) (ld_s1 (by decide) e3 (fun _ => rfl)) (ld_s1 (by decide) e4 (fun _ => rfl)) (ld_s1 (by decide) e5 (fun e => absurd e (by decide))) ld_self
  obtain ⟨m', h6', hm'⟩ := rwN_m hm h6 r (nwG s r).1 (nI (nwG s r).2) (s.1 16 (nwB s r)) 4
  refine w_aload_n rfl e0 ?_
  refine w_iload_n rfl e1 ?_
  refine w_aload_n rfl e0 ?_
  refine w_getfield rfl (mset_ob hc) rfl ?_
  refine w_iload_n rfl e1 ?_
  refine w_mil (k := 6) (j := r) rfl hc (by decide) rfl ⟨show r < 4 from by omega, by decide⟩ ?_
  refine w_lload rfl e5 ?_
  refine w_iload rfl e4 ?_
  refine w_iload_n rfl e3 ?_
  refine w_virtual rfl rfl (mset_ob hc) ⟨(Nat.le_of_ble_eq_true rfl), rfl, (Nat.le_of_ble_eq_true rfl), (Nat.le_of_ble_eq_true rfl)⟩ rfl (Nat.le_of_ble_eq_true rfl) (c_m_turn hc r hr _ _ _ hn2 _ hrow (hky.fr (fr_rw 4)) hm' h6') ?_
  rintro _ _ ⟨rfl, rfl⟩
  refine ⟨_, rfl, ?_⟩
  exact w_return rfl rfl ⟨(by first | rfl | (simp only [if_true, if_false, and_true, true_and, and_false, false_and, or_true, true_or, or_false, false_or, not_true_eq_false, not_false_eq_true, ite_self]; done) | (simp only [if_true, if_false, and_true, true_and, and_false, false_and, or_true, true_or, or_false, false_or, not_true_eq_false, not_false_eq_true, ite_self]; rfl)), (by first | rfl | (simp only [if_true, if_false, and_true, true_and, and_false, false_and, or_true, true_or, or_false, false_or, not_true_eq_false, not_false_eq_true, ite_self]; done) | (simp only [if_true, if_false, and_true, true_and, and_false, false_and, or_true, true_or, or_false, false_or, not_true_eq_false, not_false_eq_true, ite_self]; rfl))⟩
