-- deps: 31.base
/-! THE REFERENCE, its small methods -/
def m_at (r : Int64) (k : Int32) : Int32 := ((r >>> ((4 * k).toInt64 &&& 63)) &&& 15).toInt32
def m_with (r : Int64) (n q : Int32) : Int64 := (r &&& ((1 <<< ((4 * n).toInt64 &&& 63)) - 1)) ||| (q.toInt64 <<< ((4 * n).toInt64 &&& 63))
def m_begin (r : Int64) (n : Int32) : Int64 := r &&& ((1 <<< ((4 * n).toInt64 &&& 63)) - 1)
def b01 (p : Prop) [Decidable p] : Int32 := if p then 1 else 0
theorem b01_f {p : Prop} [Decidable p] (h : b01 p = 0) : ¬ p := fun hp => by rw [b01, if_pos hp] at h; exact absurd h (by decide)
theorem b01_t {p : Prop} [Decidable p] (h : ¬ b01 p = 0) : p := Decidable.byContradiction (fun hp => h (by rw [b01, if_neg hp]))
theorem b01_01 {p : Prop} [Decidable p] : b01 p = 0 ∨ b01 p = 1 := by unfold b01; split <;> simp
def rm4 (x : Int32) : Int32 := x - x / 4 * 4
theorem w_irem4 {sc : pm_Sc} {i pc len : Nat} {lv : pm_L} {r : List Value} {h : pm_H} {Q : (Option Value ⊕ Nat) → pm_H → Prop} {x : Int32} (ha : pm_at i pc = some (.irem, len, [])) (k : pw sc i (pc + 1, lv, .int (rm4 x) :: r, h) Q) : pw sc i (pc, lv, .int 4 :: .int x :: r, h) Q := w_irem ha (by decide) k
def digN (r : Int64) : Nat → Int32
  | 0 => 7
  | n + 1 => 31 * digN r n + m_at r (nI n) + 1
def plN (r : Int64) (q : Int32) : Nat → Int32
  | 0 => 0
  | n + 1 => if m_at r (nI n) = q then nI (n + 1) else plN r q n
def bitN (x : Int32) : Nat → Int32
  | 0 => 0
  | n + 1 => bitN x n + ((x >>> (nI n &&& 31)) &&& 1)
set_option maxRecDepth 100000 in
set_option maxHeartbeats 400000 in
theorem c_m_at {sc : pm_Sc} {h : pm_H} (r : Int64) (k : Int32) : pu sc 75 [.long r, .int k] h (pz (some (.int (m_at r k))) h) := by
  refine w_lload_n rfl rfl ?_
  refine w_iconst (v := 4) rfl (by decide) ?_
  refine w_iload_n rfl rfl ?_
  refine w_imul rfl ?_
  refine w_lshr rfl ?_
  refine w_ldc2_w (v := 15) rfl (by decide) ?_
  refine w_land rfl ?_
  refine w_l2i rfl ?_
  exact w_ireturn rfl (by first | exact Or.inl rfl | exact Or.inr ⟨rfl, Or.inl rfl⟩ | exact Or.inr ⟨rfl, Or.inr rfl⟩ | exact Or.inr ⟨rfl, by assumption⟩) ⟨(by first | rfl | (simp only [if_true, if_false, and_true, true_and, and_false, false_and, or_true, true_or, or_false, false_or, not_true_eq_false, not_false_eq_true, ite_self]; done) | (simp only [if_true, if_false, and_true, true_and, and_false, false_and, or_true, true_or, or_false, false_or, not_true_eq_false, not_false_eq_true, ite_self]; rfl)), (by first | rfl | (simp only [if_true, if_false, and_true, true_and, and_false, false_and, or_true, true_or, or_false, false_or, not_true_eq_false, not_false_eq_true, ite_self]; done) | (simp only [if_true, if_false, and_true, true_and, and_false, false_and, or_true, true_or, or_false, false_or, not_true_eq_false, not_false_eq_true, ite_self]; rfl))⟩
set_option maxRecDepth 100000 in
set_option maxHeartbeats 400000 in
theorem c_m_with {sc : pm_Sc} {h : pm_H} (r : Int64) (n q : Int32) : pu sc 76 [.long r, .int n, .int q] h (pz (some (.long (m_with r n q))) h) := by
  refine w_lload_n rfl rfl ?_
  refine w_lconst (v := 1) rfl (by decide) ?_
  refine w_iconst (v := 4) rfl (by decide) ?_
  refine w_iload_n rfl rfl ?_
  refine w_imul rfl ?_
  refine w_lshl rfl ?_
  refine w_lconst (v := 1) rfl (by decide) ?_
  refine w_lsub rfl ?_
  refine w_land rfl ?_
  refine w_iload_n rfl rfl ?_
  refine w_i2l rfl ?_
  refine w_iconst (v := 4) rfl (by decide) ?_
  refine w_iload_n rfl rfl ?_
  refine w_imul rfl ?_
  refine w_lshl rfl ?_
  refine w_lor rfl ?_
  exact w_lreturn rfl rfl ⟨(by first | rfl | (simp only [if_true, if_false, and_true, true_and, and_false, false_and, or_true, true_or, or_false, false_or, not_true_eq_false, not_false_eq_true, ite_self]; done) | (simp only [if_true, if_false, and_true, true_and, and_false, false_and, or_true, true_or, or_false, false_or, not_true_eq_false, not_false_eq_true, ite_self]; rfl)), (by first | rfl | (simp only [if_true, if_false, and_true, true_and, and_false, false_and, or_true, true_or, or_false, false_or, not_true_eq_false, not_false_eq_true, ite_self]; done) | (simp only [if_true, if_false, and_true, true_and, and_false, false_and, or_true, true_or, or_false, false_or, not_true_eq_false, not_false_eq_true, ite_self]; rfl))⟩
set_option maxRecDepth 100000 in
set_option maxHeartbeats 400000 in
theorem c_m_begin {sc : pm_Sc} {h : pm_H} (r : Int64) (n : Int32) : pu sc 77 [.long r, .int n] h (pz (some (.long (m_begin r n))) h) := by
  refine w_lload_n rfl rfl ?_
  refine w_lconst (v := 1) rfl (by decide) ?_
  refine w_iconst (v := 4) rfl (by decide) ?_
  refine w_iload_n rfl rfl ?_
  refine w_imul rfl ?_
  refine w_lshl rfl ?_
  refine w_lconst (v := 1) rfl (by decide) ?_
  refine w_lsub rfl ?_
  refine w_land rfl ?_
  exact w_lreturn rfl rfl ⟨(by first | rfl | (simp only [if_true, if_false, and_true, true_and, and_false, false_and, or_true, true_or, or_false, false_or, not_true_eq_false, not_false_eq_true, ite_self]; done) | (simp only [if_true, if_false, and_true, true_and, and_false, false_and, or_true, true_or, or_false, false_or, not_true_eq_false, not_false_eq_true, ite_self]; rfl)), (by first | rfl | (simp only [if_true, if_false, and_true, true_and, and_false, false_and, or_true, true_or, or_false, false_or, not_true_eq_false, not_false_eq_true, ite_self]; done) | (simp only [if_true, if_false, and_true, true_and, and_false, false_and, or_true, true_or, or_false, false_or, not_true_eq_false, not_false_eq_true, ite_self]; rfl))⟩
set_option maxRecDepth 100000 in
set_option maxHeartbeats 400000 in
theorem c_m_isRep {sc : pm_Sc} {h : pm_H} (x : Int32) : pu sc 114 [.int x] h (pz (some (.int (b01 (¬ x < 0 ∧ ¬ 3 < x)))) h) := by
  refine w_iload_n rfl rfl ?_
  refine w_ifCond_lt rfl rfl (fun c1 => ?_) (fun c1 => ?_)
  · refine w_iconst (v := 0) rfl (by decide) ?_
    exact w_ireturn rfl (by first | exact Or.inl rfl | exact Or.inr ⟨rfl, Or.inl rfl⟩ | exact Or.inr ⟨rfl, Or.inr rfl⟩ | exact Or.inr ⟨rfl, by assumption⟩) ⟨(by first | (simp only [b01, c1, if_true, if_false, and_true, true_and, and_false, false_and, or_true, true_or, or_false, false_or, not_true_eq_false, not_false_eq_true, ite_self]; done) | (simp only [b01, c1, if_true, if_false, and_true, true_and, and_false, false_and, or_true, true_or, or_false, false_or, not_true_eq_false, not_false_eq_true, ite_self]; rfl) | rfl), (by first | (simp only [b01, c1, if_true, if_false, and_true, true_and, and_false, false_and, or_true, true_or, or_false, false_or, not_true_eq_false, not_false_eq_true, ite_self]; done) | (simp only [b01, c1, if_true, if_false, and_true, true_and, and_false, false_and, or_true, true_or, or_false, false_or, not_true_eq_false, not_false_eq_true, ite_self]; rfl) | rfl)⟩
  · refine w_iload_n rfl rfl ?_
    refine w_iconst (v := 3) rfl (by decide) ?_
    refine w_if_icmp_gt rfl rfl (fun c6 => ?_) (fun c6 => ?_)
    · refine w_iconst (v := 0) rfl (by decide) ?_
      exact w_ireturn rfl (by first | exact Or.inl rfl | exact Or.inr ⟨rfl, Or.inl rfl⟩ | exact Or.inr ⟨rfl, Or.inr rfl⟩ | exact Or.inr ⟨rfl, by assumption⟩) ⟨(by first | (simp only [b01, c1, c6, if_true, if_false, and_true, true_and, and_false, false_and, or_true, true_or, or_false, false_or, not_true_eq_false, not_false_eq_true, ite_self]; done) | (simp only [b01, c1, c6, if_true, if_false, and_true, true_and, and_false, false_and, or_true, true_or, or_false, false_or, not_true_eq_false, not_false_eq_true, ite_self]; rfl) | rfl), (by first | (simp only [b01, c1, c6, if_true, if_false, and_true, true_and, and_false, false_and, or_true, true_or, or_false, false_or, not_true_eq_false, not_false_eq_true, ite_self]; done) | (simp only [b01, c1, c6, if_true, if_false, and_true, true_and, and_false, false_and, or_true, true_or, or_false, false_or, not_true_eq_false, not_false_eq_true, ite_self]; rfl) | rfl)⟩
    · refine w_iconst (v := 1) rfl (by decide) ?_
      refine w_goto rfl rfl ?_
      exact w_ireturn rfl (by first | exact Or.inl rfl | exact Or.inr ⟨rfl, Or.inl rfl⟩ | exact Or.inr ⟨rfl, Or.inr rfl⟩ | exact Or.inr ⟨rfl, by assumption⟩) ⟨(by first | (simp only [b01, c1, c6, if_true, if_false, and_true, true_and, and_false, false_and, or_true, true_or, or_false, false_or, not_true_eq_false, not_false_eq_true, ite_self]; done) | (simp only [b01, c1, c6, if_true, if_false, and_true, true_and, and_false, false_and, or_true, true_or, or_false, false_or, not_true_eq_false, not_false_eq_true, ite_self]; rfl) | rfl), (by first | (simp only [b01, c1, c6, if_true, if_false, and_true, true_and, and_false, false_and, or_true, true_or, or_false, false_or, not_true_eq_false, not_false_eq_true, ite_self]; done) | (simp only [b01, c1, c6, if_true, if_false, and_true, true_and, and_false, false_and, or_true, true_or, or_false, false_or, not_true_eq_false, not_false_eq_true, ite_self]; rfl) | rfl)⟩
set_option maxRecDepth 100000 in
set_option maxHeartbeats 400000 in
theorem l_m_dig {sc : pm_Sc} {h : pm_H} (r : Int64) (n : Nat) (hn : n < 2 ^ 31) : ∀ (d k : Nat) (lv : pm_L), k + d = n → pm_ld lv 0 = some (.long r) → pm_ld lv 2 = some (.int (nI n)) → pm_ld lv 3 = some (.int (digN r k)) → pm_ld lv 4 = some (.int (nI k)) → pw sc 78 (6, lv, [], h) (pz (some (.int (digN r n))) h) := by
  intro d
  induction d with
  | zero =>
    intro k lv hk g0 g2 g3 g4
    obtain rfl : n = k := by omega
    refine w_iload rfl g4 ?_
    refine w_iload_n rfl g2 ?_
    refine w_if_icmp_ge rfl rfl (fun c9 => ?_) (fun c9 => ?_)
    · refine w_iload_n rfl g3 ?_
      exact w_ireturn rfl (by first | exact Or.inl rfl | exact Or.inr ⟨rfl, Or.inl rfl⟩ | exact Or.inr ⟨rfl, Or.inr rfl⟩ | exact Or.inr ⟨rfl, by assumption⟩) ⟨(by first | rfl | (simp only [c9, if_true, if_false, and_true, true_and, and_false, false_and, or_true, true_or, or_false, false_or, not_true_eq_false, not_false_eq_true, ite_self]; done) | (simp only [c9, if_true, if_false, and_true, true_and, and_false, false_and, or_true, true_or, or_false, false_or, not_true_eq_false, not_false_eq_true, ite_self]; rfl)), (by first | rfl | (simp only [c9, if_true, if_false, and_true, true_and, and_false, false_and, or_true, true_or, or_false, false_or, not_true_eq_false, not_false_eq_true, ite_self]; done) | (simp only [c9, if_true, if_false, and_true, true_and, and_false, false_and, or_true, true_or, or_false, false_or, not_true_eq_false, not_false_eq_true, ite_self]; rfl))⟩
    · exact absurd (nI_le (a := n) (b := n) (Nat.le_refl _) (by omega)) c9
  | succ d ih =>
    intro k lv hk g0 g2 g3 g4
    refine w_iload rfl g4 ?_
    refine w_iload_n rfl g2 ?_
    refine w_if_icmp_ge rfl rfl (fun c9 => ?_) (fun c9 => ?_)
    · exact absurd c9 (nI_ge (a := k) (b := n) (by omega) (by omega))
    · refine w_bipush (v := 31) rfl (by decide) ?_
      refine w_iload_n rfl g3 ?_
      refine w_imul rfl ?_
      refine w_lload_n rfl g0 ?_
      refine w_iload rfl g4 ?_
      refine w_static rfl (by decide) rfl ⟨(Nat.le_of_ble_eq_true rfl), (Nat.le_of_ble_eq_true rfl), (Nat.le_of_ble_eq_true rfl)⟩ rfl (Nat.le_of_ble_eq_true rfl) (c_m_at r (nI k)) ?_
      rintro _ _ ⟨rfl, rfl⟩
      refine ⟨_, rfl, ?_⟩
      refine w_iadd rfl ?_
      refine w_iconst (v := 1) rfl (by decide) ?_
      refine w_iadd rfl ?_
      refine w_istore_n rfl (Nat.le_of_ble_eq_true rfl) ?_
      refine w_iincN (j := k) rfl rfl (ld_s1 (by decide) g4 (fun _ => rfl)) (Nat.le_of_ble_eq_true rfl) ?_
      refine w_goto rfl rfl ?_
      exact ih (k + 1) _ (by omega) (ld_s1 (by decide) (ld_s1 (by decide) g0 (fun e => absurd e (by decide))) (fun e => absurd e (by decide))) (ld_s1 (by decide) (ld_s1 (by decide) g2 (fun _ => rfl)) (fun _ => rfl)) (ld_s1 (by decide) ld_self (fun _ => rfl)) ld_self
set_option maxRecDepth 100000 in
set_option maxHeartbeats 400000 in
theorem c_m_dig {sc : pm_Sc} {h : pm_H} (r : Int64) (n : Nat) (hn : n < 2 ^ 31) : pu sc 78 [.long r, .int (nI n)] h (pz (some (.int (digN r n))) h) := by
  refine w_bipush (v := 7) rfl (by decide) ?_
  refine w_istore_n rfl (Nat.le_of_ble_eq_true rfl) ?_
  refine w_iconst (v := 0) rfl (by decide) ?_
  refine w_istore rfl (Nat.le_of_ble_eq_true rfl) ?_
  exact l_m_dig r n hn n 0 _ (by omega) rfl rfl rfl rfl
set_option maxRecDepth 100000 in
set_option maxHeartbeats 400000 in
theorem l_m_pl {sc : pm_Sc} {h : pm_H} (r : Int64) (q : Int32) (n : Nat) (hn : n < 2 ^ 31) : ∀ (d k : Nat) (lv : pm_L), k + d = n → pm_ld lv 0 = some (.long r) → pm_ld lv 2 = some (.int (nI n)) → pm_ld lv 3 = some (.int q) → pm_ld lv 4 = some (.int (plN r q k)) → pm_ld lv 5 = some (.int (nI k)) → pw sc 79 (6, lv, [], h) (pz (some (.int (plN r q n))) h) := by
  intro d
  induction d with
  | zero =>
    intro k lv hk g0 g2 g3 g4 g5
    obtain rfl : n = k := by omega
    refine w_iload rfl g5 ?_
    refine w_iload_n rfl g2 ?_
    refine w_if_icmp_ge rfl rfl (fun c9 => ?_) (fun c9 => ?_)
    · refine w_iload rfl g4 ?_
      exact w_ireturn rfl (by first | exact Or.inl rfl | exact Or.inr ⟨rfl, Or.inl rfl⟩ | exact Or.inr ⟨rfl, Or.inr rfl⟩ | exact Or.inr ⟨rfl, by assumption⟩) ⟨(by first | rfl | (simp only [c9, if_true, if_false, and_true, true_and, and_false, false_and, or_true, true_or, or_false, false_or, not_true_eq_false, not_false_eq_true, ite_self]; done) | (simp only [c9, if_true, if_false, and_true, true_and, and_false, false_and, or_true, true_or, or_false, false_or, not_true_eq_false, not_false_eq_true, ite_self]; rfl)), (by first | rfl | (simp only [c9, if_true, if_false, and_true, true_and, and_false, false_and, or_true, true_or, or_false, false_or, not_true_eq_false, not_false_eq_true, ite_self]; done) | (simp only [c9, if_true, if_false, and_true, true_and, and_false, false_and, or_true, true_or, or_false, false_or, not_true_eq_false, not_false_eq_true, ite_self]; rfl))⟩
    · exact absurd (nI_le (a := n) (b := n) (Nat.le_refl _) (by omega)) c9
  | succ d ih =>
    intro k lv hk g0 g2 g3 g4 g5
    refine w_iload rfl g5 ?_
    refine w_iload_n rfl g2 ?_
    refine w_if_icmp_ge rfl rfl (fun c9 => ?_) (fun c9 => ?_)
    · exact absurd c9 (nI_ge (a := k) (b := n) (by omega) (by omega))
    · refine w_lload_n rfl g0 ?_
      refine w_iload rfl g5 ?_
      refine w_static rfl (by decide) rfl ⟨(Nat.le_of_ble_eq_true rfl), (Nat.le_of_ble_eq_true rfl), (Nat.le_of_ble_eq_true rfl)⟩ rfl (Nat.le_of_ble_eq_true rfl) (c_m_at r (nI k)) ?_
      rintro _ _ ⟨rfl, rfl⟩
      refine ⟨_, rfl, ?_⟩
      refine w_iload_n rfl g3 ?_
      refine w_if_icmp_ne rfl rfl (fun c19 => ?_) (fun c19 => ?_)
      · refine w_iload rfl g4 ?_
        have e31 : plN r q (k + 1) = (if m_at r (nI k) = q then nI (k + 1) else plN r q k) := rfl
        simp only [c19, if_true, if_false] at e31
        rw [← e31]
        refine w_istore rfl (Nat.le_of_ble_eq_true rfl) ?_
        refine w_iincN (j := k) rfl rfl (ld_s1 (by decide) g5 (fun _ => rfl)) (Nat.le_of_ble_eq_true rfl) ?_
        refine w_goto rfl rfl ?_
        exact ih (k + 1) _ (by omega) (ld_s1 (by decide) (ld_s1 (by decide) g0 (fun e => absurd e (by decide))) (fun e => absurd e (by decide))) (ld_s1 (by decide) (ld_s1 (by decide) g2 (fun _ => rfl)) (fun _ => rfl)) (ld_s1 (by decide) (ld_s1 (by decide) g3 (fun _ => rfl)) (fun _ => rfl)) (ld_s1 (by decide) ld_self (fun _ => rfl)) ld_self
      · refine w_iload rfl g5 ?_
        refine w_iconst (v := 1) rfl (by decide) ?_
        refine w_iaddN (x := k) (y := 1) rfl rfl rfl ?_
        refine w_goto rfl rfl ?_
        have e31 : plN r q (k + 1) = (if m_at r (nI k) = q then nI (k + 1) else plN r q k) := rfl
        simp only [c19, if_true, if_false] at e31
        rw [← e31]
        refine w_istore rfl (Nat.le_of_ble_eq_true rfl) ?_
        refine w_iincN (j := k) rfl rfl (ld_s1 (by decide) g5 (fun _ => rfl)) (Nat.le_of_ble_eq_true rfl) ?_
        refine w_goto rfl rfl ?_
        exact ih (k + 1) _ (by omega) (ld_s1 (by decide) (ld_s1 (by decide) g0 (fun e => absurd e (by decide))) (fun e => absurd e (by decide))) (ld_s1 (by decide) (ld_s1 (by decide) g2 (fun _ => rfl)) (fun _ => rfl)) (ld_s1 (by decide) (ld_s1 (by decide) g3 (fun _ => rfl)) (fun _ => rfl)) (ld_s1 (by decide) ld_self (fun _ => rfl)) ld_self
set_option maxRecDepth 100000 in
set_option maxHeartbeats 400000 in
theorem c_m_pl {sc : pm_Sc} {h : pm_H} (r : Int64) (q : Int32) (n : Nat) (hn : n < 2 ^ 31) : pu sc 79 [.long r, .int (nI n), .int q] h (pz (some (.int (plN r q n))) h) := by
  refine w_iconst (v := 0) rfl (by decide) ?_
  refine w_istore rfl (Nat.le_of_ble_eq_true rfl) ?_
  refine w_iconst (v := 0) rfl (by decide) ?_
  refine w_istore rfl (Nat.le_of_ble_eq_true rfl) ?_
  exact l_m_pl r q n hn n 0 _ (by omega) rfl rfl rfl rfl rfl
set_option maxRecDepth 100000 in
set_option maxHeartbeats 400000 in
theorem l_m_bit {sc : pm_Sc} {h : pm_H} (x : Int32) : ∀ (d k : Nat) (lv : pm_L), k + d = 4 → pm_ld lv 0 = some (.int x) → pm_ld lv 1 = some (.int (bitN x k)) → pm_ld lv 2 = some (.int (nI k)) → pw sc 91 (4, lv, [], h) (pz (some (.int (bitN x 4))) h) := by
  intro d
  induction d with
  | zero =>
    intro k lv hk g0 g1 g2
    obtain rfl : 4 = k := by omega
    refine w_iload_n rfl g2 ?_
    refine w_iconst (v := 4) rfl (by decide) ?_
    refine w_if_icmp_ge rfl rfl (fun c6 => ?_) (fun c6 => ?_)
    · refine w_iload_n rfl g1 ?_
      exact w_ireturn rfl (by first | exact Or.inl rfl | exact Or.inr ⟨rfl, Or.inl rfl⟩ | exact Or.inr ⟨rfl, Or.inr rfl⟩ | exact Or.inr ⟨rfl, by assumption⟩) ⟨(by first | rfl | (simp only [c6, if_true, if_false, and_true, true_and, and_false, false_and, or_true, true_or, or_false, false_or, not_true_eq_false, not_false_eq_true, ite_self]; done) | (simp only [c6, if_true, if_false, and_true, true_and, and_false, false_and, or_true, true_or, or_false, false_or, not_true_eq_false, not_false_eq_true, ite_self]; rfl)), (by first | rfl | (simp only [c6, if_true, if_false, and_true, true_and, and_false, false_and, or_true, true_or, or_false, false_or, not_true_eq_false, not_false_eq_true, ite_self]; done) | (simp only [c6, if_true, if_false, and_true, true_and, and_false, false_and, or_true, true_or, or_false, false_or, not_true_eq_false, not_false_eq_true, ite_self]; rfl))⟩
    · exact absurd (nI_le (a := 4) (b := 4) (Nat.le_refl _) (by omega)) c6
  | succ d ih =>
    intro k lv hk g0 g1 g2
    refine w_iload_n rfl g2 ?_
    refine w_iconst (v := 4) rfl (by decide) ?_
    refine w_if_icmp_ge rfl rfl (fun c6 => ?_) (fun c6 => ?_)
    · exact absurd c6 (nI_ge (a := k) (b := 4) (by omega) (by omega))
    · refine w_iload_n rfl g1 ?_
      refine w_iload_n rfl g0 ?_
      refine w_iload_n rfl g2 ?_
      refine w_ishr rfl ?_
      refine w_iconst (v := 1) rfl (by decide) ?_
      refine w_iand rfl ?_
      refine w_iadd rfl ?_
      refine w_istore_n rfl (Nat.le_of_ble_eq_true rfl) ?_
      refine w_iincN (j := k) rfl rfl (ld_s1 (by decide) g2 (fun _ => rfl)) (Nat.le_of_ble_eq_true rfl) ?_
      refine w_goto rfl rfl ?_
      exact ih (k + 1) _ (by omega) (ld_s1 (by decide) (ld_s1 (by decide) g0 (fun _ => rfl)) (fun _ => rfl)) (ld_s1 (by decide) ld_self (fun _ => rfl)) ld_self
set_option maxRecDepth 100000 in
set_option maxHeartbeats 400000 in
theorem c_m_bit {sc : pm_Sc} {h : pm_H} (x : Int32) : pu sc 91 [.int x] h (pz (some (.int (bitN x 4))) h) := by
  refine w_iconst (v := 0) rfl (by decide) ?_
  refine w_istore_n rfl (Nat.le_of_ble_eq_true rfl) ?_
  refine w_iconst (v := 0) rfl (by decide) ?_
  refine w_istore_n rfl (Nat.le_of_ble_eq_true rfl) ?_
  exact l_m_bit x 4 0 _ (by omega) rfl rfl rfl
