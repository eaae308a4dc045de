-- deps: 67.d3
/-! the law's loop -/
theorem and15 (x : Int32) : ∃ n, n < 16 ∧ x &&& 15 = nI n := by
  refine ⟨(x.toBitVec &&& 15#32).toNat, ?_, ?_⟩
  · rw [BitVec.toNat_and]; exact Nat.lt_of_le_of_lt Nat.and_le_right (by decide)
  · apply Int32.toBitVec_inj.mp
    rw [Int32.toBitVec_and]
    show x.toBitVec &&& 15#32 = BitVec.ofNat 32 (x.toBitVec &&& 15#32).toNat
    rw [BitVec.ofNat_toNat, BitVec.setWidth_eq]
theorem ls_mono {s : MS} {c : CX} {t n : Nat} (h : LSt s c t n) : LSt s c t (n + 1) := by
  obtain ⟨h1, h2, h3, h4, h5, h6, h7⟩ := h
  exact ⟨h1, by omega, h3, h4, h5, by omega, by omega⟩
def QL : (Option Value ⊕ Nat) → pm_H → Prop := fun y h => y = .inl (some (.int 1)) ∧ h.2.1 ≤ 400000 ∧ h.2.2 ≤ 5000000
theorem ql {s : MS} {c : CX} {t n : Nat} (h : LSt s c t n) (hn : n ≤ 512) : QL (.inl (some (.int 1))) (hx c) := by
  obtain ⟨-, -, -, -, -, h6, h7⟩ := h
  have := dlN_le s 600
  refine ⟨rfl, ?_, ?_⟩
  · show c.2.2.2.1 ≤ 400000
    omega
  · show c.2.2.2.2 ≤ 5000000
    omega
set_option maxRecDepth 100000 in
set_option maxHeartbeats 4000000 in
theorem l_law {sc : pm_Sc} (hL : sc.1 ≤ 2049) : ∀ (d n : Nat) (s : MS) (c : CX) (t : Nat), sc.1 ≤ 1 + 4 * n + 4 * d → n ≤ 512 → LSt s c t n → ∀ lv, pm_ld lv 0 = some (.retAddr 0) → pm_ld lv 1 = some (.ref 0) → pm_ld lv 2 = some (.ref 31) → pm_ld lv 3 = some (.ref 73) → pm_ld lv 4 = some (.int (nI (1 + 4 * n))) → pw sc 136 (33, lv, [], hx c) QL := by
  have hexit : ∀ (n : Nat), sc.1 < 1 + 4 * n + 4 → n ≤ 512 → Int32.ofNat sc.1 - 4 < nI (1 + 4 * n) := fun n h1 h2 => by
    rcases Nat.lt_or_ge sc.1 4 with z | z
    · have e : ∀ m, m < 4 → Int32.ofNat m - 4 < 0 := by decide
      exact Int32.lt_of_lt_of_le (e sc.1 z) (Int32.not_lt.mp (nI_pos (by omega)))
    · have e : Int32.ofNat sc.1 - 4 = nI (sc.1 - 4) := by
        have e1 : nI (sc.1 - 4) + nI 4 = nI sc.1 := by rw [nI_add, show sc.1 - 4 + 4 = sc.1 by omega]
        have e2 : nI sc.1 - nI 4 = nI (sc.1 - 4) := by rw [← e1, Int32.add_sub_cancel]
        exact e2
      rw [e]
      exact nI_lt (by omega) (by omega)
  intro d
  induction d with
  | zero =>
    intro n s c t hd hn h lv g0 g1 g2 g3 g4
    have hex := hexit n (by omega) hn
    refine w_iload rfl g4 ?_
    refine w_aload_nS rfl g0 ?_
    refine w_slen rfl ?_
    refine w_iconst (v := 4) rfl (by decide) ?_
    refine w_isub rfl ?_
    refine w_if_icmp_gt rfl rfl (fun c39 => ?_) (fun c39 => ?_)
    · refine w_iconst (v := 1) rfl (by decide) ?_
      exact w_ireturn rfl (Or.inr ⟨rfl, Or.inr rfl⟩) (ql h hn)
    · exact absurd hex c39
  | succ d ih =>
    intro n s c t hd hn h lv g0 g1 g2 g3 g4
    by_cases E : sc.1 < 1 + 4 * n + 4
    · have hex := hexit n E hn
      refine w_iload rfl g4 ?_
      refine w_aload_nS rfl g0 ?_
      refine w_slen rfl ?_
      refine w_iconst (v := 4) rfl (by decide) ?_
      refine w_isub rfl ?_
      refine w_if_icmp_gt rfl rfl (fun c39 => ?_) (fun c39 => ?_)
      · refine w_iconst (v := 1) rfl (by decide) ?_
        exact w_ireturn rfl (Or.inr ⟨rfl, Or.inr rfl⟩) (ql h hn)
      · exact absurd hex c39
    · have hn2 : n < 512 := by omega
      refine w_iload rfl g4 ?_
      refine w_aload_nS rfl g0 ?_
      refine w_slen rfl ?_
      refine w_iconst (v := 4) rfl (by decide) ?_
      refine w_isubN (x := sc.1) (y := 4) rfl rfl rfl (by omega) ?_
      refine w_if_icmp_gt rfl rfl (fun c39 => ?_) (fun c39 => ?_)
      · exact absurd ((nI_ltI (a := sc.1 - 4) (b := 1 + 4 * n) (by omega) (by omega)).mp c39) (by omega)
      · refine w_aload_nS rfl g0 ?_
        refine w_iload rfl g4 ?_
        refine w_sldN (j := (1 + 4 * n)) rfl rfl ⟨by omega, by omega⟩ ?_
        refine w_bipush (v := 15) rfl (by decide) ?_
        refine w_iand rfl ?_
        obtain ⟨m, hm, em⟩ := and15 (sc.2 (1 + 4 * n))
        rw [em]
        have hinc : nI (1 + 4 * n) + Int32.ofInt 4 = nI (1 + 4 * (n + 1)) := by
          rw [show (Int32.ofInt 4) = nI 4 from rfl, nI_add, show 1 + 4 * n + 4 = 1 + 4 * (n + 1) by omega]
        rcases (by omega : m = 0 ∨ m = 1 ∨ m = 2 ∨ m = 3 ∨ m = 4 ∨ m = 5 ∨ m = 6 ∨ m = 7 ∨ m = 8 ∨ m = 9 ∨ m = 10 ∨ m = 11 ∨ m = 12 ∨ m = 13 ∨ m = 14 ∨ m = 15) with rfl | rfl | rfl | rfl | rfl | rfl | rfl | rfl | rfl | rfl | rfl | rfl | rfl | rfl | rfl | rfl
        · refine w_tableIn rfl (by decide) rfl rfl ?_
          obtain ⟨s', c', t', hls, H⟩ := st_issue (sc := sc) h (by omega) (i := 1 + 4 * n) ⟨by omega, by omega⟩
          refine H (fun lv' g0' g1' g2' g3' g4' => ?_) _ g0 g1 g2 g3 g4
          refine w_iinc (v := nI (1 + 4 * (n + 1))) rfl g4' (Nat.le_of_ble_eq_true rfl) hinc ?_
          refine w_goto rfl rfl ?_
          exact ih (n + 1) s' c' t' (by omega) (by omega) hls _ (ld_s1 (by decide) g0' (fun _ => rfl)) (ld_s1 (by decide) g1' (fun _ => rfl)) (ld_s1 (by decide) g2' (fun _ => rfl)) (ld_s1 (by decide) g3' (fun _ => rfl)) ld_self
        · refine w_tableIn rfl (by decide) rfl rfl ?_
          obtain ⟨s', c', t', hls, H⟩ := st_retry (sc := sc) h (by omega) (i := 1 + 4 * n) ⟨by omega, by omega⟩
          refine H (fun lv' g0' g1' g2' g3' g4' => ?_) _ g0 g1 g2 g3 g4
          refine w_iinc (v := nI (1 + 4 * (n + 1))) rfl g4' (Nat.le_of_ble_eq_true rfl) hinc ?_
          refine w_goto rfl rfl ?_
          exact ih (n + 1) s' c' t' (by omega) (by omega) hls _ (ld_s1 (by decide) g0' (fun _ => rfl)) (ld_s1 (by decide) g1' (fun _ => rfl)) (ld_s1 (by decide) g2' (fun _ => rfl)) (ld_s1 (by decide) g3' (fun _ => rfl)) ld_self
        · refine w_tableIn rfl (by decide) rfl rfl ?_
          obtain ⟨s', c', t', hls, H⟩ := st_deliver (sc := sc) h (by omega) (i := 1 + 4 * n) ⟨by omega, by omega⟩
          refine H (fun lv' g0' g1' g2' g3' g4' => ?_) _ g0 g1 g2 g3 g4
          refine w_iinc (v := nI (1 + 4 * (n + 1))) rfl g4' (Nat.le_of_ble_eq_true rfl) hinc ?_
          refine w_goto rfl rfl ?_
          exact ih (n + 1) s' c' t' (by omega) (by omega) hls _ (ld_s1 (by decide) g0' (fun _ => rfl)) (ld_s1 (by decide) g1' (fun _ => rfl)) (ld_s1 (by decide) g2' (fun _ => rfl)) (ld_s1 (by decide) g3' (fun _ => rfl)) ld_self
        · refine w_tableIn rfl (by decide) rfl rfl ?_
          obtain ⟨s', c', t', hls, H⟩ := st_flood (sc := sc) h (by omega) (i := 1 + 4 * n) ⟨by omega, by omega⟩
          refine H (fun lv' g0' g1' g2' g3' g4' => ?_) _ g0 g1 g2 g3 g4
          refine w_iinc (v := nI (1 + 4 * (n + 1))) rfl g4' (Nat.le_of_ble_eq_true rfl) hinc ?_
          refine w_goto rfl rfl ?_
          exact ih (n + 1) s' c' t' (by omega) (by omega) hls _ (ld_s1 (by decide) g0' (fun _ => rfl)) (ld_s1 (by decide) g1' (fun _ => rfl)) (ld_s1 (by decide) g2' (fun _ => rfl)) (ld_s1 (by decide) g3' (fun _ => rfl)) ld_self
        · refine w_tableIn rfl (by decide) rfl rfl ?_
          obtain ⟨s', c', t', hls, H⟩ := st_lose (sc := sc) h (by omega) (i := 1 + 4 * n) ⟨by omega, by omega⟩
          refine H (fun lv' g0' g1' g2' g3' g4' => ?_) _ g0 g1 g2 g3 g4
          refine w_iinc (v := nI (1 + 4 * (n + 1))) rfl g4' (Nat.le_of_ble_eq_true rfl) hinc ?_
          refine w_goto rfl rfl ?_
          exact ih (n + 1) s' c' t' (by omega) (by omega) hls _ (ld_s1 (by decide) g0' (fun _ => rfl)) (ld_s1 (by decide) g1' (fun _ => rfl)) (ld_s1 (by decide) g2' (fun _ => rfl)) (ld_s1 (by decide) g3' (fun _ => rfl)) ld_self
        · refine w_tableIn rfl (by decide) rfl rfl ?_
          obtain ⟨s', c', t', hls, H⟩ := st_patience (sc := sc) h (by omega) (i := 1 + 4 * n) ⟨by omega, by omega⟩
          refine H (fun lv' g0' g1' g2' g3' g4' => ?_) _ g0 g1 g2 g3 g4
          refine w_iinc (v := nI (1 + 4 * (n + 1))) rfl g4' (Nat.le_of_ble_eq_true rfl) hinc ?_
          refine w_goto rfl rfl ?_
          exact ih (n + 1) s' c' t' (by omega) (by omega) hls _ (ld_s1 (by decide) g0' (fun _ => rfl)) (ld_s1 (by decide) g1' (fun _ => rfl)) (ld_s1 (by decide) g2' (fun _ => rfl)) (ld_s1 (by decide) g3' (fun _ => rfl)) ld_self
        · refine w_tableIn rfl (by decide) rfl rfl ?_
          obtain ⟨s', c', t', hls, H⟩ := st_lie (sc := sc) h (by omega) (i := 1 + 4 * n) ⟨by omega, by omega⟩
          refine H (fun lv' g0' g1' g2' g3' g4' => ?_) _ g0 g1 g2 g3 g4
          refine w_iinc (v := nI (1 + 4 * (n + 1))) rfl g4' (Nat.le_of_ble_eq_true rfl) hinc ?_
          refine w_goto rfl rfl ?_
          exact ih (n + 1) s' c' t' (by omega) (by omega) hls _ (ld_s1 (by decide) g0' (fun _ => rfl)) (ld_s1 (by decide) g1' (fun _ => rfl)) (ld_s1 (by decide) g2' (fun _ => rfl)) (ld_s1 (by decide) g3' (fun _ => rfl)) ld_self
        · refine w_tableIn rfl (by decide) rfl rfl ?_
          obtain ⟨s', c', t', hls, H⟩ := st_echo (sc := sc) h (by omega) (i := 1 + 4 * n) ⟨by omega, by omega⟩
          refine H (fun lv' g0' g1' g2' g3' g4' => ?_) _ g0 g1 g2 g3 g4
          refine w_iinc (v := nI (1 + 4 * (n + 1))) rfl g4' (Nat.le_of_ble_eq_true rfl) hinc ?_
          refine w_goto rfl rfl ?_
          exact ih (n + 1) s' c' t' (by omega) (by omega) hls _ (ld_s1 (by decide) g0' (fun _ => rfl)) (ld_s1 (by decide) g1' (fun _ => rfl)) (ld_s1 (by decide) g2' (fun _ => rfl)) (ld_s1 (by decide) g3' (fun _ => rfl)) ld_self
        · refine w_tableIn rfl (by decide) rfl rfl ?_
          obtain ⟨s', c', t', hls, H⟩ := st_replica (sc := sc) h (by omega) (i := 1 + 4 * n) ⟨by omega, by omega⟩
          refine H (fun lv' g0' g1' g2' g3' g4' => ?_) _ g0 g1 g2 g3 g4
          refine w_iinc (v := nI (1 + 4 * (n + 1))) rfl g4' (Nat.le_of_ble_eq_true rfl) hinc ?_
          refine w_goto rfl rfl ?_
          exact ih (n + 1) s' c' t' (by omega) (by omega) hls _ (ld_s1 (by decide) g0' (fun _ => rfl)) (ld_s1 (by decide) g1' (fun _ => rfl)) (ld_s1 (by decide) g2' (fun _ => rfl)) (ld_s1 (by decide) g3' (fun _ => rfl)) ld_self
        · refine w_tableIn rfl (by decide) rfl rfl ?_
          obtain ⟨s', c', t', hls, H⟩ := st_messages (sc := sc) h (by omega) (i := 1 + 4 * n) ⟨by omega, by omega⟩
          refine H (fun lv' g0' g1' g2' g3' g4' => ?_) _ g0 g1 g2 g3 g4
          refine w_iinc (v := nI (1 + 4 * (n + 1))) rfl g4' (Nat.le_of_ble_eq_true rfl) hinc ?_
          refine w_goto rfl rfl ?_
          exact ih (n + 1) s' c' t' (by omega) (by omega) hls _ (ld_s1 (by decide) g0' (fun _ => rfl)) (ld_s1 (by decide) g1' (fun _ => rfl)) (ld_s1 (by decide) g2' (fun _ => rfl)) (ld_s1 (by decide) g3' (fun _ => rfl)) ld_self
        · refine w_tableIn rfl (by decide) rfl rfl ?_
          obtain ⟨s', c', t', hls, H⟩ := st_message (sc := sc) h (by omega) (i := 1 + 4 * n) ⟨by omega, by omega⟩
          refine H (fun lv' g0' g1' g2' g3' g4' => ?_) _ g0 g1 g2 g3 g4
          refine w_iinc (v := nI (1 + 4 * (n + 1))) rfl g4' (Nat.le_of_ble_eq_true rfl) hinc ?_
          refine w_goto rfl rfl ?_
          exact ih (n + 1) s' c' t' (by omega) (by omega) hls _ (ld_s1 (by decide) g0' (fun _ => rfl)) (ld_s1 (by decide) g1' (fun _ => rfl)) (ld_s1 (by decide) g2' (fun _ => rfl)) (ld_s1 (by decide) g3' (fun _ => rfl)) ld_self
        · refine w_tableIn rfl (by decide) rfl rfl ?_
          obtain ⟨s', c', t', hls, H⟩ := st_request (sc := sc) h (by omega) (i := 1 + 4 * n) ⟨by omega, by omega⟩
          refine H (fun lv' g0' g1' g2' g3' g4' => ?_) _ g0 g1 g2 g3 g4
          refine w_iinc (v := nI (1 + 4 * (n + 1))) rfl g4' (Nat.le_of_ble_eq_true rfl) hinc ?_
          refine w_goto rfl rfl ?_
          exact ih (n + 1) s' c' t' (by omega) (by omega) hls _ (ld_s1 (by decide) g0' (fun _ => rfl)) (ld_s1 (by decide) g1' (fun _ => rfl)) (ld_s1 (by decide) g2' (fun _ => rfl)) (ld_s1 (by decide) g3' (fun _ => rfl)) ld_self
        · refine w_tableIn rfl (by decide) rfl rfl ?_
          obtain ⟨s', c', t', hls, H⟩ := st_view (sc := sc) h (by omega) (i := 1 + 4 * n) ⟨by omega, by omega⟩
          refine H (fun lv' g0' g1' g2' g3' g4' => ?_) _ g0 g1 g2 g3 g4
          refine w_iinc (v := nI (1 + 4 * (n + 1))) rfl g4' (Nat.le_of_ble_eq_true rfl) hinc ?_
          refine w_goto rfl rfl ?_
          exact ih (n + 1) s' c' t' (by omega) (by omega) hls _ (ld_s1 (by decide) g0' (fun _ => rfl)) (ld_s1 (by decide) g1' (fun _ => rfl)) (ld_s1 (by decide) g2' (fun _ => rfl)) (ld_s1 (by decide) g3' (fun _ => rfl)) ld_self
        · refine w_tableOut rfl (by decide) rfl ?_
          refine w_iinc (v := nI (1 + 4 * (n + 1))) rfl g4 (Nat.le_of_ble_eq_true rfl) hinc ?_
          refine w_goto rfl rfl ?_
          exact ih (n + 1) s c t (by omega) (by omega) (ls_mono h) _ (ld_s1 (by decide) g0 (fun _ => rfl)) (ld_s1 (by decide) g1 (fun _ => rfl)) (ld_s1 (by decide) g2 (fun _ => rfl)) (ld_s1 (by decide) g3 (fun _ => rfl)) ld_self
        · refine w_tableOut rfl (by decide) rfl ?_
          refine w_iinc (v := nI (1 + 4 * (n + 1))) rfl g4 (Nat.le_of_ble_eq_true rfl) hinc ?_
          refine w_goto rfl rfl ?_
          exact ih (n + 1) s c t (by omega) (by omega) (ls_mono h) _ (ld_s1 (by decide) g0 (fun _ => rfl)) (ld_s1 (by decide) g1 (fun _ => rfl)) (ld_s1 (by decide) g2 (fun _ => rfl)) (ld_s1 (by decide) g3 (fun _ => rfl)) ld_self
        · refine w_tableOut rfl (by decide) rfl ?_
          refine w_iinc (v := nI (1 + 4 * (n + 1))) rfl g4 (Nat.le_of_ble_eq_true rfl) hinc ?_
          refine w_goto rfl rfl ?_
          exact ih (n + 1) s c t (by omega) (by omega) (ls_mono h) _ (ld_s1 (by decide) g0 (fun _ => rfl)) (ld_s1 (by decide) g1 (fun _ => rfl)) (ld_s1 (by decide) g2 (fun _ => rfl)) (ld_s1 (by decide) g3 (fun _ => rfl)) ld_self
