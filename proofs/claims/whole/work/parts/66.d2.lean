-- deps: 65.d1
/-! the law's cases -/
theorem lg_self (x : Int64) : lg_cmp x x = 0 := by unfold lg_cmp; simp
theorem w_sldN {sc : pm_Sc} {i pc : Nat} {lv : pm_L} {st : List Value} {h : pm_H} {Q : (Option Value ⊕ Nat) → pm_H → Prop} {x len j : Nat} {y : Int32} (ha : pm_at i pc = some (.iaload, len, [])) (hy : y = nI j) (hj : j < sc.1 ∧ sc.1 < 2 ^ 31) (kk : pw sc i (pc + 1, lv, .int (sc.2 j) :: st, h) Q) : pw sc i (pc, lv, .int y :: .retAddr x :: st, h) Q := by
  subst hy
  refine w_sld ha ⟨nI_pos (by omega), by rw [nI_clamp (by omega)]; exact hj.1⟩ ?_
  rw [nI_clamp (by omega)]; exact kk
set_option maxRecDepth 100000 in
set_option maxHeartbeats 1000000 in
theorem lc_issue {sc : pm_Sc} {c c1 c2 : CX} {i : Nat} (hs : i + 4 ≤ sc.1 ∧ sc.1 < 2 ^ 31 - 10) (hc : 73 < c.1.length) {m1 : List Value} (hb1 : (hx c1).1[31]? = some (.inr (8, m1))) {k w : Int32} {v : Int64} {m2 : List Value} (hb2 : (hx c2).1[31]? = some (.inr (8, m2))) (hO : (hx c2).1[73]? = some (outC v)) (hL : pu sc 127 [.ref 0, .int (sc.2 (i + 1)), .int (sc.2 (i + 2)), .int (sc.2 (i + 3)), .ref 73] (hx c) (pz (some (.int k)) (hx c1))) (hMo : pu sc 107 [.ref 31, .int (sc.2 (i + 1)), .int (sc.2 (i + 2)), .int (sc.2 (i + 3))] (hx c1) (pz (some (.int w)) (hx c2))) (hT : pu sc 73 [.ref 31] (hx c2) (pz (some (.int k)) (hx c2))) (hkv : k = 0 → v = w.toInt64) {Q : (Option Value ⊕ Nat) → pm_H → Prop} (G : ∀ lv, pm_ld lv 0 = some (.retAddr 0) → pm_ld lv 1 = some (.ref 0) → pm_ld lv 2 = some (.ref 31) → pm_ld lv 3 = some (.ref 73) → pm_ld lv 4 = some (.int (nI i)) → pw sc 136 (801, lv, [], hx c2) Q) : ∀ lv, pm_ld lv 0 = some (.retAddr 0) → pm_ld lv 1 = some (.ref 0) → pm_ld lv 2 = some (.ref 31) → pm_ld lv 3 = some (.ref 73) → pm_ld lv 4 = some (.int (nI i)) → pw sc 136 (116, lv, [], hx c) Q := by
  intro lv g0 g1 g2 g3 g4
  refine w_aload_n rfl g1 ?_
  refine w_aload_nS rfl g0 ?_
  refine w_iload rfl g4 ?_
  refine w_iconst (v := 1) rfl (by decide) ?_
  refine w_iaddN (x := i) (y := 1) rfl rfl rfl ?_
  refine w_sldN (j := (i + 1)) rfl rfl ⟨by omega, by omega⟩ ?_
  refine w_aload_nS rfl g0 ?_
  refine w_iload rfl g4 ?_
  refine w_iconst (v := 2) rfl (by decide) ?_
  refine w_iaddN (x := i) (y := 2) rfl rfl rfl ?_
  refine w_sldN (j := (i + 2)) rfl rfl ⟨by omega, by omega⟩ ?_
  refine w_aload_nS rfl g0 ?_
  refine w_iload rfl g4 ?_
  refine w_iconst (v := 3) rfl (by decide) ?_
  refine w_iaddN (x := i) (y := 3) rfl rfl rfl ?_
  refine w_sldN (j := (i + 3)) rfl rfl ⟨by omega, by omega⟩ ?_
  refine w_aload_n rfl g3 ?_
  refine w_static rfl (by decide) rfl ⟨(Nat.le_of_ble_eq_true rfl), (Nat.le_of_ble_eq_true rfl), (Nat.le_of_ble_eq_true rfl)⟩ rfl (Nat.le_of_ble_eq_true rfl) (hL) ?_
  rintro _ _ ⟨rfl, rfl⟩
  refine ⟨_, rfl, ?_⟩
  refine w_istore rfl (Nat.le_of_ble_eq_true rfl) ?_
  refine w_aload_n rfl (ld_s1 (by decide) g2 (fun _ => rfl)) ?_
  refine w_aload_nS rfl (ld_s1 (by decide) g0 (fun _ => rfl)) ?_
  refine w_iload rfl (ld_s1 (by decide) g4 (fun _ => rfl)) ?_
  refine w_iconst (v := 1) rfl (by decide) ?_
  refine w_iaddN (x := i) (y := 1) rfl rfl rfl ?_
  refine w_sldN (j := (i + 1)) rfl rfl ⟨by omega, by omega⟩ ?_
  refine w_aload_nS rfl (ld_s1 (by decide) g0 (fun _ => rfl)) ?_
  refine w_iload rfl (ld_s1 (by decide) g4 (fun _ => rfl)) ?_
  refine w_iconst (v := 2) rfl (by decide) ?_
  refine w_iaddN (x := i) (y := 2) rfl rfl rfl ?_
  refine w_sldN (j := (i + 2)) rfl rfl ⟨by omega, by omega⟩ ?_
  refine w_aload_nS rfl (ld_s1 (by decide) g0 (fun _ => rfl)) ?_
  refine w_iload rfl (ld_s1 (by decide) g4 (fun _ => rfl)) ?_
  refine w_iconst (v := 3) rfl (by decide) ?_
  refine w_iaddN (x := i) (y := 3) rfl rfl rfl ?_
  refine w_sldN (j := (i + 3)) rfl rfl ⟨by omega, by omega⟩ ?_
  refine w_virtual rfl rfl hb1 ⟨(Nat.le_of_ble_eq_true rfl), rfl, (Nat.le_of_ble_eq_true rfl), (Nat.le_of_ble_eq_true rfl)⟩ rfl (Nat.le_of_ble_eq_true rfl) (hMo) ?_
  rintro _ _ ⟨rfl, rfl⟩
  refine ⟨_, rfl, ?_⟩
  refine w_istore rfl (Nat.le_of_ble_eq_true rfl) ?_
  refine w_aload_n rfl (ld_s1 (by decide) (ld_s1 (by decide) g2 (fun _ => rfl)) (fun _ => rfl)) ?_
  refine w_virtual rfl rfl hb2 ⟨(Nat.le_of_ble_eq_true rfl), rfl, (Nat.le_of_ble_eq_true rfl), (Nat.le_of_ble_eq_true rfl)⟩ rfl (Nat.le_of_ble_eq_true rfl) hT ?_
  rintro _ _ ⟨rfl, rfl⟩
  refine ⟨_, rfl, ?_⟩
  refine w_iload rfl (ld_s1 (by decide) ld_self (fun _ => rfl)) ?_
  refine w_if_icmp_eq rfl rfl (fun c171 => ?_) (fun c171 => ?_)
  · refine w_iload rfl (ld_s1 (by decide) ld_self (fun _ => rfl)) ?_
    refine w_ifCond_ne rfl rfl (fun c178 => ?_) (fun c178 => ?_)
    · refine w_goto rfl rfl ?_
      exact G _ (ld_s1 (by decide) (ld_s1 (by decide) g0 (fun _ => rfl)) (fun _ => rfl)) (ld_s1 (by decide) (ld_s1 (by decide) g1 (fun _ => rfl)) (fun _ => rfl)) (ld_s1 (by decide) (ld_s1 (by decide) g2 (fun _ => rfl)) (fun _ => rfl)) (ld_s1 (by decide) (ld_s1 (by decide) g3 (fun _ => rfl)) (fun _ => rfl)) (ld_s1 (by decide) (ld_s1 (by decide) g4 (fun _ => rfl)) (fun _ => rfl))
    · refine w_aload_n rfl (ld_s1 (by decide) (ld_s1 (by decide) g3 (fun _ => rfl)) (fun _ => rfl)) ?_
      refine w_iconst (v := 0) rfl (by decide) ?_
      refine w_laload rfl hO (by decide) rfl ?_
      refine w_iload rfl ld_self ?_
      refine w_i2l rfl ?_
      refine w_lcmp rfl ?_
      refine w_ifCond_eq rfl rfl (fun c188 => ?_) (fun c188 => ?_)
      · refine w_goto rfl rfl ?_
        exact G _ (ld_s1 (by decide) (ld_s1 (by decide) g0 (fun _ => rfl)) (fun _ => rfl)) (ld_s1 (by decide) (ld_s1 (by decide) g1 (fun _ => rfl)) (fun _ => rfl)) (ld_s1 (by decide) (ld_s1 (by decide) g2 (fun _ => rfl)) (fun _ => rfl)) (ld_s1 (by decide) (ld_s1 (by decide) g3 (fun _ => rfl)) (fun _ => rfl)) (ld_s1 (by decide) (ld_s1 (by decide) g4 (fun _ => rfl)) (fun _ => rfl))
      · exact absurd (by rw [hkv c178]; exact lg_self _) c188
  · exact absurd rfl c171
set_option maxRecDepth 100000 in
set_option maxHeartbeats 1000000 in
theorem lc_retry {sc : pm_Sc} {c c1 c2 : CX} {i : Nat} (hs : i + 4 ≤ sc.1 ∧ sc.1 < 2 ^ 31 - 10) (hc : 73 < c.1.length) {m1 : List Value} (hb1 : (hx c1).1[31]? = some (.inr (8, m1))) {k w : Int32} {v : Int64} {m2 : List Value} (hb2 : (hx c2).1[31]? = some (.inr (8, m2))) (hO : (hx c2).1[73]? = some (outC v)) (hL : pu sc 128 [.ref 0, .int (sc.2 (i + 1)), .ref 73] (hx c) (pz (some (.int k)) (hx c1))) (hMo : pu sc 109 [.ref 31, .int (sc.2 (i + 1))] (hx c1) (pz (some (.int w)) (hx c2))) (hT : pu sc 73 [.ref 31] (hx c2) (pz (some (.int k)) (hx c2))) (hkv : k = 0 → v = w.toInt64) {Q : (Option Value ⊕ Nat) → pm_H → Prop} (G : ∀ lv, pm_ld lv 0 = some (.retAddr 0) → pm_ld lv 1 = some (.ref 0) → pm_ld lv 2 = some (.ref 31) → pm_ld lv 3 = some (.ref 73) → pm_ld lv 4 = some (.int (nI i)) → pw sc 136 (801, lv, [], hx c2) Q) : ∀ lv, pm_ld lv 0 = some (.retAddr 0) → pm_ld lv 1 = some (.ref 0) → pm_ld lv 2 = some (.ref 31) → pm_ld lv 3 = some (.ref 73) → pm_ld lv 4 = some (.int (nI i)) → pw sc 136 (196, lv, [], hx c) Q := by
  intro lv g0 g1 g2 g3 g4
  refine w_aload_n rfl g1 ?_
  refine w_aload_nS rfl g0 ?_
  refine w_iload rfl g4 ?_
  refine w_iconst (v := 1) rfl (by decide) ?_
  refine w_iaddN (x := i) (y := 1) rfl rfl rfl ?_
  refine w_sldN (j := (i + 1)) rfl rfl ⟨by omega, by omega⟩ ?_
  refine w_aload_n rfl g3 ?_
  refine w_static rfl (by decide) rfl ⟨(Nat.le_of_ble_eq_true rfl), (Nat.le_of_ble_eq_true rfl), (Nat.le_of_ble_eq_true rfl)⟩ rfl (Nat.le_of_ble_eq_true rfl) (hL) ?_
  rintro _ _ ⟨rfl, rfl⟩
  refine ⟨_, rfl, ?_⟩
  refine w_istore rfl (Nat.le_of_ble_eq_true rfl) ?_
  refine w_aload_n rfl (ld_s1 (by decide) g2 (fun _ => rfl)) ?_
  refine w_aload_nS rfl (ld_s1 (by decide) g0 (fun _ => rfl)) ?_
  refine w_iload rfl (ld_s1 (by decide) g4 (fun _ => rfl)) ?_
  refine w_iconst (v := 1) rfl (by decide) ?_
  refine w_iaddN (x := i) (y := 1) rfl rfl rfl ?_
  refine w_sldN (j := (i + 1)) rfl rfl ⟨by omega, by omega⟩ ?_
  refine w_virtual rfl rfl hb1 ⟨(Nat.le_of_ble_eq_true rfl), rfl, (Nat.le_of_ble_eq_true rfl), (Nat.le_of_ble_eq_true rfl)⟩ rfl (Nat.le_of_ble_eq_true rfl) (hMo) ?_
  rintro _ _ ⟨rfl, rfl⟩
  refine ⟨_, rfl, ?_⟩
  refine w_istore rfl (Nat.le_of_ble_eq_true rfl) ?_
  refine w_aload_n rfl (ld_s1 (by decide) (ld_s1 (by decide) g2 (fun _ => rfl)) (fun _ => rfl)) ?_
  refine w_virtual rfl rfl hb2 ⟨(Nat.le_of_ble_eq_true rfl), rfl, (Nat.le_of_ble_eq_true rfl), (Nat.le_of_ble_eq_true rfl)⟩ rfl (Nat.le_of_ble_eq_true rfl) hT ?_
  rintro _ _ ⟨rfl, rfl⟩
  refine ⟨_, rfl, ?_⟩
  refine w_iload rfl (ld_s1 (by decide) ld_self (fun _ => rfl)) ?_
  refine w_if_icmp_eq rfl rfl (fun c227 => ?_) (fun c227 => ?_)
  · refine w_iload rfl (ld_s1 (by decide) ld_self (fun _ => rfl)) ?_
    refine w_ifCond_ne rfl rfl (fun c234 => ?_) (fun c234 => ?_)
    · refine w_goto rfl rfl ?_
      exact G _ (ld_s1 (by decide) (ld_s1 (by decide) g0 (fun _ => rfl)) (fun _ => rfl)) (ld_s1 (by decide) (ld_s1 (by decide) g1 (fun _ => rfl)) (fun _ => rfl)) (ld_s1 (by decide) (ld_s1 (by decide) g2 (fun _ => rfl)) (fun _ => rfl)) (ld_s1 (by decide) (ld_s1 (by decide) g3 (fun _ => rfl)) (fun _ => rfl)) (ld_s1 (by decide) (ld_s1 (by decide) g4 (fun _ => rfl)) (fun _ => rfl))
    · refine w_aload_n rfl (ld_s1 (by decide) (ld_s1 (by decide) g3 (fun _ => rfl)) (fun _ => rfl)) ?_
      refine w_iconst (v := 0) rfl (by decide) ?_
      refine w_laload rfl hO (by decide) rfl ?_
      refine w_iload rfl ld_self ?_
      refine w_i2l rfl ?_
      refine w_lcmp rfl ?_
      refine w_ifCond_eq rfl rfl (fun c244 => ?_) (fun c244 => ?_)
      · refine w_goto rfl rfl ?_
        exact G _ (ld_s1 (by decide) (ld_s1 (by decide) g0 (fun _ => rfl)) (fun _ => rfl)) (ld_s1 (by decide) (ld_s1 (by decide) g1 (fun _ => rfl)) (fun _ => rfl)) (ld_s1 (by decide) (ld_s1 (by decide) g2 (fun _ => rfl)) (fun _ => rfl)) (ld_s1 (by decide) (ld_s1 (by decide) g3 (fun _ => rfl)) (fun _ => rfl)) (ld_s1 (by decide) (ld_s1 (by decide) g4 (fun _ => rfl)) (fun _ => rfl))
      · exact absurd (by rw [hkv c234]; exact lg_self _) c244
  · exact absurd rfl c227
set_option maxRecDepth 100000 in
set_option maxHeartbeats 1000000 in
theorem lc_deliver {sc : pm_Sc} {c c1 c2 : CX} {i : Nat} (hs : i + 4 ≤ sc.1 ∧ sc.1 < 2 ^ 31 - 10) (hc : 73 < c.1.length) {m1 : List Value} (hb1 : (hx c1).1[31]? = some (.inr (8, m1))) {r : Int32} (hL : pu sc 57 [.ref 0, .int (sc.2 (i + 1))] (hx c) (pz (some (.int r)) (hx c1))) (hMo : pu sc 111 [.ref 31, .int (sc.2 (i + 1))] (hx c1) (pz (some (.int r)) (hx c2))) {Q : (Option Value ⊕ Nat) → pm_H → Prop} (G : ∀ lv, pm_ld lv 0 = some (.retAddr 0) → pm_ld lv 1 = some (.ref 0) → pm_ld lv 2 = some (.ref 31) → pm_ld lv 3 = some (.ref 73) → pm_ld lv 4 = some (.int (nI i)) → pw sc 136 (801, lv, [], hx c2) Q) : ∀ lv, pm_ld lv 0 = some (.retAddr 0) → pm_ld lv 1 = some (.ref 0) → pm_ld lv 2 = some (.ref 31) → pm_ld lv 3 = some (.ref 73) → pm_ld lv 4 = some (.int (nI i)) → pw sc 136 (252, lv, [], hx c) Q := by
  intro lv g0 g1 g2 g3 g4
  refine w_aload_n rfl g1 ?_
  refine w_aload_nS rfl g0 ?_
  refine w_iload rfl g4 ?_
  refine w_iconst (v := 1) rfl (by decide) ?_
  refine w_iaddN (x := i) (y := 1) rfl rfl rfl ?_
  refine w_sldN (j := (i + 1)) rfl rfl ⟨by omega, by omega⟩ ?_
  refine w_virtual rfl rfl (cs0 hc) ⟨(Nat.le_of_ble_eq_true rfl), rfl, (Nat.le_of_ble_eq_true rfl), (Nat.le_of_ble_eq_true rfl)⟩ rfl (Nat.le_of_ble_eq_true rfl) (hL) ?_
  rintro _ _ ⟨rfl, rfl⟩
  refine ⟨_, rfl, ?_⟩
  refine w_aload_n rfl g2 ?_
  refine w_aload_nS rfl g0 ?_
  refine w_iload rfl g4 ?_
  refine w_iconst (v := 1) rfl (by decide) ?_
  refine w_iaddN (x := i) (y := 1) rfl rfl rfl ?_
  refine w_sldN (j := (i + 1)) rfl rfl ⟨by omega, by omega⟩ ?_
  refine w_virtual rfl rfl hb1 ⟨(Nat.le_of_ble_eq_true rfl), rfl, (Nat.le_of_ble_eq_true rfl), (Nat.le_of_ble_eq_true rfl)⟩ rfl (Nat.le_of_ble_eq_true rfl) (hMo) ?_
  rintro _ _ ⟨rfl, rfl⟩
  refine ⟨_, rfl, ?_⟩
  refine w_if_icmp_eq rfl rfl (fun c272 => ?_) (fun c272 => ?_)
  · exact G _ g0 g1 g2 g3 g4
  · exact absurd rfl c272
set_option maxRecDepth 100000 in
set_option maxHeartbeats 1000000 in
theorem lc_flood {sc : pm_Sc} {c c1 c2 : CX} {i : Nat} (hs : i + 4 ≤ sc.1 ∧ sc.1 < 2 ^ 31 - 10) (hc : 73 < c.1.length) {m1 : List Value} (hb1 : (hx c1).1[31]? = some (.inr (8, m1))) {k w : Int32} {v : Int64} {m2 : List Value} (hb2 : (hx c2).1[31]? = some (.inr (8, m2))) (hO : (hx c2).1[73]? = some (outC v)) (hL : pu sc 129 [.ref 0, .int (sc.2 (i + 1)), .ref 73] (hx c) (pz (some (.int k)) (hx c1))) (hMo : pu sc 112 [.ref 31, .int (sc.2 (i + 1))] (hx c1) (pz (some (.int w)) (hx c2))) (hT : pu sc 73 [.ref 31] (hx c2) (pz (some (.int k)) (hx c2))) (hkv : k = 0 → v = w.toInt64) {Q : (Option Value ⊕ Nat) → pm_H → Prop} (G : ∀ lv, pm_ld lv 0 = some (.retAddr 0) → pm_ld lv 1 = some (.ref 0) → pm_ld lv 2 = some (.ref 31) → pm_ld lv 3 = some (.ref 73) → pm_ld lv 4 = some (.int (nI i)) → pw sc 136 (801, lv, [], hx c2) Q) : ∀ lv, pm_ld lv 0 = some (.retAddr 0) → pm_ld lv 1 = some (.ref 0) → pm_ld lv 2 = some (.ref 31) → pm_ld lv 3 = some (.ref 73) → pm_ld lv 4 = some (.int (nI i)) → pw sc 136 (277, lv, [], hx c) Q := by
  intro lv g0 g1 g2 g3 g4
  refine w_aload_n rfl g1 ?_
  refine w_aload_nS rfl g0 ?_
  refine w_iload rfl g4 ?_
  refine w_iconst (v := 1) rfl (by decide) ?_
  refine w_iaddN (x := i) (y := 1) rfl rfl rfl ?_
  refine w_sldN (j := (i + 1)) rfl rfl ⟨by omega, by omega⟩ ?_
  refine w_aload_n rfl g3 ?_
  refine w_static rfl (by decide) rfl ⟨(Nat.le_of_ble_eq_true rfl), (Nat.le_of_ble_eq_true rfl), (Nat.le_of_ble_eq_true rfl)⟩ rfl (Nat.le_of_ble_eq_true rfl) (hL) ?_
  rintro _ _ ⟨rfl, rfl⟩
  refine ⟨_, rfl, ?_⟩
  refine w_istore rfl (Nat.le_of_ble_eq_true rfl) ?_
  refine w_aload_n rfl (ld_s1 (by decide) g2 (fun _ => rfl)) ?_
  refine w_aload_nS rfl (ld_s1 (by decide) g0 (fun _ => rfl)) ?_
  refine w_iload rfl (ld_s1 (by decide) g4 (fun _ => rfl)) ?_
  refine w_iconst (v := 1) rfl (by decide) ?_
  refine w_iaddN (x := i) (y := 1) rfl rfl rfl ?_
  refine w_sldN (j := (i + 1)) rfl rfl ⟨by omega, by omega⟩ ?_
  refine w_virtual rfl rfl hb1 ⟨(Nat.le_of_ble_eq_true rfl), rfl, (Nat.le_of_ble_eq_true rfl), (Nat.le_of_ble_eq_true rfl)⟩ rfl (Nat.le_of_ble_eq_true rfl) (hMo) ?_
  rintro _ _ ⟨rfl, rfl⟩
  refine ⟨_, rfl, ?_⟩
  refine w_istore rfl (Nat.le_of_ble_eq_true rfl) ?_
  refine w_aload_n rfl (ld_s1 (by decide) (ld_s1 (by decide) g2 (fun _ => rfl)) (fun _ => rfl)) ?_
  refine w_virtual rfl rfl hb2 ⟨(Nat.le_of_ble_eq_true rfl), rfl, (Nat.le_of_ble_eq_true rfl), (Nat.le_of_ble_eq_true rfl)⟩ rfl (Nat.le_of_ble_eq_true rfl) hT ?_
  rintro _ _ ⟨rfl, rfl⟩
  refine ⟨_, rfl, ?_⟩
  refine w_iload rfl (ld_s1 (by decide) ld_self (fun _ => rfl)) ?_
  refine w_if_icmp_eq rfl rfl (fun c308 => ?_) (fun c308 => ?_)
  · refine w_iload rfl (ld_s1 (by decide) ld_self (fun _ => rfl)) ?_
    refine w_ifCond_ne rfl rfl (fun c315 => ?_) (fun c315 => ?_)
    · refine w_goto rfl rfl ?_
      exact G _ (ld_s1 (by decide) (ld_s1 (by decide) g0 (fun _ => rfl)) (fun _ => rfl)) (ld_s1 (by decide) (ld_s1 (by decide) g1 (fun _ => rfl)) (fun _ => rfl)) (ld_s1 (by decide) (ld_s1 (by decide) g2 (fun _ => rfl)) (fun _ => rfl)) (ld_s1 (by decide) (ld_s1 (by decide) g3 (fun _ => rfl)) (fun _ => rfl)) (ld_s1 (by decide) (ld_s1 (by decide) g4 (fun _ => rfl)) (fun _ => rfl))
    · refine w_aload_n rfl (ld_s1 (by decide) (ld_s1 (by decide) g3 (fun _ => rfl)) (fun _ => rfl)) ?_
      refine w_iconst (v := 0) rfl (by decide) ?_
      refine w_laload rfl hO (by decide) rfl ?_
      refine w_iload rfl ld_self ?_
      refine w_i2l rfl ?_
      refine w_lcmp rfl ?_
      refine w_ifCond_eq rfl rfl (fun c325 => ?_) (fun c325 => ?_)
      · refine w_goto rfl rfl ?_
        exact G _ (ld_s1 (by decide) (ld_s1 (by decide) g0 (fun _ => rfl)) (fun _ => rfl)) (ld_s1 (by decide) (ld_s1 (by decide) g1 (fun _ => rfl)) (fun _ => rfl)) (ld_s1 (by decide) (ld_s1 (by decide) g2 (fun _ => rfl)) (fun _ => rfl)) (ld_s1 (by decide) (ld_s1 (by decide) g3 (fun _ => rfl)) (fun _ => rfl)) (ld_s1 (by decide) (ld_s1 (by decide) g4 (fun _ => rfl)) (fun _ => rfl))
      · exact absurd (by rw [hkv c315]; exact lg_self _) c325
  · exact absurd rfl c308
set_option maxRecDepth 100000 in
set_option maxHeartbeats 1000000 in
theorem lc_lose {sc : pm_Sc} {c c1 c2 : CX} {i : Nat} (hs : i + 4 ≤ sc.1 ∧ sc.1 < 2 ^ 31 - 10) (hc : 73 < c.1.length) {m1 : List Value} (hb1 : (hx c1).1[31]? = some (.inr (8, m1))) {r : Int32} (hL : pu sc 59 [.ref 0, .int (sc.2 (i + 1))] (hx c) (pz (some (.int r)) (hx c1))) (hMo : pu sc 113 [.ref 31, .int (sc.2 (i + 1))] (hx c1) (pz (some (.int r)) (hx c2))) {Q : (Option Value ⊕ Nat) → pm_H → Prop} (G : ∀ lv, pm_ld lv 0 = some (.retAddr 0) → pm_ld lv 1 = some (.ref 0) → pm_ld lv 2 = some (.ref 31) → pm_ld lv 3 = some (.ref 73) → pm_ld lv 4 = some (.int (nI i)) → pw sc 136 (801, lv, [], hx c2) Q) : ∀ lv, pm_ld lv 0 = some (.retAddr 0) → pm_ld lv 1 = some (.ref 0) → pm_ld lv 2 = some (.ref 31) → pm_ld lv 3 = some (.ref 73) → pm_ld lv 4 = some (.int (nI i)) → pw sc 136 (333, lv, [], hx c) Q := by
  intro lv g0 g1 g2 g3 g4
  refine w_aload_n rfl g1 ?_
  refine w_aload_nS rfl g0 ?_
  refine w_iload rfl g4 ?_
  refine w_iconst (v := 1) rfl (by decide) ?_
  refine w_iaddN (x := i) (y := 1) rfl rfl rfl ?_
  refine w_sldN (j := (i + 1)) rfl rfl ⟨by omega, by omega⟩ ?_
  refine w_virtual rfl rfl (cs0 hc) ⟨(Nat.le_of_ble_eq_true rfl), rfl, (Nat.le_of_ble_eq_true rfl), (Nat.le_of_ble_eq_true rfl)⟩ rfl (Nat.le_of_ble_eq_true rfl) (hL) ?_
  rintro _ _ ⟨rfl, rfl⟩
  refine ⟨_, rfl, ?_⟩
  refine w_aload_n rfl g2 ?_
  refine w_aload_nS rfl g0 ?_
  refine w_iload rfl g4 ?_
  refine w_iconst (v := 1) rfl (by decide) ?_
  refine w_iaddN (x := i) (y := 1) rfl rfl rfl ?_
  refine w_sldN (j := (i + 1)) rfl rfl ⟨by omega, by omega⟩ ?_
  refine w_virtual rfl rfl hb1 ⟨(Nat.le_of_ble_eq_true rfl), rfl, (Nat.le_of_ble_eq_true rfl), (Nat.le_of_ble_eq_true rfl)⟩ rfl (Nat.le_of_ble_eq_true rfl) (hMo) ?_
  rintro _ _ ⟨rfl, rfl⟩
  refine ⟨_, rfl, ?_⟩
  refine w_if_icmp_eq rfl rfl (fun c353 => ?_) (fun c353 => ?_)
  · exact G _ g0 g1 g2 g3 g4
  · exact absurd rfl c353
set_option maxRecDepth 100000 in
set_option maxHeartbeats 1000000 in
theorem lc_patience {sc : pm_Sc} {c c1 c2 : CX} {i : Nat} (hs : i + 4 ≤ sc.1 ∧ sc.1 < 2 ^ 31 - 10) (hc : 73 < c.1.length) {m1 : List Value} (hb1 : (hx c1).1[31]? = some (.inr (8, m1))) {k w : Int32} {v : Int64} {m2 : List Value} (hb2 : (hx c2).1[31]? = some (.inr (8, m2))) (hO : (hx c2).1[73]? = some (outC v)) (hL : pu sc 130 [.ref 0, .int (sc.2 (i + 1)), .ref 73] (hx c) (pz (some (.int k)) (hx c1))) (hMo : pu sc 116 [.ref 31, .int (sc.2 (i + 1))] (hx c1) (pz (some (.int w)) (hx c2))) (hT : pu sc 73 [.ref 31] (hx c2) (pz (some (.int k)) (hx c2))) (hkv : k = 0 → (w = 0 → v = 0) ∧ (¬ w = 0 → v = 1)) {Q : (Option Value ⊕ Nat) → pm_H → Prop} (G : ∀ lv, pm_ld lv 0 = some (.retAddr 0) → pm_ld lv 1 = some (.ref 0) → pm_ld lv 2 = some (.ref 31) → pm_ld lv 3 = some (.ref 73) → pm_ld lv 4 = some (.int (nI i)) → pw sc 136 (801, lv, [], hx c2) Q) : ∀ lv, pm_ld lv 0 = some (.retAddr 0) → pm_ld lv 1 = some (.ref 0) → pm_ld lv 2 = some (.ref 31) → pm_ld lv 3 = some (.ref 73) → pm_ld lv 4 = some (.int (nI i)) → pw sc 136 (358, lv, [], hx c) Q := by
  intro lv g0 g1 g2 g3 g4
  refine w_aload_n rfl g1 ?_
  refine w_aload_nS rfl g0 ?_
  refine w_iload rfl g4 ?_
  refine w_iconst (v := 1) rfl (by decide) ?_
  refine w_iaddN (x := i) (y := 1) rfl rfl rfl ?_
  refine w_sldN (j := (i + 1)) rfl rfl ⟨by omega, by omega⟩ ?_
  refine w_aload_n rfl g3 ?_
  refine w_static rfl (by decide) rfl ⟨(Nat.le_of_ble_eq_true rfl), (Nat.le_of_ble_eq_true rfl), (Nat.le_of_ble_eq_true rfl)⟩ rfl (Nat.le_of_ble_eq_true rfl) (hL) ?_
  rintro _ _ ⟨rfl, rfl⟩
  refine ⟨_, rfl, ?_⟩
  refine w_istore rfl (Nat.le_of_ble_eq_true rfl) ?_
  refine w_aload_n rfl (ld_s1 (by decide) g2 (fun _ => rfl)) ?_
  refine w_aload_nS rfl (ld_s1 (by decide) g0 (fun _ => rfl)) ?_
  refine w_iload rfl (ld_s1 (by decide) g4 (fun _ => rfl)) ?_
  refine w_iconst (v := 1) rfl (by decide) ?_
  refine w_iaddN (x := i) (y := 1) rfl rfl rfl ?_
  refine w_sldN (j := (i + 1)) rfl rfl ⟨by omega, by omega⟩ ?_
  refine w_virtual rfl rfl hb1 ⟨(Nat.le_of_ble_eq_true rfl), rfl, (Nat.le_of_ble_eq_true rfl), (Nat.le_of_ble_eq_true rfl)⟩ rfl (Nat.le_of_ble_eq_true rfl) (hMo) ?_
  rintro _ _ ⟨rfl, rfl⟩
  refine ⟨_, rfl, ?_⟩
  refine w_istore rfl (Nat.le_of_ble_eq_true rfl) ?_
  refine w_aload_n rfl (ld_s1 (by decide) (ld_s1 (by decide) g2 (fun _ => rfl)) (fun _ => rfl)) ?_
  refine w_virtual rfl rfl hb2 ⟨(Nat.le_of_ble_eq_true rfl), rfl, (Nat.le_of_ble_eq_true rfl), (Nat.le_of_ble_eq_true rfl)⟩ rfl (Nat.le_of_ble_eq_true rfl) hT ?_
  rintro _ _ ⟨rfl, rfl⟩
  refine ⟨_, rfl, ?_⟩
  refine w_iload rfl (ld_s1 (by decide) ld_self (fun _ => rfl)) ?_
  refine w_if_icmp_eq rfl rfl (fun c389 => ?_) (fun c389 => ?_)
  · refine w_iload rfl (ld_s1 (by decide) ld_self (fun _ => rfl)) ?_
    refine w_ifCond_ne rfl rfl (fun c396 => ?_) (fun c396 => ?_)
    · refine w_goto rfl rfl ?_
      exact G _ (ld_s1 (by decide) (ld_s1 (by decide) g0 (fun _ => rfl)) (fun _ => rfl)) (ld_s1 (by decide) (ld_s1 (by decide) g1 (fun _ => rfl)) (fun _ => rfl)) (ld_s1 (by decide) (ld_s1 (by decide) g2 (fun _ => rfl)) (fun _ => rfl)) (ld_s1 (by decide) (ld_s1 (by decide) g3 (fun _ => rfl)) (fun _ => rfl)) (ld_s1 (by decide) (ld_s1 (by decide) g4 (fun _ => rfl)) (fun _ => rfl))
    · refine w_aload_n rfl (ld_s1 (by decide) (ld_s1 (by decide) g3 (fun _ => rfl)) (fun _ => rfl)) ?_
      refine w_iconst (v := 0) rfl (by decide) ?_
      refine w_laload rfl hO (by decide) rfl ?_
      refine w_iload rfl ld_self ?_
      refine w_ifCond_eq rfl rfl (fun c404 => ?_) (fun c404 => ?_)
      · refine w_lconst (v := 0) rfl (by decide) ?_
        refine w_lcmp rfl ?_
        refine w_ifCond_eq rfl rfl (fun c413 => ?_) (fun c413 => ?_)
        · refine w_goto rfl rfl ?_
          exact G _ (ld_s1 (by decide) (ld_s1 (by decide) g0 (fun _ => rfl)) (fun _ => rfl)) (ld_s1 (by decide) (ld_s1 (by decide) g1 (fun _ => rfl)) (fun _ => rfl)) (ld_s1 (by decide) (ld_s1 (by decide) g2 (fun _ => rfl)) (fun _ => rfl)) (ld_s1 (by decide) (ld_s1 (by decide) g3 (fun _ => rfl)) (fun _ => rfl)) (ld_s1 (by decide) (ld_s1 (by decide) g4 (fun _ => rfl)) (fun _ => rfl))
        · exact absurd (by rw [(hkv c396).1 c404]; exact lg_self _) c413
      · refine w_lconst (v := 1) rfl (by decide) ?_
        refine w_goto rfl rfl ?_
        refine w_lcmp rfl ?_
        refine w_ifCond_eq rfl rfl (fun c413 => ?_) (fun c413 => ?_)
        · refine w_goto rfl rfl ?_
          exact G _ (ld_s1 (by decide) (ld_s1 (by decide) g0 (fun _ => rfl)) (fun _ => rfl)) (ld_s1 (by decide) (ld_s1 (by decide) g1 (fun _ => rfl)) (fun _ => rfl)) (ld_s1 (by decide) (ld_s1 (by decide) g2 (fun _ => rfl)) (fun _ => rfl)) (ld_s1 (by decide) (ld_s1 (by decide) g3 (fun _ => rfl)) (fun _ => rfl)) (ld_s1 (by decide) (ld_s1 (by decide) g4 (fun _ => rfl)) (fun _ => rfl))
        · exact absurd (by rw [(hkv c396).2 c404]; exact lg_self _) c413
  · exact absurd rfl c389
set_option maxRecDepth 100000 in
set_option maxHeartbeats 1000000 in
theorem lc_lie {sc : pm_Sc} {c c1 c2 : CX} {i : Nat} (hs : i + 4 ≤ sc.1 ∧ sc.1 < 2 ^ 31 - 10) (hc : 73 < c.1.length) {m1 : List Value} (hb1 : (hx c1).1[31]? = some (.inr (8, m1))) {k w : Int32} {v : Int64} {m2 : List Value} (hb2 : (hx c2).1[31]? = some (.inr (8, m2))) (hO : (hx c2).1[73]? = some (outC v)) (hL : pu sc 131 [.ref 0, .int (sc.2 (i + 1)), .int (sc.2 (i + 2)), .ref 73] (hx c) (pz (some (.int k)) (hx c1))) (hMo : pu sc 117 [.ref 31, .int (sc.2 (i + 1)), .int (sc.2 (i + 2))] (hx c1) (pz (some (.int w)) (hx c2))) (hT : pu sc 73 [.ref 31] (hx c2) (pz (some (.int k)) (hx c2))) (hkv : k = 0 → (w = 0 → v = 0) ∧ (¬ w = 0 → v = 1)) {Q : (Option Value ⊕ Nat) → pm_H → Prop} (G : ∀ lv, pm_ld lv 0 = some (.retAddr 0) → pm_ld lv 1 = some (.ref 0) → pm_ld lv 2 = some (.ref 31) → pm_ld lv 3 = some (.ref 73) → pm_ld lv 4 = some (.int (nI i)) → pw sc 136 (801, lv, [], hx c2) Q) : ∀ lv, pm_ld lv 0 = some (.retAddr 0) → pm_ld lv 1 = some (.ref 0) → pm_ld lv 2 = some (.ref 31) → pm_ld lv 3 = some (.ref 73) → pm_ld lv 4 = some (.int (nI i)) → pw sc 136 (421, lv, [], hx c) Q := by
  intro lv g0 g1 g2 g3 g4
  refine w_aload_n rfl g1 ?_
  refine w_aload_nS rfl g0 ?_
  refine w_iload rfl g4 ?_
  refine w_iconst (v := 1) rfl (by decide) ?_
  refine w_iaddN (x := i) (y := 1) rfl rfl rfl ?_
  refine w_sldN (j := (i + 1)) rfl rfl ⟨by omega, by omega⟩ ?_
  refine w_aload_nS rfl g0 ?_
  refine w_iload rfl g4 ?_
  refine w_iconst (v := 2) rfl (by decide) ?_
  refine w_iaddN (x := i) (y := 2) rfl rfl rfl ?_
  refine w_sldN (j := (i + 2)) rfl rfl ⟨by omega, by omega⟩ ?_
  refine w_aload_n rfl g3 ?_
  refine w_static rfl (by decide) rfl ⟨(Nat.le_of_ble_eq_true rfl), (Nat.le_of_ble_eq_true rfl), (Nat.le_of_ble_eq_true rfl)⟩ rfl (Nat.le_of_ble_eq_true rfl) (hL) ?_
  rintro _ _ ⟨rfl, rfl⟩
  refine ⟨_, rfl, ?_⟩
  refine w_istore rfl (Nat.le_of_ble_eq_true rfl) ?_
  refine w_aload_n rfl (ld_s1 (by decide) g2 (fun _ => rfl)) ?_
  refine w_aload_nS rfl (ld_s1 (by decide) g0 (fun _ => rfl)) ?_
  refine w_iload rfl (ld_s1 (by decide) g4 (fun _ => rfl)) ?_
  refine w_iconst (v := 1) rfl (by decide) ?_
  refine w_iaddN (x := i) (y := 1) rfl rfl rfl ?_
  refine w_sldN (j := (i + 1)) rfl rfl ⟨by omega, by omega⟩ ?_
  refine w_aload_nS rfl (ld_s1 (by decide) g0 (fun _ => rfl)) ?_
  refine w_iload rfl (ld_s1 (by decide) g4 (fun _ => rfl)) ?_
  refine w_iconst (v := 2) rfl (by decide) ?_
  refine w_iaddN (x := i) (y := 2) rfl rfl rfl ?_
  refine w_sldN (j := (i + 2)) rfl rfl ⟨by omega, by omega⟩ ?_
  refine w_virtual rfl rfl hb1 ⟨(Nat.le_of_ble_eq_true rfl), rfl, (Nat.le_of_ble_eq_true rfl), (Nat.le_of_ble_eq_true rfl)⟩ rfl (Nat.le_of_ble_eq_true rfl) (hMo) ?_
  rintro _ _ ⟨rfl, rfl⟩
  refine ⟨_, rfl, ?_⟩
  refine w_istore rfl (Nat.le_of_ble_eq_true rfl) ?_
  refine w_aload_n rfl (ld_s1 (by decide) (ld_s1 (by decide) g2 (fun _ => rfl)) (fun _ => rfl)) ?_
  refine w_virtual rfl rfl hb2 ⟨(Nat.le_of_ble_eq_true rfl), rfl, (Nat.le_of_ble_eq_true rfl), (Nat.le_of_ble_eq_true rfl)⟩ rfl (Nat.le_of_ble_eq_true rfl) hT ?_
  rintro _ _ ⟨rfl, rfl⟩
  refine ⟨_, rfl, ?_⟩
  refine w_iload rfl (ld_s1 (by decide) ld_self (fun _ => rfl)) ?_
  refine w_if_icmp_eq rfl rfl (fun c464 => ?_) (fun c464 => ?_)
  · refine w_iload rfl (ld_s1 (by decide) ld_self (fun _ => rfl)) ?_
    refine w_ifCond_ne rfl rfl (fun c471 => ?_) (fun c471 => ?_)
    · refine w_goto rfl rfl ?_
      exact G _ (ld_s1 (by decide) (ld_s1 (by decide) g0 (fun _ => rfl)) (fun _ => rfl)) (ld_s1 (by decide) (ld_s1 (by decide) g1 (fun _ => rfl)) (fun _ => rfl)) (ld_s1 (by decide) (ld_s1 (by decide) g2 (fun _ => rfl)) (fun _ => rfl)) (ld_s1 (by decide) (ld_s1 (by decide) g3 (fun _ => rfl)) (fun _ => rfl)) (ld_s1 (by decide) (ld_s1 (by decide) g4 (fun _ => rfl)) (fun _ => rfl))
    · refine w_aload_n rfl (ld_s1 (by decide) (ld_s1 (by decide) g3 (fun _ => rfl)) (fun _ => rfl)) ?_
      refine w_iconst (v := 0) rfl (by decide) ?_
      refine w_laload rfl hO (by decide) rfl ?_
      refine w_iload rfl ld_self ?_
      refine w_ifCond_eq rfl rfl (fun c479 => ?_) (fun c479 => ?_)
      · refine w_lconst (v := 0) rfl (by decide) ?_
        refine w_lcmp rfl ?_
        refine w_ifCond_eq rfl rfl (fun c488 => ?_) (fun c488 => ?_)
        · refine w_goto rfl rfl ?_
          exact G _ (ld_s1 (by decide) (ld_s1 (by decide) g0 (fun _ => rfl)) (fun _ => rfl)) (ld_s1 (by decide) (ld_s1 (by decide) g1 (fun _ => rfl)) (fun _ => rfl)) (ld_s1 (by decide) (ld_s1 (by decide) g2 (fun _ => rfl)) (fun _ => rfl)) (ld_s1 (by decide) (ld_s1 (by decide) g3 (fun _ => rfl)) (fun _ => rfl)) (ld_s1 (by decide) (ld_s1 (by decide) g4 (fun _ => rfl)) (fun _ => rfl))
        · exact absurd (by rw [(hkv c471).1 c479]; exact lg_self _) c488
      · refine w_lconst (v := 1) rfl (by decide) ?_
        refine w_goto rfl rfl ?_
        refine w_lcmp rfl ?_
        refine w_ifCond_eq rfl rfl (fun c488 => ?_) (fun c488 => ?_)
        · refine w_goto rfl rfl ?_
          exact G _ (ld_s1 (by decide) (ld_s1 (by decide) g0 (fun _ => rfl)) (fun _ => rfl)) (ld_s1 (by decide) (ld_s1 (by decide) g1 (fun _ => rfl)) (fun _ => rfl)) (ld_s1 (by decide) (ld_s1 (by decide) g2 (fun _ => rfl)) (fun _ => rfl)) (ld_s1 (by decide) (ld_s1 (by decide) g3 (fun _ => rfl)) (fun _ => rfl)) (ld_s1 (by decide) (ld_s1 (by decide) g4 (fun _ => rfl)) (fun _ => rfl))
        · exact absurd (by rw [(hkv c471).2 c479]; exact lg_self _) c488
  · exact absurd rfl c464
set_option maxRecDepth 100000 in
set_option maxHeartbeats 1000000 in
theorem lc_echo {sc : pm_Sc} {c c1 c2 : CX} {i : Nat} (hs : i + 4 ≤ sc.1 ∧ sc.1 < 2 ^ 31 - 10) (hc : 73 < c.1.length) {m1 : List Value} (hb1 : (hx c1).1[31]? = some (.inr (8, m1))) {k w : Int32} {v : Int64} {m2 : List Value} (hb2 : (hx c2).1[31]? = some (.inr (8, m2))) (hO : (hx c2).1[73]? = some (outC v)) (hL : pu sc 132 [.ref 0, .int (sc.2 (i + 1)), .int (sc.2 (i + 2)), .ref 73] (hx c) (pz (some (.int k)) (hx c1))) (hMo : pu sc 118 [.ref 31, .int (sc.2 (i + 1)), .int (sc.2 (i + 2))] (hx c1) (pz (some (.int w)) (hx c2))) (hT : pu sc 73 [.ref 31] (hx c2) (pz (some (.int k)) (hx c2))) (hkv : k = 0 → (w = 0 → v = 0) ∧ (¬ w = 0 → v = 1)) {Q : (Option Value ⊕ Nat) → pm_H → Prop} (G : ∀ lv, pm_ld lv 0 = some (.retAddr 0) → pm_ld lv 1 = some (.ref 0) → pm_ld lv 2 = some (.ref 31) → pm_ld lv 3 = some (.ref 73) → pm_ld lv 4 = some (.int (nI i)) → pw sc 136 (801, lv, [], hx c2) Q) : ∀ lv, pm_ld lv 0 = some (.retAddr 0) → pm_ld lv 1 = some (.ref 0) → pm_ld lv 2 = some (.ref 31) → pm_ld lv 3 = some (.ref 73) → pm_ld lv 4 = some (.int (nI i)) → pw sc 136 (496, lv, [], hx c) Q := by
  intro lv g0 g1 g2 g3 g4
  refine w_aload_n rfl g1 ?_
  refine w_aload_nS rfl g0 ?_
  refine w_iload rfl g4 ?_
  refine w_iconst (v := 1) rfl (by decide) ?_
  refine w_iaddN (x := i) (y := 1) rfl rfl rfl ?_
  refine w_sldN (j := (i + 1)) rfl rfl ⟨by omega, by omega⟩ ?_
  refine w_aload_nS rfl g0 ?_
  refine w_iload rfl g4 ?_
  refine w_iconst (v := 2) rfl (by decide) ?_
  refine w_iaddN (x := i) (y := 2) rfl rfl rfl ?_
  refine w_sldN (j := (i + 2)) rfl rfl ⟨by omega, by omega⟩ ?_
  refine w_aload_n rfl g3 ?_
  refine w_static rfl (by decide) rfl ⟨(Nat.le_of_ble_eq_true rfl), (Nat.le_of_ble_eq_true rfl), (Nat.le_of_ble_eq_true rfl)⟩ rfl (Nat.le_of_ble_eq_true rfl) (hL) ?_
  rintro _ _ ⟨rfl, rfl⟩
  refine ⟨_, rfl, ?_⟩
  refine w_istore rfl (Nat.le_of_ble_eq_true rfl) ?_
  refine w_aload_n rfl (ld_s1 (by decide) g2 (fun _ => rfl)) ?_
  refine w_aload_nS rfl (ld_s1 (by decide) g0 (fun _ => rfl)) ?_
  refine w_iload rfl (ld_s1 (by decide) g4 (fun _ => rfl)) ?_
  refine w_iconst (v := 1) rfl (by decide) ?_
  refine w_iaddN (x := i) (y := 1) rfl rfl rfl ?_
  refine w_sldN (j := (i + 1)) rfl rfl ⟨by omega, by omega⟩ ?_
  refine w_aload_nS rfl (ld_s1 (by decide) g0 (fun _ => rfl)) ?_
  refine w_iload rfl (ld_s1 (by decide) g4 (fun _ => rfl)) ?_
  refine w_iconst (v := 2) rfl (by decide) ?_
  refine w_iaddN (x := i) (y := 2) rfl rfl rfl ?_
  refine w_sldN (j := (i + 2)) rfl rfl ⟨by omega, by omega⟩ ?_
  refine w_virtual rfl rfl hb1 ⟨(Nat.le_of_ble_eq_true rfl), rfl, (Nat.le_of_ble_eq_true rfl), (Nat.le_of_ble_eq_true rfl)⟩ rfl (Nat.le_of_ble_eq_true rfl) (hMo) ?_
  rintro _ _ ⟨rfl, rfl⟩
  refine ⟨_, rfl, ?_⟩
  refine w_istore rfl (Nat.le_of_ble_eq_true rfl) ?_
  refine w_aload_n rfl (ld_s1 (by decide) (ld_s1 (by decide) g2 (fun _ => rfl)) (fun _ => rfl)) ?_
  refine w_virtual rfl rfl hb2 ⟨(Nat.le_of_ble_eq_true rfl), rfl, (Nat.le_of_ble_eq_true rfl), (Nat.le_of_ble_eq_true rfl)⟩ rfl (Nat.le_of_ble_eq_true rfl) hT ?_
  rintro _ _ ⟨rfl, rfl⟩
  refine ⟨_, rfl, ?_⟩
  refine w_iload rfl (ld_s1 (by decide) ld_self (fun _ => rfl)) ?_
  refine w_if_icmp_eq rfl rfl (fun c539 => ?_) (fun c539 => ?_)
  · refine w_iload rfl (ld_s1 (by decide) ld_self (fun _ => rfl)) ?_
    refine w_ifCond_ne rfl rfl (fun c546 => ?_) (fun c546 => ?_)
    · refine w_goto rfl rfl ?_
      exact G _ (ld_s1 (by decide) (ld_s1 (by decide) g0 (fun _ => rfl)) (fun _ => rfl)) (ld_s1 (by decide) (ld_s1 (by decide) g1 (fun _ => rfl)) (fun _ => rfl)) (ld_s1 (by decide) (ld_s1 (by decide) g2 (fun _ => rfl)) (fun _ => rfl)) (ld_s1 (by decide) (ld_s1 (by decide) g3 (fun _ => rfl)) (fun _ => rfl)) (ld_s1 (by decide) (ld_s1 (by decide) g4 (fun _ => rfl)) (fun _ => rfl))
    · refine w_aload_n rfl (ld_s1 (by decide) (ld_s1 (by decide) g3 (fun _ => rfl)) (fun _ => rfl)) ?_
      refine w_iconst (v := 0) rfl (by decide) ?_
      refine w_laload rfl hO (by decide) rfl ?_
      refine w_iload rfl ld_self ?_
      refine w_ifCond_eq rfl rfl (fun c554 => ?_) (fun c554 => ?_)
      · refine w_lconst (v := 0) rfl (by decide) ?_
        refine w_lcmp rfl ?_
        refine w_ifCond_eq rfl rfl (fun c563 => ?_) (fun c563 => ?_)
        · refine w_goto rfl rfl ?_
          exact G _ (ld_s1 (by decide) (ld_s1 (by decide) g0 (fun _ => rfl)) (fun _ => rfl)) (ld_s1 (by decide) (ld_s1 (by decide) g1 (fun _ => rfl)) (fun _ => rfl)) (ld_s1 (by decide) (ld_s1 (by decide) g2 (fun _ => rfl)) (fun _ => rfl)) (ld_s1 (by decide) (ld_s1 (by decide) g3 (fun _ => rfl)) (fun _ => rfl)) (ld_s1 (by decide) (ld_s1 (by decide) g4 (fun _ => rfl)) (fun _ => rfl))
        · exact absurd (by rw [(hkv c546).1 c554]; exact lg_self _) c563
      · refine w_lconst (v := 1) rfl (by decide) ?_
        refine w_goto rfl rfl ?_
        refine w_lcmp rfl ?_
        refine w_ifCond_eq rfl rfl (fun c563 => ?_) (fun c563 => ?_)
        · refine w_goto rfl rfl ?_
          exact G _ (ld_s1 (by decide) (ld_s1 (by decide) g0 (fun _ => rfl)) (fun _ => rfl)) (ld_s1 (by decide) (ld_s1 (by decide) g1 (fun _ => rfl)) (fun _ => rfl)) (ld_s1 (by decide) (ld_s1 (by decide) g2 (fun _ => rfl)) (fun _ => rfl)) (ld_s1 (by decide) (ld_s1 (by decide) g3 (fun _ => rfl)) (fun _ => rfl)) (ld_s1 (by decide) (ld_s1 (by decide) g4 (fun _ => rfl)) (fun _ => rfl))
        · exact absurd (by rw [(hkv c546).2 c554]; exact lg_self _) c563
  · exact absurd rfl c539
set_option maxRecDepth 100000 in
set_option maxHeartbeats 1000000 in
theorem lc_replica {sc : pm_Sc} {c c1 c2 : CX} {i : Nat} (hs : i + 4 ≤ sc.1 ∧ sc.1 < 2 ^ 31 - 10) (hc : 73 < c.1.length) {m1 : List Value} (hb1 : (hx c1).1[31]? = some (.inr (8, m1))) {k w : Int32} {v : Int64} {m2 : List Value} (hb2 : (hx c2).1[31]? = some (.inr (8, m2))) (hO : (hx c2).1[73]? = some (outC v)) (hL : pu sc 133 [.ref 0, .int (sc.2 (i + 1)), .int (sc.2 (i + 2)), .ref 73] (hx c) (pz (some (.int k)) (hx c1))) (hMo : pu sc 119 [.ref 31, .int (sc.2 (i + 1)), .int (sc.2 (i + 2))] (hx c1) (pz (some (.int w)) (hx c2))) (hT : pu sc 73 [.ref 31] (hx c2) (pz (some (.int k)) (hx c2))) (hkv : k = 0 → v = w.toInt64) {Q : (Option Value ⊕ Nat) → pm_H → Prop} (G : ∀ lv, pm_ld lv 0 = some (.retAddr 0) → pm_ld lv 1 = some (.ref 0) → pm_ld lv 2 = some (.ref 31) → pm_ld lv 3 = some (.ref 73) → pm_ld lv 4 = some (.int (nI i)) → pw sc 136 (801, lv, [], hx c2) Q) : ∀ lv, pm_ld lv 0 = some (.retAddr 0) → pm_ld lv 1 = some (.ref 0) → pm_ld lv 2 = some (.ref 31) → pm_ld lv 3 = some (.ref 73) → pm_ld lv 4 = some (.int (nI i)) → pw sc 136 (571, lv, [], hx c) Q := by
  intro lv g0 g1 g2 g3 g4
  refine w_aload_n rfl g1 ?_
  refine w_aload_nS rfl g0 ?_
  refine w_iload rfl g4 ?_
  refine w_iconst (v := 1) rfl (by decide) ?_
  refine w_iaddN (x := i) (y := 1) rfl rfl rfl ?_
  refine w_sldN (j := (i + 1)) rfl rfl ⟨by omega, by omega⟩ ?_
  refine w_aload_nS rfl g0 ?_
  refine w_iload rfl g4 ?_
  refine w_iconst (v := 2) rfl (by decide) ?_
  refine w_iaddN (x := i) (y := 2) rfl rfl rfl ?_
  refine w_sldN (j := (i + 2)) rfl rfl ⟨by omega, by omega⟩ ?_
  refine w_aload_n rfl g3 ?_
  refine w_static rfl (by decide) rfl ⟨(Nat.le_of_ble_eq_true rfl), (Nat.le_of_ble_eq_true rfl), (Nat.le_of_ble_eq_true rfl)⟩ rfl (Nat.le_of_ble_eq_true rfl) (hL) ?_
  rintro _ _ ⟨rfl, rfl⟩
  refine ⟨_, rfl, ?_⟩
  refine w_istore rfl (Nat.le_of_ble_eq_true rfl) ?_
  refine w_aload_n rfl (ld_s1 (by decide) g2 (fun _ => rfl)) ?_
  refine w_aload_nS rfl (ld_s1 (by decide) g0 (fun _ => rfl)) ?_
  refine w_iload rfl (ld_s1 (by decide) g4 (fun _ => rfl)) ?_
  refine w_iconst (v := 1) rfl (by decide) ?_
  refine w_iaddN (x := i) (y := 1) rfl rfl rfl ?_
  refine w_sldN (j := (i + 1)) rfl rfl ⟨by omega, by omega⟩ ?_
  refine w_aload_nS rfl (ld_s1 (by decide) g0 (fun _ => rfl)) ?_
  refine w_iload rfl (ld_s1 (by decide) g4 (fun _ => rfl)) ?_
  refine w_iconst (v := 2) rfl (by decide) ?_
  refine w_iaddN (x := i) (y := 2) rfl rfl rfl ?_
  refine w_sldN (j := (i + 2)) rfl rfl ⟨by omega, by omega⟩ ?_
  refine w_virtual rfl rfl hb1 ⟨(Nat.le_of_ble_eq_true rfl), rfl, (Nat.le_of_ble_eq_true rfl), (Nat.le_of_ble_eq_true rfl)⟩ rfl (Nat.le_of_ble_eq_true rfl) (hMo) ?_
  rintro _ _ ⟨rfl, rfl⟩
  refine ⟨_, rfl, ?_⟩
  refine w_istore rfl (Nat.le_of_ble_eq_true rfl) ?_
  refine w_aload_n rfl (ld_s1 (by decide) (ld_s1 (by decide) g2 (fun _ => rfl)) (fun _ => rfl)) ?_
  refine w_virtual rfl rfl hb2 ⟨(Nat.le_of_ble_eq_true rfl), rfl, (Nat.le_of_ble_eq_true rfl), (Nat.le_of_ble_eq_true rfl)⟩ rfl (Nat.le_of_ble_eq_true rfl) hT ?_
  rintro _ _ ⟨rfl, rfl⟩
  refine ⟨_, rfl, ?_⟩
  refine w_iload rfl (ld_s1 (by decide) ld_self (fun _ => rfl)) ?_
  refine w_if_icmp_eq rfl rfl (fun c614 => ?_) (fun c614 => ?_)
  · refine w_iload rfl (ld_s1 (by decide) ld_self (fun _ => rfl)) ?_
    refine w_ifCond_ne rfl rfl (fun c621 => ?_) (fun c621 => ?_)
    · refine w_goto rfl rfl ?_
      exact G _ (ld_s1 (by decide) (ld_s1 (by decide) g0 (fun _ => rfl)) (fun _ => rfl)) (ld_s1 (by decide) (ld_s1 (by decide) g1 (fun _ => rfl)) (fun _ => rfl)) (ld_s1 (by decide) (ld_s1 (by decide) g2 (fun _ => rfl)) (fun _ => rfl)) (ld_s1 (by decide) (ld_s1 (by decide) g3 (fun _ => rfl)) (fun _ => rfl)) (ld_s1 (by decide) (ld_s1 (by decide) g4 (fun _ => rfl)) (fun _ => rfl))
    · refine w_aload_n rfl (ld_s1 (by decide) (ld_s1 (by decide) g3 (fun _ => rfl)) (fun _ => rfl)) ?_
      refine w_iconst (v := 0) rfl (by decide) ?_
      refine w_laload rfl hO (by decide) rfl ?_
      refine w_iload rfl ld_self ?_
      refine w_i2l rfl ?_
      refine w_lcmp rfl ?_
      refine w_ifCond_eq rfl rfl (fun c631 => ?_) (fun c631 => ?_)
      · refine w_goto rfl rfl ?_
        exact G _ (ld_s1 (by decide) (ld_s1 (by decide) g0 (fun _ => rfl)) (fun _ => rfl)) (ld_s1 (by decide) (ld_s1 (by decide) g1 (fun _ => rfl)) (fun _ => rfl)) (ld_s1 (by decide) (ld_s1 (by decide) g2 (fun _ => rfl)) (fun _ => rfl)) (ld_s1 (by decide) (ld_s1 (by decide) g3 (fun _ => rfl)) (fun _ => rfl)) (ld_s1 (by decide) (ld_s1 (by decide) g4 (fun _ => rfl)) (fun _ => rfl))
      · exact absurd (by rw [hkv c621]; exact lg_self _) c631
  · exact absurd rfl c614
set_option maxRecDepth 100000 in
set_option maxHeartbeats 1000000 in
theorem lc_messages {sc : pm_Sc} {c c1 c2 : CX} {i : Nat} (hs : i + 4 ≤ sc.1 ∧ sc.1 < 2 ^ 31 - 10) (hc : 73 < c.1.length) {m1 : List Value} (hb1 : (hx c1).1[31]? = some (.inr (8, m1))) {r : Int32} (hL : pu sc 64 [.ref 0] (hx c) (pz (some (.int r)) (hx c1))) (hMo : pu sc 120 [.ref 31] (hx c1) (pz (some (.int r)) (hx c2))) {Q : (Option Value ⊕ Nat) → pm_H → Prop} (G : ∀ lv, pm_ld lv 0 = some (.retAddr 0) → pm_ld lv 1 = some (.ref 0) → pm_ld lv 2 = some (.ref 31) → pm_ld lv 3 = some (.ref 73) → pm_ld lv 4 = some (.int (nI i)) → pw sc 136 (801, lv, [], hx c2) Q) : ∀ lv, pm_ld lv 0 = some (.retAddr 0) → pm_ld lv 1 = some (.ref 0) → pm_ld lv 2 = some (.ref 31) → pm_ld lv 3 = some (.ref 73) → pm_ld lv 4 = some (.int (nI i)) → pw sc 136 (639, lv, [], hx c) Q := by
  intro lv g0 g1 g2 g3 g4
  refine w_aload_n rfl g1 ?_
  refine w_virtual rfl rfl (cs0 hc) ⟨(Nat.le_of_ble_eq_true rfl), rfl, (Nat.le_of_ble_eq_true rfl), (Nat.le_of_ble_eq_true rfl)⟩ rfl (Nat.le_of_ble_eq_true rfl) (hL) ?_
  rintro _ _ ⟨rfl, rfl⟩
  refine ⟨_, rfl, ?_⟩
  refine w_aload_n rfl g2 ?_
  refine w_virtual rfl rfl hb1 ⟨(Nat.le_of_ble_eq_true rfl), rfl, (Nat.le_of_ble_eq_true rfl), (Nat.le_of_ble_eq_true rfl)⟩ rfl (Nat.le_of_ble_eq_true rfl) (hMo) ?_
  rintro _ _ ⟨rfl, rfl⟩
  refine ⟨_, rfl, ?_⟩
  refine w_if_icmp_eq rfl rfl (fun c647 => ?_) (fun c647 => ?_)
  · exact G _ g0 g1 g2 g3 g4
  · exact absurd rfl c647
set_option maxRecDepth 100000 in
set_option maxHeartbeats 1000000 in
theorem lc_message {sc : pm_Sc} {c c1 c2 : CX} {i : Nat} (hs : i + 4 ≤ sc.1 ∧ sc.1 < 2 ^ 31 - 10) (hc : 73 < c.1.length) {m1 : List Value} (hb1 : (hx c1).1[31]? = some (.inr (8, m1))) {k w : Int32} {v : Int64} {m2 : List Value} (hb2 : (hx c2).1[31]? = some (.inr (8, m2))) (hO : (hx c2).1[73]? = some (outC v)) (hL : pu sc 134 [.ref 0, .int (sc.2 (i + 1)), .int (sc.2 (i + 2)), .ref 73] (hx c) (pz (some (.int k)) (hx c1))) (hMo : pu sc 121 [.ref 31, .int (sc.2 (i + 1)), .int (sc.2 (i + 2))] (hx c1) (pz (some (.int w)) (hx c2))) (hT : pu sc 73 [.ref 31] (hx c2) (pz (some (.int k)) (hx c2))) (hkv : k = 0 → v = w.toInt64) {Q : (Option Value ⊕ Nat) → pm_H → Prop} (G : ∀ lv, pm_ld lv 0 = some (.retAddr 0) → pm_ld lv 1 = some (.ref 0) → pm_ld lv 2 = some (.ref 31) → pm_ld lv 3 = some (.ref 73) → pm_ld lv 4 = some (.int (nI i)) → pw sc 136 (801, lv, [], hx c2) Q) : ∀ lv, pm_ld lv 0 = some (.retAddr 0) → pm_ld lv 1 = some (.ref 0) → pm_ld lv 2 = some (.ref 31) → pm_ld lv 3 = some (.ref 73) → pm_ld lv 4 = some (.int (nI i)) → pw sc 136 (652, lv, [], hx c) Q := by
  intro lv g0 g1 g2 g3 g4
  refine w_aload_n rfl g1 ?_
  refine w_aload_nS rfl g0 ?_
  refine w_iload rfl g4 ?_
  refine w_iconst (v := 1) rfl (by decide) ?_
  refine w_iaddN (x := i) (y := 1) rfl rfl rfl ?_
  refine w_sldN (j := (i + 1)) rfl rfl ⟨by omega, by omega⟩ ?_
  refine w_aload_nS rfl g0 ?_
  refine w_iload rfl g4 ?_
  refine w_iconst (v := 2) rfl (by decide) ?_
  refine w_iaddN (x := i) (y := 2) rfl rfl rfl ?_
  refine w_sldN (j := (i + 2)) rfl rfl ⟨by omega, by omega⟩ ?_
  refine w_aload_n rfl g3 ?_
  refine w_static rfl (by decide) rfl ⟨(Nat.le_of_ble_eq_true rfl), (Nat.le_of_ble_eq_true rfl), (Nat.le_of_ble_eq_true rfl)⟩ rfl (Nat.le_of_ble_eq_true rfl) (hL) ?_
  rintro _ _ ⟨rfl, rfl⟩
  refine ⟨_, rfl, ?_⟩
  refine w_istore rfl (Nat.le_of_ble_eq_true rfl) ?_
  refine w_aload_n rfl (ld_s1 (by decide) g2 (fun _ => rfl)) ?_
  refine w_aload_nS rfl (ld_s1 (by decide) g0 (fun _ => rfl)) ?_
  refine w_iload rfl (ld_s1 (by decide) g4 (fun _ => rfl)) ?_
  refine w_iconst (v := 1) rfl (by decide) ?_
  refine w_iaddN (x := i) (y := 1) rfl rfl rfl ?_
  refine w_sldN (j := (i + 1)) rfl rfl ⟨by omega, by omega⟩ ?_
  refine w_aload_nS rfl (ld_s1 (by decide) g0 (fun _ => rfl)) ?_
  refine w_iload rfl (ld_s1 (by decide) g4 (fun _ => rfl)) ?_
  refine w_iconst (v := 2) rfl (by decide) ?_
  refine w_iaddN (x := i) (y := 2) rfl rfl rfl ?_
  refine w_sldN (j := (i + 2)) rfl rfl ⟨by omega, by omega⟩ ?_
  refine w_virtual rfl rfl hb1 ⟨(Nat.le_of_ble_eq_true rfl), rfl, (Nat.le_of_ble_eq_true rfl), (Nat.le_of_ble_eq_true rfl)⟩ rfl (Nat.le_of_ble_eq_true rfl) (hMo) ?_
  rintro _ _ ⟨rfl, rfl⟩
  refine ⟨_, rfl, ?_⟩
  refine w_istore rfl (Nat.le_of_ble_eq_true rfl) ?_
  refine w_aload_n rfl (ld_s1 (by decide) (ld_s1 (by decide) g2 (fun _ => rfl)) (fun _ => rfl)) ?_
  refine w_virtual rfl rfl hb2 ⟨(Nat.le_of_ble_eq_true rfl), rfl, (Nat.le_of_ble_eq_true rfl), (Nat.le_of_ble_eq_true rfl)⟩ rfl (Nat.le_of_ble_eq_true rfl) hT ?_
  rintro _ _ ⟨rfl, rfl⟩
  refine ⟨_, rfl, ?_⟩
  refine w_iload rfl (ld_s1 (by decide) ld_self (fun _ => rfl)) ?_
  refine w_if_icmp_eq rfl rfl (fun c695 => ?_) (fun c695 => ?_)
  · refine w_iload rfl (ld_s1 (by decide) ld_self (fun _ => rfl)) ?_
    refine w_ifCond_ne rfl rfl (fun c702 => ?_) (fun c702 => ?_)
    · refine w_goto rfl rfl ?_
      exact G _ (ld_s1 (by decide) (ld_s1 (by decide) g0 (fun _ => rfl)) (fun _ => rfl)) (ld_s1 (by decide) (ld_s1 (by decide) g1 (fun _ => rfl)) (fun _ => rfl)) (ld_s1 (by decide) (ld_s1 (by decide) g2 (fun _ => rfl)) (fun _ => rfl)) (ld_s1 (by decide) (ld_s1 (by decide) g3 (fun _ => rfl)) (fun _ => rfl)) (ld_s1 (by decide) (ld_s1 (by decide) g4 (fun _ => rfl)) (fun _ => rfl))
    · refine w_aload_n rfl (ld_s1 (by decide) (ld_s1 (by decide) g3 (fun _ => rfl)) (fun _ => rfl)) ?_
      refine w_iconst (v := 0) rfl (by decide) ?_
      refine w_laload rfl hO (by decide) rfl ?_
      refine w_iload rfl ld_self ?_
      refine w_i2l rfl ?_
      refine w_lcmp rfl ?_
      refine w_ifCond_eq rfl rfl (fun c712 => ?_) (fun c712 => ?_)
      · refine w_goto rfl rfl ?_
        exact G _ (ld_s1 (by decide) (ld_s1 (by decide) g0 (fun _ => rfl)) (fun _ => rfl)) (ld_s1 (by decide) (ld_s1 (by decide) g1 (fun _ => rfl)) (fun _ => rfl)) (ld_s1 (by decide) (ld_s1 (by decide) g2 (fun _ => rfl)) (fun _ => rfl)) (ld_s1 (by decide) (ld_s1 (by decide) g3 (fun _ => rfl)) (fun _ => rfl)) (ld_s1 (by decide) (ld_s1 (by decide) g4 (fun _ => rfl)) (fun _ => rfl))
      · exact absurd (by rw [hkv c702]; exact lg_self _) c712
  · exact absurd rfl c695
set_option maxRecDepth 100000 in
set_option maxHeartbeats 1000000 in
theorem lc_request {sc : pm_Sc} {c c1 c2 : CX} {i : Nat} (hs : i + 4 ≤ sc.1 ∧ sc.1 < 2 ^ 31 - 10) (hc : 73 < c.1.length) {m1 : List Value} (hb1 : (hx c1).1[31]? = some (.inr (8, m1))) {k w : Int32} {v : Int64} {m2 : List Value} (hb2 : (hx c2).1[31]? = some (.inr (8, m2))) (hO : (hx c2).1[73]? = some (outC v)) (hL : pu sc 135 [.ref 0, .int (sc.2 (i + 1)), .int (sc.2 (i + 2)), .ref 73] (hx c) (pz (some (.int k)) (hx c1))) (hMo : pu sc 123 [.ref 31, .int (sc.2 (i + 1)), .int (sc.2 (i + 2))] (hx c1) (pz (some (.int w)) (hx c2))) (hT : pu sc 73 [.ref 31] (hx c2) (pz (some (.int k)) (hx c2))) (hkv : k = 0 → v = w.toInt64) {Q : (Option Value ⊕ Nat) → pm_H → Prop} (G : ∀ lv, pm_ld lv 0 = some (.retAddr 0) → pm_ld lv 1 = some (.ref 0) → pm_ld lv 2 = some (.ref 31) → pm_ld lv 3 = some (.ref 73) → pm_ld lv 4 = some (.int (nI i)) → pw sc 136 (801, lv, [], hx c2) Q) : ∀ lv, pm_ld lv 0 = some (.retAddr 0) → pm_ld lv 1 = some (.ref 0) → pm_ld lv 2 = some (.ref 31) → pm_ld lv 3 = some (.ref 73) → pm_ld lv 4 = some (.int (nI i)) → pw sc 136 (720, lv, [], hx c) Q := by
  intro lv g0 g1 g2 g3 g4
  refine w_aload_n rfl g1 ?_
  refine w_aload_nS rfl g0 ?_
  refine w_iload rfl g4 ?_
  refine w_iconst (v := 1) rfl (by decide) ?_
  refine w_iaddN (x := i) (y := 1) rfl rfl rfl ?_
  refine w_sldN (j := (i + 1)) rfl rfl ⟨by omega, by omega⟩ ?_
  refine w_aload_nS rfl g0 ?_
  refine w_iload rfl g4 ?_
  refine w_iconst (v := 2) rfl (by decide) ?_
  refine w_iaddN (x := i) (y := 2) rfl rfl rfl ?_
  refine w_sldN (j := (i + 2)) rfl rfl ⟨by omega, by omega⟩ ?_
  refine w_aload_n rfl g3 ?_
  refine w_static rfl (by decide) rfl ⟨(Nat.le_of_ble_eq_true rfl), (Nat.le_of_ble_eq_true rfl), (Nat.le_of_ble_eq_true rfl)⟩ rfl (Nat.le_of_ble_eq_true rfl) (hL) ?_
  rintro _ _ ⟨rfl, rfl⟩
  refine ⟨_, rfl, ?_⟩
  refine w_istore rfl (Nat.le_of_ble_eq_true rfl) ?_
  refine w_aload_n rfl (ld_s1 (by decide) g2 (fun _ => rfl)) ?_
  refine w_aload_nS rfl (ld_s1 (by decide) g0 (fun _ => rfl)) ?_
  refine w_iload rfl (ld_s1 (by decide) g4 (fun _ => rfl)) ?_
  refine w_iconst (v := 1) rfl (by decide) ?_
  refine w_iaddN (x := i) (y := 1) rfl rfl rfl ?_
  refine w_sldN (j := (i + 1)) rfl rfl ⟨by omega, by omega⟩ ?_
  refine w_aload_nS rfl (ld_s1 (by decide) g0 (fun _ => rfl)) ?_
  refine w_iload rfl (ld_s1 (by decide) g4 (fun _ => rfl)) ?_
  refine w_iconst (v := 2) rfl (by decide) ?_
  refine w_iaddN (x := i) (y := 2) rfl rfl rfl ?_
  refine w_sldN (j := (i + 2)) rfl rfl ⟨by omega, by omega⟩ ?_
  refine w_virtual rfl rfl hb1 ⟨(Nat.le_of_ble_eq_true rfl), rfl, (Nat.le_of_ble_eq_true rfl), (Nat.le_of_ble_eq_true rfl)⟩ rfl (Nat.le_of_ble_eq_true rfl) (hMo) ?_
  rintro _ _ ⟨rfl, rfl⟩
  refine ⟨_, rfl, ?_⟩
  refine w_istore rfl (Nat.le_of_ble_eq_true rfl) ?_
  refine w_aload_n rfl (ld_s1 (by decide) (ld_s1 (by decide) g2 (fun _ => rfl)) (fun _ => rfl)) ?_
  refine w_virtual rfl rfl hb2 ⟨(Nat.le_of_ble_eq_true rfl), rfl, (Nat.le_of_ble_eq_true rfl), (Nat.le_of_ble_eq_true rfl)⟩ rfl (Nat.le_of_ble_eq_true rfl) hT ?_
  rintro _ _ ⟨rfl, rfl⟩
  refine ⟨_, rfl, ?_⟩
  refine w_iload rfl (ld_s1 (by decide) ld_self (fun _ => rfl)) ?_
  refine w_if_icmp_eq rfl rfl (fun c763 => ?_) (fun c763 => ?_)
  · refine w_iload rfl (ld_s1 (by decide) ld_self (fun _ => rfl)) ?_
    refine w_ifCond_ne rfl rfl (fun c770 => ?_) (fun c770 => ?_)
    · refine w_goto rfl rfl ?_
      exact G _ (ld_s1 (by decide) (ld_s1 (by decide) g0 (fun _ => rfl)) (fun _ => rfl)) (ld_s1 (by decide) (ld_s1 (by decide) g1 (fun _ => rfl)) (fun _ => rfl)) (ld_s1 (by decide) (ld_s1 (by decide) g2 (fun _ => rfl)) (fun _ => rfl)) (ld_s1 (by decide) (ld_s1 (by decide) g3 (fun _ => rfl)) (fun _ => rfl)) (ld_s1 (by decide) (ld_s1 (by decide) g4 (fun _ => rfl)) (fun _ => rfl))
    · refine w_aload_n rfl (ld_s1 (by decide) (ld_s1 (by decide) g3 (fun _ => rfl)) (fun _ => rfl)) ?_
      refine w_iconst (v := 0) rfl (by decide) ?_
      refine w_laload rfl hO (by decide) rfl ?_
      refine w_iload rfl ld_self ?_
      refine w_i2l rfl ?_
      refine w_lcmp rfl ?_
      refine w_ifCond_eq rfl rfl (fun c780 => ?_) (fun c780 => ?_)
      · refine w_goto rfl rfl ?_
        exact G _ (ld_s1 (by decide) (ld_s1 (by decide) g0 (fun _ => rfl)) (fun _ => rfl)) (ld_s1 (by decide) (ld_s1 (by decide) g1 (fun _ => rfl)) (fun _ => rfl)) (ld_s1 (by decide) (ld_s1 (by decide) g2 (fun _ => rfl)) (fun _ => rfl)) (ld_s1 (by decide) (ld_s1 (by decide) g3 (fun _ => rfl)) (fun _ => rfl)) (ld_s1 (by decide) (ld_s1 (by decide) g4 (fun _ => rfl)) (fun _ => rfl))
      · exact absurd (by rw [hkv c770]; exact lg_self _) c780
  · exact absurd rfl c763
set_option maxRecDepth 100000 in
set_option maxHeartbeats 1000000 in
theorem lc_view {sc : pm_Sc} {c c1 c2 : CX} {i : Nat} (hs : i + 4 ≤ sc.1 ∧ sc.1 < 2 ^ 31 - 10) (hc : 73 < c.1.length) {m1 : List Value} (hb1 : (hx c1).1[31]? = some (.inr (8, m1))) {r : Int32} (hL : pu sc 67 [.ref 0] (hx c) (pz (some (.int r)) (hx c1))) (hMo : pu sc 124 [.ref 31] (hx c1) (pz (some (.int r)) (hx c2))) {Q : (Option Value ⊕ Nat) → pm_H → Prop} (G : ∀ lv, pm_ld lv 0 = some (.retAddr 0) → pm_ld lv 1 = some (.ref 0) → pm_ld lv 2 = some (.ref 31) → pm_ld lv 3 = some (.ref 73) → pm_ld lv 4 = some (.int (nI i)) → pw sc 136 (801, lv, [], hx c2) Q) : ∀ lv, pm_ld lv 0 = some (.retAddr 0) → pm_ld lv 1 = some (.ref 0) → pm_ld lv 2 = some (.ref 31) → pm_ld lv 3 = some (.ref 73) → pm_ld lv 4 = some (.int (nI i)) → pw sc 136 (788, lv, [], hx c) Q := by
  intro lv g0 g1 g2 g3 g4
  refine w_aload_n rfl g1 ?_
  refine w_virtual rfl rfl (cs0 hc) ⟨(Nat.le_of_ble_eq_true rfl), rfl, (Nat.le_of_ble_eq_true rfl), (Nat.le_of_ble_eq_true rfl)⟩ rfl (Nat.le_of_ble_eq_true rfl) (hL) ?_
  rintro _ _ ⟨rfl, rfl⟩
  refine ⟨_, rfl, ?_⟩
  refine w_aload_n rfl g2 ?_
  refine w_virtual rfl rfl hb1 ⟨(Nat.le_of_ble_eq_true rfl), rfl, (Nat.le_of_ble_eq_true rfl), (Nat.le_of_ble_eq_true rfl)⟩ rfl (Nat.le_of_ble_eq_true rfl) (hMo) ?_
  rintro _ _ ⟨rfl, rfl⟩
  refine ⟨_, rfl, ?_⟩
  refine w_if_icmp_eq rfl rfl (fun c796 => ?_) (fun c796 => ?_)
  · exact G _ g0 g1 g2 g3 g4
  · exact absurd rfl c796
