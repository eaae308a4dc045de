-- deps: 66.d2
/-! one call of the law: program and reference go on alike -/
def LSt (s : MS) (c : CX) (t n : Nat) : Prop := All s t ∧ t ≤ 601 * n ∧ R s c ∧ Wm s c.1 ∧ (∃ v, c.1[73]? = some (outC v)) ∧ c.2.2.2.1 ≤ 200 + 70 * n + 55 * dlN s 600 ∧ c.2.2.2.2 ≤ 30000 + 12 * (70 * n + 55 * dlN s 600)
theorem hx_ms {s : MS} {c : CX} (hc : 73 < c.1.length) (hw : Wm s c.1) : hx (msX c s) = hx c := (mc_out hc).symm.trans (mc_in hc hw).symm
theorem th_run {sc : pm_Sc} {s : MS} {c : CX} (hc : 73 < c.1.length) (hw : Wm s c.1) : pu sc 73 [.ref 31] (hx c) (pz (some (.int (s.1 0 0))) (hx c)) := by
  have z := m_run (sc := sc) (m := 73) (args := [.ref 31]) (s := s) (s' := s) (v := some (.int (s.1 0 0))) hc hw (fun h => c_m_thrown h)
  rw [hx_ms hc hw] at z
  exact z
theorem ls_ok {s s' : MS} {c c' : CX} {t t' n b : Nat} {v : Int64} (h : LSt s c t n) (hA : All s' t') (ht : t' ≤ t + 601) (hR : R s' c') (hE : Ext c c' b) (hd : dlN s 600 ≤ dlN s' 600) (hb : b ≤ 60 + 55 * (dlN s' 600 - dlN s 600)) : LSt s' (msX (ouX c' v) s') t' (n + 1) := by
  obtain ⟨h1, h2, h3, h4, h5, h6, h7⟩ := h
  obtain ⟨e1, e2, e3, e4, e5⟩ := hE
  have hc : 73 < c'.1.length := hR.1
  refine ⟨hA, by omega, (hR.ouX v).msX, Wm.msX (hcS hc), ⟨v, out_msX (out_ouX hc)⟩, ?_, ?_⟩
  · show c'.2.2.2.1 ≤ _
    omega
  · show c'.2.2.2.2 ≤ _
    omega
theorem ls_dir {s s' : MS} {c c' : CX} {t t' n b : Nat} (h : LSt s c t n) (hA : All s' t') (ht : t' ≤ t + 601) (hR : R s' c') (hE : Ext c c' b) (hd : dlN s 600 ≤ dlN s' 600) (hb : b ≤ 60 + 55 * (dlN s' 600 - dlN s 600)) : LSt s' (msX c' s') t' (n + 1) := by
  obtain ⟨h1, h2, h3, h4, ⟨v, h5⟩, h6, h7⟩ := h
  obtain ⟨e1, e2, e3, e4, e5⟩ := hE
  have hc : 73 < c'.1.length := hR.1
  refine ⟨hA, by omega, hR.msX, Wm.msX hc, ⟨v, out_msX ((e1 73 (by omega) (by omega)).trans h5)⟩, ?_, ?_⟩
  · show c'.2.2.2.1 ≤ _
    omega
  · show c'.2.2.2.2 ≤ _
    omega
theorem ls_ex {s : MS} {c : CX} {t n : Nat} (k : Int32) (h : LSt s c t n) : LSt (up (up s 0 0 0) 0 0 k) (msX (exX c) (up (up s 0 0 0) 0 0 k)) t (n + 1) := by
  obtain ⟨h1, h2, h3, h4, ⟨v, h5⟩, h6, h7⟩ := h
  have hc : 73 < c.1.length := h3.1
  have hd : dlN (up (up s 0 0 0) 0 0 k) 600 = dlN s 600 := dlN_cong 600 (fun j => (up_n (by omega)).trans (up_n (by omega)))
  refine ⟨all_0 (all_0 h1 0) k, by omega, R.msX (R.exX (h3.scr (fun a j _ _ => (up_n (by omega)).trans (up_n (by omega))) rfl)), Wm.msX hc, ⟨v, out_msX h5⟩, ?_, ?_⟩
  · rw [hd]; show c.2.2.2.1 + 1 ≤ _; omega
  · rw [hd]; show c.2.2.2.2 + 6 ≤ _; omega
theorem num_ne {s : MS} {f : Nat → Int32} {a j : Nat} (h : a ≠ 45) : (numset s f).1 a j = s.1 a j := by
  unfold numset
  exact if_neg h
theorem dl_eq {s s' : MS} (h : ∀ j, s'.1 28 j = s.1 28 j) : dlN s 600 ≤ dlN s' 600 := by rw [dlN_cong 600 h]; exact Nat.le_refl _
set_option maxRecDepth 100000 in
set_option maxHeartbeats 1000000 in
theorem st_issue {sc : pm_Sc} {s : MS} {c : CX} {t n i : Nat} (h : LSt s c t n) (hn : n ≤ 600) (hs : i + 4 ≤ sc.1 ∧ sc.1 < 2 ^ 31 - 10) : ∃ s' c' t', LSt s' c' t' (n + 1) ∧ ∀ {Q : (Option Value ⊕ Nat) → pm_H → Prop}, (∀ lv, pm_ld lv 0 = some (.retAddr 0) → pm_ld lv 1 = some (.ref 0) → pm_ld lv 2 = some (.ref 31) → pm_ld lv 3 = some (.ref 73) → pm_ld lv 4 = some (.int (nI i)) → pw sc 136 (801, lv, [], hx c') Q) → ∀ lv, pm_ld lv 0 = some (.retAddr 0) → pm_ld lv 1 = some (.ref 0) → pm_ld lv 2 = some (.ref 31) → pm_ld lv 3 = some (.ref 73) → pm_ld lv 4 = some (.int (nI i)) → pw sc 136 (116, lv, [], hx c) Q := by
  obtain ⟨hA, ht, hR, hW, ⟨v0, hO⟩, hk1, hk2⟩ := id h
  have hc : 73 < c.1.length := hR.1
  have hz : All (up s 0 0 0) t := all_0 hA 0
  have hRz : R (up s 0 0 0) c := hR.scr (fun a j _ _ => up_n (by omega)) rfl
  have z0 : (up s 0 0 0).1 0 0 = 0 := up_i
  have hdz : ∀ j, (up s 0 0 0).1 28 j = s.1 28 j := fun j => up_n (by omega)
  have ed : dlN (up s 0 0 0) 600 = dlN s 600 := dlN_cong 600 hdz
  have hm := hz.1.m
  have hq := hz.1.q
  have a2 : c.2.1.1 2 0 = (up s 0 0 0).1 2 0 := hRz.a 2 0 (by omega)
  have a17 : c.2.1.1 17 0 = (up s 0 0 0).1 17 0 := hRz.a 17 0 (by omega)
  have a1 : c.2.1.1 1 0 = (up s 0 0 0).1 1 0 := hRz.a 1 0 (by omega)
  have hMi := fun {cs : List pm_C} {kn : Nat × Nat} (hq' : 72 < cs.length) => c_m_issue (sc := sc) (kn := kn) hq' (s := s) rfl (sc.2 (i + 1)) (sc.2 (i + 2)) (sc.2 (i + 3)) hq.1 hq.2 hm.1 hm.2
  by_cases B : sc.2 (i + 1) < 0 ∨ 2 < sc.2 (i + 1) ∨ sc.2 (i + 2) < 0 ∨ ¬ sc.2 (i + 2) ≤ 3
  · have e1 : f_issue (up s 0 0 0) (sc.2 (i + 1)) (sc.2 (i + 2)) (sc.2 (i + 3)) = up (up s 0 0 0) 0 0 1 := by unfold f_issue; rw [if_pos B]
    have e2 : v_issue (up s 0 0 0) (sc.2 (i + 1)) (sc.2 (i + 2)) = 0 := by unfold v_issue; rw [if_pos B]
    rw [e1, e2] at hMi
    have hL := wx_issue (sc := sc) hc (sc.2 (i + 1)) (sc.2 (i + 2)) (sc.2 (i + 3)) (c_iss0 hc _ _ _ B)
    have hMo := m_run (sc := sc) (m := 107) (args := [.ref 31, .int (sc.2 (i + 1)), .int (sc.2 (i + 2)), .int (sc.2 (i + 3))]) (s := s) (s' := up (up s 0 0 0) 0 0 1) (v := some (.int (0))) (c := exX c) hc hW (fun {cs kn} hq => hMi hq)
    have hw2 : Wm (up (up s 0 0 0) 0 0 1) (msX (exX c) (up (up s 0 0 0) 0 0 1)).1 := Wm.msX hc
    have hc2 : 73 < (msX (exX c) (up (up s 0 0 0) 0 0 1)).1.length := (ls_ex 1 h).2.2.1.1
    have hT := th_run (sc := sc) hc2 hw2
    rw [show (up (up s 0 0 0) 0 0 1).1 0 0 = 1 from up_i] at hT
    exact ⟨_, _, t, ls_ex 1 h, fun {Q} G => lc_issue hs hc (wm31 (c := exX c) hW) (wm31 hw2) ((cset_out (by omega)).trans (out_msX (c := exX c) hO)) hL hMo hT (fun z => absurd z (by decide)) G⟩
  · by_cases F : (up s 0 0 0).1 2 0 = 12
    · have e1 : f_issue (up s 0 0 0) (sc.2 (i + 1)) (sc.2 (i + 2)) (sc.2 (i + 3)) = up (up s 0 0 0) 0 0 2 := by unfold f_issue; rw [if_neg B, if_pos F]
      have e2 : v_issue (up s 0 0 0) (sc.2 (i + 1)) (sc.2 (i + 2)) = 0 := by unfold v_issue; rw [if_neg B, if_pos F]
      rw [e1, e2] at hMi
      have hL := wx_issue2 (sc := sc) hc (sc.2 (i + 1)) (sc.2 (i + 2)) (sc.2 (i + 3)) (c_iss1 hc _ _ _ B (a2.trans F))
      have hMo := m_run (sc := sc) (m := 107) (args := [.ref 31, .int (sc.2 (i + 1)), .int (sc.2 (i + 2)), .int (sc.2 (i + 3))]) (s := s) (s' := up (up s 0 0 0) 0 0 2) (v := some (.int (0))) (c := exX c) hc hW (fun {cs kn} hq => hMi hq)
      have hw2 : Wm (up (up s 0 0 0) 0 0 2) (msX (exX c) (up (up s 0 0 0) 0 0 2)).1 := Wm.msX hc
      have hc2 : 73 < (msX (exX c) (up (up s 0 0 0) 0 0 2)).1.length := (ls_ex 2 h).2.2.1.1
      have hT := th_run (sc := sc) hc2 hw2
      rw [show (up (up s 0 0 0) 0 0 2).1 0 0 = 2 from up_i] at hT
      exact ⟨_, _, t, ls_ex 2 h, fun {Q} G => lc_issue hs hc (wm31 (c := exX c) hW) (wm31 hw2) ((cset_out (by omega)).trans (out_msX (c := exX c) hO)) hL hMo hT (fun z => absurd z (by decide)) G⟩
    · have e2 : v_issue (up s 0 0 0) (sc.2 (i + 1)) (sc.2 (i + 2)) = nI (nqN (up s 0 0 0)) := by unfold v_issue; rw [if_neg B, if_neg F]
      have e1 : f_issue (up s 0 0 0) (sc.2 (i + 1)) (sc.2 (i + 2)) (sc.2 (i + 3)) = f_send (iss (up s 0 0 0) (sc.2 (i + 1)) (sc.2 (i + 2)) (sc.2 (i + 3))) 0 4 (rm4 ((up s 0 0 0).1 29 0)) 0 (nI (nqN (up s 0 0 0))) 0 0 := by unfold f_issue; rw [if_neg B, if_neg F]
      rw [e2] at hMi
      obtain ⟨c', k1, k2, k3⟩ := c_iss2 (sc := sc) (sc.2 (i + 1)) (sc.2 (i + 2)) (sc.2 (i + 3)) hRz hz.1 B F
      obtain ⟨v1, v2⟩ := inv_issue hz.1 (by omega) (sc.2 (i + 1)) (sc.2 (i + 2)) (sc.2 (i + 3))
      have y0 : (f_issue (up s 0 0 0) (sc.2 (i + 1)) (sc.2 (i + 2)) (sc.2 (i + 3))).1 0 0 = 0 := by rw [e1, y_send, iss_ne (by omega)]; exact z0
      have yd : ∀ j, (f_issue (up s 0 0 0) (sc.2 (i + 1)) (sc.2 (i + 2)) (sc.2 (i + 3))).1 28 j = s.1 28 j := fun j => by rw [e1, k_send, iss_ne (by omega)]; exact hdz j
      have hc' : 73 < c'.1.length := k2.1
      have ho' : c'.1[73]? = some (outC v0) := (k3.1 73 (by omega) (by omega)).trans hO
      have hL := wn_issue (sc := sc) hc hc' ho' (sc.2 (i + 1)) (sc.2 (i + 2)) (sc.2 (i + 3)) k1
      have hc1 : 73 < (ouX c' ((nI (nqN (up s 0 0 0))).toInt64)).1.length := hcS hc'
      have hw1 : Wm s (ouX c' ((nI (nqN (up s 0 0 0))).toInt64)).1 := Wm.ouX (hW.ext k3)
      have hMo := m_run (sc := sc) (m := 107) (args := [.ref 31, .int (sc.2 (i + 1)), .int (sc.2 (i + 2)), .int (sc.2 (i + 3))]) (s := s) (s' := f_issue (up s 0 0 0) (sc.2 (i + 1)) (sc.2 (i + 2)) (sc.2 (i + 3))) (v := some (.int (nI (nqN (up s 0 0 0))))) (c := ouX c' ((nI (nqN (up s 0 0 0))).toInt64)) hc1 hw1 (fun {cs kn} hq => hMi hq)
      have hw2 : Wm (f_issue (up s 0 0 0) (sc.2 (i + 1)) (sc.2 (i + 2)) (sc.2 (i + 3))) (msX (ouX c' ((nI (nqN (up s 0 0 0))).toInt64)) (f_issue (up s 0 0 0) (sc.2 (i + 1)) (sc.2 (i + 2)) (sc.2 (i + 3)))).1 := Wm.msX hc1
      have hls := ls_ok (v := (nI (nqN (up s 0 0 0))).toInt64) h (⟨v1, fun y hy => v2 y (hz.2 y hy)⟩) (by omega) k2 k3 (dl_eq yd) (by omega)
      have hT := th_run (sc := sc) hls.2.2.1.1 hw2
      rw [show (f_issue (up s 0 0 0) (sc.2 (i + 1)) (sc.2 (i + 2)) (sc.2 (i + 3))).1 0 0 = 0 from y0] at hT
      exact ⟨_, _, _, hls, fun {Q} G => lc_issue hs hc (wm31 hw1) (wm31 hw2) ((cset_out (by omega)).trans (out_msX (out_ouX hc'))) hL hMo hT (fun _ => rfl) G⟩
set_option maxRecDepth 100000 in
set_option maxHeartbeats 1000000 in
theorem st_retry {sc : pm_Sc} {s : MS} {c : CX} {t n i : Nat} (h : LSt s c t n) (hn : n ≤ 600) (hs : i + 4 ≤ sc.1 ∧ sc.1 < 2 ^ 31 - 10) : ∃ s' c' t', LSt s' c' t' (n + 1) ∧ ∀ {Q : (Option Value ⊕ Nat) → pm_H → Prop}, (∀ lv, pm_ld lv 0 = some (.retAddr 0) → pm_ld lv 1 = some (.ref 0) → pm_ld lv 2 = some (.ref 31) → pm_ld lv 3 = some (.ref 73) → pm_ld lv 4 = some (.int (nI i)) → pw sc 136 (801, lv, [], hx c') Q) → ∀ lv, pm_ld lv 0 = some (.retAddr 0) → pm_ld lv 1 = some (.ref 0) → pm_ld lv 2 = some (.ref 31) → pm_ld lv 3 = some (.ref 73) → pm_ld lv 4 = some (.int (nI i)) → pw sc 136 (196, lv, [], hx c) Q := by
  obtain ⟨hA, ht, hR, hW, ⟨v0, hO⟩, hk1, hk2⟩ := id h
  have hc : 73 < c.1.length := hR.1
  have hz : All (up s 0 0 0) t := all_0 hA 0
  have hRz : R (up s 0 0 0) c := hR.scr (fun a j _ _ => up_n (by omega)) rfl
  have z0 : (up s 0 0 0).1 0 0 = 0 := up_i
  have hdz : ∀ j, (up s 0 0 0).1 28 j = s.1 28 j := fun j => up_n (by omega)
  have ed : dlN (up s 0 0 0) 600 = dlN s 600 := dlN_cong 600 hdz
  have hm := hz.1.m
  have hq := hz.1.q
  have a2 : c.2.1.1 2 0 = (up s 0 0 0).1 2 0 := hRz.a 2 0 (by omega)
  have a17 : c.2.1.1 17 0 = (up s 0 0 0).1 17 0 := hRz.a 17 0 (by omega)
  have a1 : c.2.1.1 1 0 = (up s 0 0 0).1 1 0 := hRz.a 1 0 (by omega)
  by_cases B : sc.2 (i + 1) < 0 ∨ (up s 0 0 0).1 2 0 ≤ sc.2 (i + 1)
  · skip
    have hL := wx_retry (sc := sc) hc (sc.2 (i + 1)) (c_rt0 hc _ (by rw [a2]; exact B))
    have hMo := m_run (sc := sc) (m := 109) (args := [.ref 31, .int (sc.2 (i + 1))]) (s := s) (s' := up (up s 0 0 0) 0 0 1) (v := some (.int (0))) (c := exX c) hc hW (fun {cs kn} hq => c_m_retry0 hq (s := s) rfl _ B)
    have hw2 : Wm (up (up s 0 0 0) 0 0 1) (msX (exX c) (up (up s 0 0 0) 0 0 1)).1 := Wm.msX hc
    have hc2 : 73 < (msX (exX c) (up (up s 0 0 0) 0 0 1)).1.length := (ls_ex 1 h).2.2.1.1
    have hT := th_run (sc := sc) hc2 hw2
    rw [show (up (up s 0 0 0) 0 0 1).1 0 0 = 1 from up_i] at hT
    exact ⟨_, _, t, ls_ex 1 h, fun {Q} G => lc_retry hs hc (wm31 (c := exX c) hW) (wm31 hw2) ((cset_out (by omega)).trans (out_msX (c := exX c) hO)) hL hMo hT (fun z => absurd z (by decide)) G⟩
  · obtain ⟨q, q1, q2⟩ := isReq_of (x := sc.2 (i + 1)) (n := nqN (up s 0 0 0)) (by omega) (fun z => B (Or.inl z)) (fun z => B (Or.inr (by rw [hq.1]; exact z)))
    obtain ⟨c', k1, k2, k3⟩ := c_rt1 (sc := sc) hRz hz.1 q1
    rw [← q2] at k1
    obtain ⟨v1, v2⟩ := inv_retry hz.1 q1
    have y0 : (f_retry (up s 0 0 0) q).1 0 0 = 0 := by
      unfold f_retry
      split
      · split
        · rw [y_all]; exact z0
        · rw [y_all, prv_ne (by omega)]; exact z0
      · exact z0
    have yd : ∀ j, (f_retry (up s 0 0 0) q).1 28 j = s.1 28 j := fun j => by
      unfold f_retry
      split
      · split
        · rw [k_all]; exact hdz j
        · rw [k_all, prv_ne (by omega)]; exact hdz j
      · exact hdz j
    have hc' : 73 < c'.1.length := k2.1
    have ho' : c'.1[73]? = some (outC v0) := (k3.1 73 (by omega) (by omega)).trans hO
    have hL := wn_retry (sc := sc) hc hc' ho' (sc.2 (i + 1)) k1
    have hc1 : 73 < (ouX c' ((v_retry (up s 0 0 0) q).toInt64)).1.length := hcS hc'
    have hw1 : Wm s (ouX c' ((v_retry (up s 0 0 0) q).toInt64)).1 := Wm.ouX (hW.ext k3)
    have hMo := m_run (sc := sc) (m := 109) (args := [.ref 31, .int (sc.2 (i + 1))]) (s := s) (s' := f_retry (up s 0 0 0) q) (v := some (.int (v_retry (up s 0 0 0) q))) (c := ouX c' ((v_retry (up s 0 0 0) q).toInt64)) hc1 hw1 (fun {cs kn} hq => by rw [q2]; exact c_m_retry1 hq (s := s) rfl q hz.1.q.1 hz.1.q.2 q1 hm.1 hm.2)
    have hw2 : Wm (f_retry (up s 0 0 0) q) (msX (ouX c' ((v_retry (up s 0 0 0) q).toInt64)) (f_retry (up s 0 0 0) q)).1 := Wm.msX hc1
    have hls := ls_ok (v := (v_retry (up s 0 0 0) q).toInt64) h (⟨v1, fun y hy => v2 y (hz.2 y hy)⟩) (by omega) k2 k3 (dl_eq yd) (by omega)
    have hT := th_run (sc := sc) hls.2.2.1.1 hw2
    rw [show (f_retry (up s 0 0 0) q).1 0 0 = 0 from y0] at hT
    exact ⟨_, _, _, hls, fun {Q} G => lc_retry hs hc (wm31 hw1) (wm31 hw2) ((cset_out (by omega)).trans (out_msX (out_ouX hc'))) hL hMo hT (fun _ => rfl) G⟩
set_option maxRecDepth 100000 in
set_option maxHeartbeats 1000000 in
theorem st_deliver {sc : pm_Sc} {s : MS} {c : CX} {t n i : Nat} (h : LSt s c t n) (hn : n ≤ 600) (hs : i + 4 ≤ sc.1 ∧ sc.1 < 2 ^ 31 - 10) : ∃ s' c' t', LSt s' c' t' (n + 1) ∧ ∀ {Q : (Option Value ⊕ Nat) → pm_H → Prop}, (∀ lv, pm_ld lv 0 = some (.retAddr 0) → pm_ld lv 1 = some (.ref 0) → pm_ld lv 2 = some (.ref 31) → pm_ld lv 3 = some (.ref 73) → pm_ld lv 4 = some (.int (nI i)) → pw sc 136 (801, lv, [], hx c') Q) → ∀ lv, pm_ld lv 0 = some (.retAddr 0) → pm_ld lv 1 = some (.ref 0) → pm_ld lv 2 = some (.ref 31) → pm_ld lv 3 = some (.ref 73) → pm_ld lv 4 = some (.int (nI i)) → pw sc 136 (252, lv, [], hx c) Q := by
  obtain ⟨hA, ht, hR, hW, ⟨v0, hO⟩, hk1, hk2⟩ := id h
  have hc : 73 < c.1.length := hR.1
  have hz : All (up s 0 0 0) t := all_0 hA 0
  have hRz : R (up s 0 0 0) c := hR.scr (fun a j _ _ => up_n (by omega)) rfl
  have z0 : (up s 0 0 0).1 0 0 = 0 := up_i
  have hdz : ∀ j, (up s 0 0 0).1 28 j = s.1 28 j := fun j => up_n (by omega)
  have ed : dlN (up s 0 0 0) 600 = dlN s 600 := dlN_cong 600 hdz
  have hm := hz.1.m
  have hq := hz.1.q
  have a2 : c.2.1.1 2 0 = (up s 0 0 0).1 2 0 := hRz.a 2 0 (by omega)
  have a17 : c.2.1.1 17 0 = (up s 0 0 0).1 17 0 := hRz.a 17 0 (by omega)
  have a1 : c.2.1.1 1 0 = (up s 0 0 0).1 1 0 := hRz.a 1 0 (by omega)
  by_cases B : sc.2 (i + 1) < 0 ∨ (up s 0 0 0).1 17 0 ≤ sc.2 (i + 1)
  · obtain ⟨c', k1, k2, k3⟩ : ∃ c', pu sc 57 [.ref 0, .int (sc.2 (i + 1))] (hx c) (pz (some (.int 0)) (hx c')) ∧ R (up s 0 0 0) c' ∧ Ext c c' 0 := ⟨c, c_del0 hc _ (by rw [a17]; exact B), hRz, Ext.rf c⟩
    have hc' : 73 < c'.1.length := k2.1
    have hw1 : Wm s c'.1 := hW.ext k3
    have hMo := m_run (sc := sc) (m := 111) (args := [.ref 31, .int (sc.2 (i + 1))]) (s := s) (s' := up s 0 0 0) (v := some (.int (0))) (c := c') hc' hw1 (fun {cs kn} hq => c_m_del0 hq (s := s) rfl _ B)
    exact ⟨_, _, _, ls_dir h (hz) (by omega) k2 k3 (dl_eq hdz) (by omega), fun {Q} G => lc_deliver hs hc (wm31 hw1) k1 hMo G⟩
  · obtain ⟨j, j1, j2⟩ := isReq_of (x := sc.2 (i + 1)) (n := mN (up s 0 0 0)) (by have := hm.2; omega) (fun z => B (Or.inl z)) (fun z => B (Or.inr (by rw [hm.1]; exact z)))
    obtain ⟨c', k1, k2, k3⟩ := c_del1 (sc := sc) hRz hz.1 (by omega) j1 hz.2
    rw [← j2] at k1
    obtain ⟨v1, v2⟩ := inv_del hz.1 (by omega) j1 hz.2
    have hdl := dl_del (s := up s 0 0 0) (i := j) (by have := hm.2; omega)
    rw [ed] at hdl
    have hc' : 73 < c'.1.length := k2.1
    have hw1 : Wm s c'.1 := hW.ext k3
    have hMo := m_run (sc := sc) (m := 111) (args := [.ref 31, .int (sc.2 (i + 1))]) (s := s) (s' := f_del (up s 0 0 0) j) (v := some (.int (b01 ((up s 0 0 0).1 28 j = 0)))) (c := c') hc' hw1 (fun {cs kn} hq => by rw [j2]; exact m_del (s := s) rfl hz.1 (by omega) j1 hz.2 hq)
    exact ⟨_, _, _, ls_dir h (⟨v1, fun y hy => v2 y (hz.2 y hy)⟩) (by omega) k2 k3 (by split at hdl <;> omega) (by
      by_cases e : (up s 0 0 0).1 28 j = 0
      · rw [if_pos e] at hdl ⊢; omega
      · rw [if_neg e]; omega), fun {Q} G => lc_deliver hs hc (wm31 hw1) k1 hMo G⟩
set_option maxRecDepth 100000 in
set_option maxHeartbeats 1000000 in
theorem st_flood {sc : pm_Sc} {s : MS} {c : CX} {t n i : Nat} (h : LSt s c t n) (hn : n ≤ 600) (hs : i + 4 ≤ sc.1 ∧ sc.1 < 2 ^ 31 - 10) : ∃ s' c' t', LSt s' c' t' (n + 1) ∧ ∀ {Q : (Option Value ⊕ Nat) → pm_H → Prop}, (∀ lv, pm_ld lv 0 = some (.retAddr 0) → pm_ld lv 1 = some (.ref 0) → pm_ld lv 2 = some (.ref 31) → pm_ld lv 3 = some (.ref 73) → pm_ld lv 4 = some (.int (nI i)) → pw sc 136 (801, lv, [], hx c') Q) → ∀ lv, pm_ld lv 0 = some (.retAddr 0) → pm_ld lv 1 = some (.ref 0) → pm_ld lv 2 = some (.ref 31) → pm_ld lv 3 = some (.ref 73) → pm_ld lv 4 = some (.int (nI i)) → pw sc 136 (277, lv, [], hx c) Q := by
  obtain ⟨hA, ht, hR, hW, ⟨v0, hO⟩, hk1, hk2⟩ := id h
  have hc : 73 < c.1.length := hR.1
  have hz : All (up s 0 0 0) t := all_0 hA 0
  have hRz : R (up s 0 0 0) c := hR.scr (fun a j _ _ => up_n (by omega)) rfl
  have z0 : (up s 0 0 0).1 0 0 = 0 := up_i
  have hdz : ∀ j, (up s 0 0 0).1 28 j = s.1 28 j := fun j => up_n (by omega)
  have ed : dlN (up s 0 0 0) 600 = dlN s 600 := dlN_cong 600 hdz
  have hm := hz.1.m
  have hq := hz.1.q
  have a2 : c.2.1.1 2 0 = (up s 0 0 0).1 2 0 := hRz.a 2 0 (by omega)
  have a17 : c.2.1.1 17 0 = (up s 0 0 0).1 17 0 := hRz.a 17 0 (by omega)
  have a1 : c.2.1.1 1 0 = (up s 0 0 0).1 1 0 := hRz.a 1 0 (by omega)
  by_cases B : sc.2 (i + 1) < 0
  · skip
    have hL := wx_flood (sc := sc) hc (sc.2 (i + 1)) (c_fl0 hc _ B)
    have hMo := m_run (sc := sc) (m := 112) (args := [.ref 31, .int (sc.2 (i + 1))]) (s := s) (s' := up (up s 0 0 0) 0 0 1) (v := some (.int (0))) (c := exX c) hc hW (fun {cs kn} hq => c_m_fl0 hq (s := s) rfl _ B)
    have hw2 : Wm (up (up s 0 0 0) 0 0 1) (msX (exX c) (up (up s 0 0 0) 0 0 1)).1 := Wm.msX hc
    have hc2 : 73 < (msX (exX c) (up (up s 0 0 0) 0 0 1)).1.length := (ls_ex 1 h).2.2.1.1
    have hT := th_run (sc := sc) hc2 hw2
    rw [show (up (up s 0 0 0) 0 0 1).1 0 0 = 1 from up_i] at hT
    exact ⟨_, _, t, ls_ex 1 h, fun {Q} G => lc_flood hs hc (wm31 (c := exX c) hW) (wm31 hw2) ((cset_out (by omega)).trans (out_msX (c := exX c) hO)) hL hMo hT (fun z => absurd z (by decide)) G⟩
  · by_cases E : (up s 0 0 0).1 17 0 ≤ sc.2 (i + 1)
    · obtain ⟨c', k1, k2, k3⟩ : ∃ c', pu sc 58 [.ref 0, .int (sc.2 (i + 1))] (hx c) (pz (some (.int 0)) (hx c')) ∧ R (up s 0 0 0) c' ∧ Ext c c' 0 := ⟨c, c_fl2 hc _ B (by rw [a17]; exact E), hRz, Ext.rf c⟩
      have hc' : 73 < c'.1.length := k2.1
      have ho' : c'.1[73]? = some (outC v0) := (k3.1 73 (by omega) (by omega)).trans hO
      have hL := wn_flood (sc := sc) hc hc' ho' (sc.2 (i + 1)) k1
      have hc1 : 73 < (ouX c' (((0 : Int32)).toInt64)).1.length := hcS hc'
      have hw1 : Wm s (ouX c' (((0 : Int32)).toInt64)).1 := Wm.ouX (hW.ext k3)
      have hMo := m_run (sc := sc) (m := 112) (args := [.ref 31, .int (sc.2 (i + 1))]) (s := s) (s' := up s 0 0 0) (v := some (.int ((0 : Int32)))) (c := ouX c' (((0 : Int32)).toInt64)) hc1 hw1 (fun {cs kn} hq => c_m_fl2 hq (s := s) rfl _ B E)
      have hw2 : Wm (up s 0 0 0) (msX (ouX c' (((0 : Int32)).toInt64)) (up s 0 0 0)).1 := Wm.msX hc1
      have hls := ls_ok (v := ((0 : Int32)).toInt64) h (hz) (by omega) k2 k3 (dl_eq hdz) (by omega)
      have hT := th_run (sc := sc) hls.2.2.1.1 hw2
      rw [show (up s 0 0 0).1 0 0 = 0 from z0] at hT
      exact ⟨_, _, _, hls, fun {Q} G => lc_flood hs hc (wm31 hw1) (wm31 hw2) ((cset_out (by omega)).trans (out_msX (out_ouX hc'))) hL hMo hT (fun _ => rfl) G⟩
    · obtain ⟨j, j1, j2⟩ := isReq_of (x := sc.2 (i + 1)) (n := mN (up s 0 0 0)) (by have := hm.2; omega) B (fun z => E (by rw [hm.1]; exact z))
      have hF : FlP (t + 600) (up s 0 0 0) := ⟨t, by omega, hz⟩
      have hj6 : j < 2 ^ 31 - 600 := by have := hm.2; omega
      obtain ⟨c', k1, k2, ⟨t', f1, f2⟩, f3, k3⟩ := c_fl1 (sc := sc) (T := t + 600) (by omega) hF hRz hj6
      rw [← j2] at k1
      have hdm := dlN_le (flN 600 (up s 0 0 0) j 0).1 600
      rw [ed] at f3 k3
      have hc' : 73 < c'.1.length := k2.1
      have ho' : c'.1[73]? = some (outC v0) := (k3.1 73 (by omega) (by omega)).trans hO
      have hL := wn_flood (sc := sc) hc hc' ho' (sc.2 (i + 1)) k1
      have hc1 : 73 < (ouX c' (((flN 600 (up s 0 0 0) j 0).2).toInt64)).1.length := hcS hc'
      have hw1 : Wm s (ouX c' (((flN 600 (up s 0 0 0) j 0).2).toInt64)).1 := Wm.ouX (hW.ext k3)
      have hMo := m_run (sc := sc) (m := 112) (args := [.ref 31, .int (sc.2 (i + 1))]) (s := s) (s' := (flN 600 (up s 0 0 0) j 0).1) (v := some (.int ((flN 600 (up s 0 0 0) j 0).2))) (c := ouX c' (((flN 600 (up s 0 0 0) j 0).2).toInt64)) hc1 hw1 (fun {cs kn} hq => by rw [j2]; exact m_fl (s := s) rfl (by omega) hF hq j hj6)
      have hw2 : Wm ((flN 600 (up s 0 0 0) j 0).1) (msX (ouX c' (((flN 600 (up s 0 0 0) j 0).2).toInt64)) ((flN 600 (up s 0 0 0) j 0).1)).1 := Wm.msX hc1
      have hls := ls_ok (v := ((flN 600 (up s 0 0 0) j 0).2).toInt64) h (f2) (by omega) k2 k3 (f3) (by omega)
      have hT := th_run (sc := sc) hls.2.2.1.1 hw2
      rw [show ((flN 600 (up s 0 0 0) j 0).1).1 0 0 = 0 from y_fl 600 _ j 0 z0] at hT
      exact ⟨_, _, _, hls, fun {Q} G => lc_flood hs hc (wm31 hw1) (wm31 hw2) ((cset_out (by omega)).trans (out_msX (out_ouX hc'))) hL hMo hT (fun _ => rfl) G⟩
set_option maxRecDepth 100000 in
set_option maxHeartbeats 1000000 in
theorem st_lose {sc : pm_Sc} {s : MS} {c : CX} {t n i : Nat} (h : LSt s c t n) (hn : n ≤ 600) (hs : i + 4 ≤ sc.1 ∧ sc.1 < 2 ^ 31 - 10) : ∃ s' c' t', LSt s' c' t' (n + 1) ∧ ∀ {Q : (Option Value ⊕ Nat) → pm_H → Prop}, (∀ lv, pm_ld lv 0 = some (.retAddr 0) → pm_ld lv 1 = some (.ref 0) → pm_ld lv 2 = some (.ref 31) → pm_ld lv 3 = some (.ref 73) → pm_ld lv 4 = some (.int (nI i)) → pw sc 136 (801, lv, [], hx c') Q) → ∀ lv, pm_ld lv 0 = some (.retAddr 0) → pm_ld lv 1 = some (.ref 0) → pm_ld lv 2 = some (.ref 31) → pm_ld lv 3 = some (.ref 73) → pm_ld lv 4 = some (.int (nI i)) → pw sc 136 (333, lv, [], hx c) Q := by
  obtain ⟨hA, ht, hR, hW, ⟨v0, hO⟩, hk1, hk2⟩ := id h
  have hc : 73 < c.1.length := hR.1
  have hz : All (up s 0 0 0) t := all_0 hA 0
  have hRz : R (up s 0 0 0) c := hR.scr (fun a j _ _ => up_n (by omega)) rfl
  have z0 : (up s 0 0 0).1 0 0 = 0 := up_i
  have hdz : ∀ j, (up s 0 0 0).1 28 j = s.1 28 j := fun j => up_n (by omega)
  have ed : dlN (up s 0 0 0) 600 = dlN s 600 := dlN_cong 600 hdz
  have hm := hz.1.m
  have hq := hz.1.q
  have a2 : c.2.1.1 2 0 = (up s 0 0 0).1 2 0 := hRz.a 2 0 (by omega)
  have a17 : c.2.1.1 17 0 = (up s 0 0 0).1 17 0 := hRz.a 17 0 (by omega)
  have a1 : c.2.1.1 1 0 = (up s 0 0 0).1 1 0 := hRz.a 1 0 (by omega)
  by_cases B : sc.2 (i + 1) < 0 ∨ (up s 0 0 0).1 17 0 ≤ sc.2 (i + 1)
  · obtain ⟨c', k1, k2, k3⟩ : ∃ c', pu sc 59 [.ref 0, .int (sc.2 (i + 1))] (hx c) (pz (some (.int 0)) (hx c')) ∧ R (up s 0 0 0) c' ∧ Ext c c' 0 := ⟨c, c_lose0 hc _ (by rw [a17]; exact B), hRz, Ext.rf c⟩
    have hc' : 73 < c'.1.length := k2.1
    have hw1 : Wm s c'.1 := hW.ext k3
    have hMo := m_run (sc := sc) (m := 113) (args := [.ref 31, .int (sc.2 (i + 1))]) (s := s) (s' := up s 0 0 0) (v := some (.int (0))) (c := c') hc' hw1 (fun {cs kn} hq => c_m_lose0 hq (s := s) rfl _ B)
    exact ⟨_, _, _, ls_dir h (hz) (by omega) k2 k3 (dl_eq hdz) (by omega), fun {Q} G => lc_lose hs hc (wm31 hw1) k1 hMo G⟩
  · obtain ⟨j, j1, j2⟩ := isReq_of (x := sc.2 (i + 1)) (n := mN (up s 0 0 0)) (by have := hm.2; omega) (fun z => B (Or.inl z)) (fun z => B (Or.inr (by rw [hm.1]; exact z)))
    obtain ⟨c', k1, k2, k3⟩ := c_lose1 (sc := sc) hRz hz.1 j1
    rw [← j2] at k1
    have v1 : All (if (up s 0 0 0).1 28 j = 0 then up (up s 0 0 0) 28 j 2 else up s 0 0 0) t := by
      split
      · exact ⟨inv_st hz.1 j1 2, fun y hy => np_up (hz.2 y hy) (by omega)⟩
      · exact hz
    have hdl : dlN s 600 ≤ dlN (if (up s 0 0 0).1 28 j = 0 then up (up s 0 0 0) 28 j 2 else up s 0 0 0) 600 := by
      split
      · refine dlN_mono 600 (fun x hx => ?_)
        by_cases e : x = j
        · subst e; rw [up_i] at hx; exact absurd hx (by decide)
        · rw [up_n (by omega)] at hx; rw [← hdz]; exact hx
      · exact dl_eq hdz
    have hc' : 73 < c'.1.length := k2.1
    have hw1 : Wm s c'.1 := hW.ext k3
    have hMo := m_run (sc := sc) (m := 113) (args := [.ref 31, .int (sc.2 (i + 1))]) (s := s) (s' := if (up s 0 0 0).1 28 j = 0 then up (up s 0 0 0) 28 j 2 else up s 0 0 0) (v := some (.int (b01 ((up s 0 0 0).1 28 j = 0)))) (c := c') hc' hw1 (fun {cs kn} hq => by rw [j2]; exact c_m_lose1 hq (s := s) rfl j hm.1 hm.2 j1)
    exact ⟨_, _, _, ls_dir h (v1) (by omega) k2 k3 (hdl) (by omega), fun {Q} G => lc_lose hs hc (wm31 hw1) k1 hMo G⟩
set_option maxRecDepth 100000 in
set_option maxHeartbeats 1000000 in
theorem st_patience {sc : pm_Sc} {s : MS} {c : CX} {t n i : Nat} (h : LSt s c t n) (hn : n ≤ 600) (hs : i + 4 ≤ sc.1 ∧ sc.1 < 2 ^ 31 - 10) : ∃ s' c' t', LSt s' c' t' (n + 1) ∧ ∀ {Q : (Option Value ⊕ Nat) → pm_H → Prop}, (∀ lv, pm_ld lv 0 = some (.retAddr 0) → pm_ld lv 1 = some (.ref 0) → pm_ld lv 2 = some (.ref 31) → pm_ld lv 3 = some (.ref 73) → pm_ld lv 4 = some (.int (nI i)) → pw sc 136 (801, lv, [], hx c') Q) → ∀ lv, pm_ld lv 0 = some (.retAddr 0) → pm_ld lv 1 = some (.ref 0) → pm_ld lv 2 = some (.ref 31) → pm_ld lv 3 = some (.ref 73) → pm_ld lv 4 = some (.int (nI i)) → pw sc 136 (358, lv, [], hx c) Q := by
  obtain ⟨hA, ht, hR, hW, ⟨v0, hO⟩, hk1, hk2⟩ := id h
  have hc : 73 < c.1.length := hR.1
  have hz : All (up s 0 0 0) t := all_0 hA 0
  have hRz : R (up s 0 0 0) c := hR.scr (fun a j _ _ => up_n (by omega)) rfl
  have z0 : (up s 0 0 0).1 0 0 = 0 := up_i
  have hdz : ∀ j, (up s 0 0 0).1 28 j = s.1 28 j := fun j => up_n (by omega)
  have ed : dlN (up s 0 0 0) 600 = dlN s 600 := dlN_cong 600 hdz
  have hm := hz.1.m
  have hq := hz.1.q
  have a2 : c.2.1.1 2 0 = (up s 0 0 0).1 2 0 := hRz.a 2 0 (by omega)
  have a17 : c.2.1.1 17 0 = (up s 0 0 0).1 17 0 := hRz.a 17 0 (by omega)
  have a1 : c.2.1.1 1 0 = (up s 0 0 0).1 1 0 := hRz.a 1 0 (by omega)
  by_cases B : ¬ sc.2 (i + 1) < 0 ∧ ¬ 4 ≤ sc.2 (i + 1)
  · obtain ⟨r, hr, er⟩ := isRep_of B.1 (b3.mp B.2)
    obtain ⟨c', k1, k2, k3⟩ := c_pt1 (sc := sc) hRz hz.1 (by omega) hr (hz.2 r hr)
    rw [← er] at k1
    obtain ⟨v1, v2⟩ := inv_pat hz.1 (by omega) hr (hz.2 r hr)
    have y0 : (f_pat (up s 0 0 0) r).1 0 0 = 0 := by
      unfold f_pat
      split
      · exact z0
      · rw [y_hate]; unfold hatS; rw [y_all]; exact z0
    have yd : ∀ j, (f_pat (up s 0 0 0) r).1 28 j = s.1 28 j := fun j => by
      unfold f_pat
      split
      · exact hdz j
      · rw [k_hate]; unfold hatS; rw [k_all]; exact hdz j
    have hMi := fun {cs : List pm_C} {kn : Nat × Nat} (hq' : 72 < cs.length) => m_pat (sc := sc) (kn := kn) (s := s) rfl hz.1 (by omega) hr (hz.2 r hr) hq'
    rw [← er] at hMi
    by_cases HV : b01 (¬ (sc.2 (i + 1) = (up s 0 0 0).1 1 0 ∨ ((up s 0 0 0).1 10 r = 0 ∧ (up s 0 0 0).1 11 r = 0))) = 0
    · skip
      have hc' : 73 < c'.1.length := k2.1
      have ho' : c'.1[73]? = some (outC v0) := (k3.1 73 (by omega) (by omega)).trans hO
      have hL := wn_patience0 (sc := sc) hc hc' ho' HV (sc.2 (i + 1)) k1
      have hc1 : 73 < (ouX c' (0)).1.length := hcS hc'
      have hw1 : Wm s (ouX c' (0)).1 := Wm.ouX (hW.ext k3)
      have hMo := m_run (sc := sc) (m := 116) (args := [.ref 31, .int (sc.2 (i + 1))]) (s := s) (s' := f_pat (up s 0 0 0) r) (v := some (.int (b01 (¬ (sc.2 (i + 1) = (up s 0 0 0).1 1 0 ∨ ((up s 0 0 0).1 10 r = 0 ∧ (up s 0 0 0).1 11 r = 0)))))) (c := ouX c' (0)) hc1 hw1 (fun {cs kn} hq => hMi hq)
      have hw2 : Wm (f_pat (up s 0 0 0) r) (msX (ouX c' (0)) (f_pat (up s 0 0 0) r)).1 := Wm.msX hc1
      have hls := ls_ok (v := 0) h (⟨v1, fun y hy => v2 y (hz.2 y hy)⟩) (by omega) k2 k3 (dl_eq yd) (by omega)
      have hT := th_run (sc := sc) hls.2.2.1.1 hw2
      rw [show (f_pat (up s 0 0 0) r).1 0 0 = 0 from y0] at hT
      exact ⟨_, _, _, hls, fun {Q} G => lc_patience hs hc (wm31 hw1) (wm31 hw2) ((cset_out (by omega)).trans (out_msX (out_ouX hc'))) hL hMo hT (fun _ => ⟨fun _ => rfl, fun z => absurd HV z⟩) G⟩
    · skip
      have hc' : 73 < c'.1.length := k2.1
      have ho' : c'.1[73]? = some (outC v0) := (k3.1 73 (by omega) (by omega)).trans hO
      have hL := wn_patience1 (sc := sc) hc hc' ho' HV (sc.2 (i + 1)) k1
      have hc1 : 73 < (ouX c' (1)).1.length := hcS hc'
      have hw1 : Wm s (ouX c' (1)).1 := Wm.ouX (hW.ext k3)
      have hMo := m_run (sc := sc) (m := 116) (args := [.ref 31, .int (sc.2 (i + 1))]) (s := s) (s' := f_pat (up s 0 0 0) r) (v := some (.int (b01 (¬ (sc.2 (i + 1) = (up s 0 0 0).1 1 0 ∨ ((up s 0 0 0).1 10 r = 0 ∧ (up s 0 0 0).1 11 r = 0)))))) (c := ouX c' (1)) hc1 hw1 (fun {cs kn} hq => hMi hq)
      have hw2 : Wm (f_pat (up s 0 0 0) r) (msX (ouX c' (1)) (f_pat (up s 0 0 0) r)).1 := Wm.msX hc1
      have hls := ls_ok (v := 1) h (⟨v1, fun y hy => v2 y (hz.2 y hy)⟩) (by omega) k2 k3 (dl_eq yd) (by omega)
      have hT := th_run (sc := sc) hls.2.2.1.1 hw2
      rw [show (f_pat (up s 0 0 0) r).1 0 0 = 0 from y0] at hT
      exact ⟨_, _, _, hls, fun {Q} G => lc_patience hs hc (wm31 hw1) (wm31 hw2) ((cset_out (by omega)).trans (out_msX (out_ouX hc'))) hL hMo hT (fun _ => ⟨fun z => absurd z HV, fun _ => rfl⟩) G⟩
  · have B2 : sc.2 (i + 1) < 0 ∨ 3 < sc.2 (i + 1) := by
      by_cases e : sc.2 (i + 1) < 0
      · exact Or.inl e
      · exact Or.inr (Classical.byContradiction fun w => B ⟨e, b3.mpr w⟩)
    have hL := wx_patience (sc := sc) hc (sc.2 (i + 1)) (c_pt0 hc _ B)
    have hMo := m_run (sc := sc) (m := 116) (args := [.ref 31, .int (sc.2 (i + 1))]) (s := s) (s' := up (up s 0 0 0) 0 0 1) (v := some (.int (0))) (c := exX c) hc hW (fun {cs kn} hq => c_m_pat0 hq (s := s) rfl _ B2)
    have hw2 : Wm (up (up s 0 0 0) 0 0 1) (msX (exX c) (up (up s 0 0 0) 0 0 1)).1 := Wm.msX hc
    have hc2 : 73 < (msX (exX c) (up (up s 0 0 0) 0 0 1)).1.length := (ls_ex 1 h).2.2.1.1
    have hT := th_run (sc := sc) hc2 hw2
    rw [show (up (up s 0 0 0) 0 0 1).1 0 0 = 1 from up_i] at hT
    exact ⟨_, _, t, ls_ex 1 h, fun {Q} G => lc_patience hs hc (wm31 (c := exX c) hW) (wm31 hw2) ((cset_out (by omega)).trans (out_msX (c := exX c) hO)) hL hMo hT (fun z => absurd z (by decide)) G⟩
set_option maxRecDepth 100000 in
set_option maxHeartbeats 1000000 in
theorem st_lie {sc : pm_Sc} {s : MS} {c : CX} {t n i : Nat} (h : LSt s c t n) (hn : n ≤ 600) (hs : i + 4 ≤ sc.1 ∧ sc.1 < 2 ^ 31 - 10) : ∃ s' c' t', LSt s' c' t' (n + 1) ∧ ∀ {Q : (Option Value ⊕ Nat) → pm_H → Prop}, (∀ lv, pm_ld lv 0 = some (.retAddr 0) → pm_ld lv 1 = some (.ref 0) → pm_ld lv 2 = some (.ref 31) → pm_ld lv 3 = some (.ref 73) → pm_ld lv 4 = some (.int (nI i)) → pw sc 136 (801, lv, [], hx c') Q) → ∀ lv, pm_ld lv 0 = some (.retAddr 0) → pm_ld lv 1 = some (.ref 0) → pm_ld lv 2 = some (.ref 31) → pm_ld lv 3 = some (.ref 73) → pm_ld lv 4 = some (.int (nI i)) → pw sc 136 (421, lv, [], hx c) Q := by
  obtain ⟨hA, ht, hR, hW, ⟨v0, hO⟩, hk1, hk2⟩ := id h
  have hc : 73 < c.1.length := hR.1
  have hz : All (up s 0 0 0) t := all_0 hA 0
  have hRz : R (up s 0 0 0) c := hR.scr (fun a j _ _ => up_n (by omega)) rfl
  have z0 : (up s 0 0 0).1 0 0 = 0 := up_i
  have hdz : ∀ j, (up s 0 0 0).1 28 j = s.1 28 j := fun j => up_n (by omega)
  have ed : dlN (up s 0 0 0) 600 = dlN s 600 := dlN_cong 600 hdz
  have hm := hz.1.m
  have hq := hz.1.q
  have a2 : c.2.1.1 2 0 = (up s 0 0 0).1 2 0 := hRz.a 2 0 (by omega)
  have a17 : c.2.1.1 17 0 = (up s 0 0 0).1 17 0 := hRz.a 17 0 (by omega)
  have a1 : c.2.1.1 1 0 = (up s 0 0 0).1 1 0 := hRz.a 1 0 (by omega)
  by_cases B : (¬ sc.2 (i + 1) < 0 ∧ ¬ 4 ≤ sc.2 (i + 1)) ∧ ¬ sc.2 (i + 1) = (up s 0 0 0).1 1 0 ∧ ¬ (sc.2 (i + 2) < 0 ∨ (up s 0 0 0).1 2 0 ≤ sc.2 (i + 2))
  · obtain ⟨B1, B2, B3⟩ := B
    obtain ⟨r, hr, er⟩ := isRep_of B1.1 (b3.mp B1.2)
    obtain ⟨q, q1, q2⟩ := isReq_of (x := sc.2 (i + 2)) (n := nqN (up s 0 0 0)) (by omega) (fun z => B3 (Or.inl z)) (fun z => B3 (Or.inr (by rw [hq.1]; exact z)))
    have F : ¬ nI r = (up s 0 0 0).1 1 0 := by rw [← er]; exact B2
    by_cases Gd : (up s 0 0 0).1 1 0 < 0 ∨ ¬ rm4 ((up s 0 0 0).1 6 r) = (up s 0 0 0).1 1 0
    · obtain ⟨c', k1, k2, k3⟩ : ∃ c', pu sc 61 [.ref 0, .int (nI r), .int (nI q)] (hx c) (pz (some (.int 0)) (hx c')) ∧ R (up s 0 0 0) c' ∧ Ext c c' 0 := ⟨c, c_lie1 hRz hz.1 hr q1 F Gd, hRz, Ext.rf c⟩
      rw [← er, ← q2] at k1
      have hMi := fun {cs : List pm_C} {kn : Nat × Nat} (hq' : 72 < cs.length) => c_m_lie1 (sc := sc) (kn := kn) (m := 0) hq' (s := s) rfl r q hr hq.1 hq.2 q1 F Gd
      rw [← er, ← q2] at hMi
      have hc' : 73 < c'.1.length := k2.1
      have ho' : c'.1[73]? = some (outC v0) := (k3.1 73 (by omega) (by omega)).trans hO
      have hL := wn_lie0 (sc := sc) hc hc' ho' rfl (sc.2 (i + 1)) (sc.2 (i + 2)) k1
      have hc1 : 73 < (ouX c' (0)).1.length := hcS hc'
      have hw1 : Wm s (ouX c' (0)).1 := Wm.ouX (hW.ext k3)
      have hMo := m_run (sc := sc) (m := 117) (args := [.ref 31, .int (sc.2 (i + 1)), .int (sc.2 (i + 2))]) (s := s) (s' := up s 0 0 0) (v := some (.int ((0 : Int32)))) (c := ouX c' (0)) hc1 hw1 (fun {cs kn} hq => hMi hq)
      have hw2 : Wm (up s 0 0 0) (msX (ouX c' (0)) (up s 0 0 0)).1 := Wm.msX hc1
      have hls := ls_ok (v := 0) h (hz) (by omega) k2 k3 (dl_eq hdz) (by omega)
      have hT := th_run (sc := sc) hls.2.2.1.1 hw2
      rw [show (up s 0 0 0).1 0 0 = 0 from z0] at hT
      exact ⟨_, _, _, hls, fun {Q} G => lc_lie hs hc (wm31 hw1) (wm31 hw2) ((cset_out (by omega)).trans (out_msX (out_ouX hc'))) hL hMo hT (fun _ => ⟨fun _ => rfl, fun z => absurd rfl z⟩) G⟩
    · obtain ⟨c', k1, k2, k3⟩ := c_lie2 (sc := sc) hRz hz.1 (by omega) hr q1 (hz.2 r hr) F Gd
      obtain ⟨v1, v2⟩ := inv_ord (q := q) hz.1 hr ((up s 0 0 0).1 1 0) ((up s 0 0 0).1 6 r) (nI (lnN (up s 0 0 0) r) + 1) (31 * digN ((up s 0 0 0).2 8 r) (lnN (up s 0 0 0) r) + nI q + 1) q1
      obtain ⟨i1, i2, i3, i4, i5, i6, i7⟩ := hz.1.r hr
      have hMi := fun {cs : List pm_C} {kn : Nat × Nat} (hq' : 72 < cs.length) => c_m_lie2 (sc := sc) (kn := kn) hq' (s := s) rfl r q hr hq.1 hq.2 q1 F Gd i1 i2 hz.1.1.2.2.1 hm.1 hm.2 (fun _ _ z => app_pre hz.1 hr q1 z)
      have y0 : (f_ord (up s 0 0 0) r ((up s 0 0 0).1 1 0) ((up s 0 0 0).1 6 r) (nI (lnN (up s 0 0 0) r) + 1) (nI q) (31 * digN ((up s 0 0 0).2 8 r) (lnN (up s 0 0 0) r) + nI q + 1)).1 0 0 = 0 := by rw [y_ord]; exact z0
      have yd : ∀ j, (f_ord (up s 0 0 0) r ((up s 0 0 0).1 1 0) ((up s 0 0 0).1 6 r) (nI (lnN (up s 0 0 0) r) + 1) (nI q) (31 * digN ((up s 0 0 0).2 8 r) (lnN (up s 0 0 0) r) + nI q + 1)).1 28 j = s.1 28 j := fun j => by rw [k_ord]; exact hdz j
      generalize f_ord (up s 0 0 0) r ((up s 0 0 0).1 1 0) ((up s 0 0 0).1 6 r) (nI (lnN (up s 0 0 0) r) + 1) (nI q) (31 * digN ((up s 0 0 0).2 8 r) (lnN (up s 0 0 0) r) + nI q + 1) = S1 at k2 v1 v2 hMi y0 yd
      generalize f_ordV (up s 0 0 0) r ((up s 0 0 0).1 1 0) ((up s 0 0 0).1 6 r) (nI (lnN (up s 0 0 0) r) + 1) (nI q) (31 * digN ((up s 0 0 0).2 8 r) (lnN (up s 0 0 0) r) + nI q + 1) = V1 at k1 hMi
      rw [← er, ← q2] at k1 hMi
      by_cases HV : V1 = 0
      · skip
        have hc' : 73 < c'.1.length := k2.1
        have ho' : c'.1[73]? = some (outC v0) := (k3.1 73 (by omega) (by omega)).trans hO
        have hL := wn_lie0 (sc := sc) hc hc' ho' HV (sc.2 (i + 1)) (sc.2 (i + 2)) k1
        have hc1 : 73 < (ouX c' (0)).1.length := hcS hc'
        have hw1 : Wm s (ouX c' (0)).1 := Wm.ouX (hW.ext k3)
        have hMo := m_run (sc := sc) (m := 117) (args := [.ref 31, .int (sc.2 (i + 1)), .int (sc.2 (i + 2))]) (s := s) (s' := S1) (v := some (.int (V1))) (c := ouX c' (0)) hc1 hw1 (fun {cs kn} hq => hMi hq)
        have hw2 : Wm (S1) (msX (ouX c' (0)) (S1)).1 := Wm.msX hc1
        have hls := ls_ok (v := 0) h (⟨v1, fun y hy => v2 y (hz.2 y hy)⟩) (by omega) k2 k3 (dl_eq yd) (by omega)
        have hT := th_run (sc := sc) hls.2.2.1.1 hw2
        rw [show (S1).1 0 0 = 0 from y0] at hT
        exact ⟨_, _, _, hls, fun {Q} G => lc_lie hs hc (wm31 hw1) (wm31 hw2) ((cset_out (by omega)).trans (out_msX (out_ouX hc'))) hL hMo hT (fun _ => ⟨fun _ => rfl, fun z => absurd HV z⟩) G⟩
      · skip
        have hc' : 73 < c'.1.length := k2.1
        have ho' : c'.1[73]? = some (outC v0) := (k3.1 73 (by omega) (by omega)).trans hO
        have hL := wn_lie1 (sc := sc) hc hc' ho' HV (sc.2 (i + 1)) (sc.2 (i + 2)) k1
        have hc1 : 73 < (ouX c' (1)).1.length := hcS hc'
        have hw1 : Wm s (ouX c' (1)).1 := Wm.ouX (hW.ext k3)
        have hMo := m_run (sc := sc) (m := 117) (args := [.ref 31, .int (sc.2 (i + 1)), .int (sc.2 (i + 2))]) (s := s) (s' := S1) (v := some (.int (V1))) (c := ouX c' (1)) hc1 hw1 (fun {cs kn} hq => hMi hq)
        have hw2 : Wm (S1) (msX (ouX c' (1)) (S1)).1 := Wm.msX hc1
        have hls := ls_ok (v := 1) h (⟨v1, fun y hy => v2 y (hz.2 y hy)⟩) (by omega) k2 k3 (dl_eq yd) (by omega)
        have hT := th_run (sc := sc) hls.2.2.1.1 hw2
        rw [show (S1).1 0 0 = 0 from y0] at hT
        exact ⟨_, _, _, hls, fun {Q} G => lc_lie hs hc (wm31 hw1) (wm31 hw2) ((cset_out (by omega)).trans (out_msX (out_ouX hc'))) hL hMo hT (fun _ => ⟨fun z => absurd z HV, fun _ => rfl⟩) G⟩
  · have B2 : ¬ (¬ sc.2 (i + 1) < 0 ∧ ¬ 3 < sc.2 (i + 1)) ∨ ¬ (¬ sc.2 (i + 2) < 0 ∧ ¬ (up s 0 0 0).1 2 0 ≤ sc.2 (i + 2)) ∨ sc.2 (i + 1) = (up s 0 0 0).1 1 0 := by
      by_cases e1 : ¬ sc.2 (i + 1) < 0 ∧ ¬ 4 ≤ sc.2 (i + 1)
      · right
        by_cases e2 : sc.2 (i + 1) = (up s 0 0 0).1 1 0
        · exact Or.inr e2
        · left
          intro w
          exact B ⟨e1, e2, fun v => v.elim w.1 w.2⟩
      · left
        intro w
        exact e1 ⟨w.1, b3.mpr w.2⟩
    have hcl : pu sc 61 [.ref 0, .int (sc.2 (i + 1)), .int (sc.2 (i + 2))] (hx c) (px 1 (hx c)) := by
      by_cases e1 : ¬ sc.2 (i + 1) < 0 ∧ ¬ 4 ≤ sc.2 (i + 1)
      · by_cases e2 : sc.2 (i + 1) = (up s 0 0 0).1 1 0
        · exact c_lie0b hc _ _ e1 (by rw [a1]; exact e2)
        · have e3 : sc.2 (i + 2) < 0 ∨ (up s 0 0 0).1 2 0 ≤ sc.2 (i + 2) := Classical.byContradiction fun w => B ⟨e1, e2, w⟩
          exact c_lie0c hc _ _ e1 (by rw [a1]; exact e2) (by rw [a2]; exact e3)
      · exact c_lie0a hc _ _ e1
    have hL := wx_lie (sc := sc) hc (sc.2 (i + 1)) (sc.2 (i + 2)) (hcl)
    have hMo := m_run (sc := sc) (m := 117) (args := [.ref 31, .int (sc.2 (i + 1)), .int (sc.2 (i + 2))]) (s := s) (s' := up (up s 0 0 0) 0 0 1) (v := some (.int (0))) (c := exX c) hc hW (fun {cs kn} hq => c_m_lie0 hq (s := s) rfl _ _ B2)
    have hw2 : Wm (up (up s 0 0 0) 0 0 1) (msX (exX c) (up (up s 0 0 0) 0 0 1)).1 := Wm.msX hc
    have hc2 : 73 < (msX (exX c) (up (up s 0 0 0) 0 0 1)).1.length := (ls_ex 1 h).2.2.1.1
    have hT := th_run (sc := sc) hc2 hw2
    rw [show (up (up s 0 0 0) 0 0 1).1 0 0 = 1 from up_i] at hT
    exact ⟨_, _, t, ls_ex 1 h, fun {Q} G => lc_lie hs hc (wm31 (c := exX c) hW) (wm31 hw2) ((cset_out (by omega)).trans (out_msX (c := exX c) hO)) hL hMo hT (fun z => absurd z (by decide)) G⟩
set_option maxRecDepth 100000 in
set_option maxHeartbeats 1000000 in
theorem st_echo {sc : pm_Sc} {s : MS} {c : CX} {t n i : Nat} (h : LSt s c t n) (hn : n ≤ 600) (hs : i + 4 ≤ sc.1 ∧ sc.1 < 2 ^ 31 - 10) : ∃ s' c' t', LSt s' c' t' (n + 1) ∧ ∀ {Q : (Option Value ⊕ Nat) → pm_H → Prop}, (∀ lv, pm_ld lv 0 = some (.retAddr 0) → pm_ld lv 1 = some (.ref 0) → pm_ld lv 2 = some (.ref 31) → pm_ld lv 3 = some (.ref 73) → pm_ld lv 4 = some (.int (nI i)) → pw sc 136 (801, lv, [], hx c') Q) → ∀ lv, pm_ld lv 0 = some (.retAddr 0) → pm_ld lv 1 = some (.ref 0) → pm_ld lv 2 = some (.ref 31) → pm_ld lv 3 = some (.ref 73) → pm_ld lv 4 = some (.int (nI i)) → pw sc 136 (496, lv, [], hx c) Q := by
  obtain ⟨hA, ht, hR, hW, ⟨v0, hO⟩, hk1, hk2⟩ := id h
  have hc : 73 < c.1.length := hR.1
  have hz : All (up s 0 0 0) t := all_0 hA 0
  have hRz : R (up s 0 0 0) c := hR.scr (fun a j _ _ => up_n (by omega)) rfl
  have z0 : (up s 0 0 0).1 0 0 = 0 := up_i
  have hdz : ∀ j, (up s 0 0 0).1 28 j = s.1 28 j := fun j => up_n (by omega)
  have ed : dlN (up s 0 0 0) 600 = dlN s 600 := dlN_cong 600 hdz
  have hm := hz.1.m
  have hq := hz.1.q
  have a2 : c.2.1.1 2 0 = (up s 0 0 0).1 2 0 := hRz.a 2 0 (by omega)
  have a17 : c.2.1.1 17 0 = (up s 0 0 0).1 17 0 := hRz.a 17 0 (by omega)
  have a1 : c.2.1.1 1 0 = (up s 0 0 0).1 1 0 := hRz.a 1 0 (by omega)
  by_cases B : (¬ sc.2 (i + 1) < 0 ∧ ¬ 4 ≤ sc.2 (i + 1)) ∧ ¬ sc.2 (i + 1) = (up s 0 0 0).1 1 0 ∧ ¬ (sc.2 (i + 2) < 0 ∨ (up s 0 0 0).1 2 0 ≤ sc.2 (i + 2))
  · obtain ⟨B1, B2, B3⟩ := B
    obtain ⟨r, hr, er⟩ := isRep_of B1.1 (b3.mp B1.2)
    obtain ⟨q, q1, q2⟩ := isReq_of (x := sc.2 (i + 2)) (n := nqN (up s 0 0 0)) (by omega) (fun z => B3 (Or.inl z)) (fun z => B3 (Or.inr (by rw [hq.1]; exact z)))
    have F : ¬ nI r = (up s 0 0 0).1 1 0 := by rw [← er]; exact B2
    by_cases Gd : (up s 0 0 0).1 1 0 < 0 ∨ ¬ 0 ≤ (up s 0 0 0).1 30 (4 * q + r)
    · obtain ⟨c', k1, k2, k3⟩ : ∃ c', pu sc 62 [.ref 0, .int (nI r), .int (nI q)] (hx c) (pz (some (.int 0)) (hx c')) ∧ R (up s 0 0 0) c' ∧ Ext c c' 0 := ⟨c, c_ec1 hRz hz.1 hr q1 F Gd, hRz, Ext.rf c⟩
      rw [← er, ← q2] at k1
      have hMi := fun {cs : List pm_C} {kn : Nat × Nat} (hq' : 72 < cs.length) => c_m_echo1 (sc := sc) (kn := kn) hq' (s := s) rfl r q hr hq.1 hq.2 q1 F Gd
      rw [← er, ← q2] at hMi
      have hc' : 73 < c'.1.length := k2.1
      have ho' : c'.1[73]? = some (outC v0) := (k3.1 73 (by omega) (by omega)).trans hO
      have hL := wn_echo0 (sc := sc) hc hc' ho' rfl (sc.2 (i + 1)) (sc.2 (i + 2)) k1
      have hc1 : 73 < (ouX c' (0)).1.length := hcS hc'
      have hw1 : Wm s (ouX c' (0)).1 := Wm.ouX (hW.ext k3)
      have hMo := m_run (sc := sc) (m := 118) (args := [.ref 31, .int (sc.2 (i + 1)), .int (sc.2 (i + 2))]) (s := s) (s' := up s 0 0 0) (v := some (.int ((0 : Int32)))) (c := ouX c' (0)) hc1 hw1 (fun {cs kn} hq => hMi hq)
      have hw2 : Wm (up s 0 0 0) (msX (ouX c' (0)) (up s 0 0 0)).1 := Wm.msX hc1
      have hls := ls_ok (v := 0) h (hz) (by omega) k2 k3 (dl_eq hdz) (by omega)
      have hT := th_run (sc := sc) hls.2.2.1.1 hw2
      rw [show (up s 0 0 0).1 0 0 = 0 from z0] at hT
      exact ⟨_, _, _, hls, fun {Q} G => lc_echo hs hc (wm31 hw1) (wm31 hw2) ((cset_out (by omega)).trans (out_msX (out_ouX hc'))) hL hMo hT (fun _ => ⟨fun _ => rfl, fun z => absurd rfl z⟩) G⟩
    · have g1 : ¬ (up s 0 0 0).1 1 0 < 0 := fun z => Gd (Or.inl z)
      have g2 : 0 ≤ (up s 0 0 0).1 30 (4 * q + r) := Classical.byContradiction fun z => Gd (Or.inr z)
      obtain ⟨u, hu, eu⟩ : ∃ u, u < 4 ∧ (up s 0 0 0).1 1 0 = nI u := by
        rcases hz.1.1.2.2.2 with w | w
        · exact absurd (by rw [w]; exact m1_lt) g1
        · exact w
      obtain ⟨c', k1, k2, k3⟩ := c_ec2 (sc := sc) hRz hz.1 hr q1 F hu eu g2
      have hMi := fun {cs : List pm_C} {kn : Nat × Nat} (hq' : 72 < cs.length) => c_m_echo2 (sc := sc) (kn := kn) hq' (s := s) rfl r q hr hq.1 hq.2 q1 F hu eu g2
      have hv : Vw t ((up s 0 0 0).1 30 (4 * q + r)) ∧ ∃ p, p ≤ 12 ∧ (up s 0 0 0).1 31 (4 * q + r) = nI p := by
        rcases hz.1.2.2.2.2.1.2.1 (4 * q + r) (by have := hq.2; omega) with w | w
        · rw [w] at g2; exact absurd g2 (by decide)
        · exact w
      obtain ⟨hv1, pp, hp1, hp2⟩ := hv
      have y0 : (f_trep (up s 0 0 0) u q ((up s 0 0 0).1 30 (4 * q + r)) ((up s 0 0 0).1 31 (4 * q + r)) ((up s 0 0 0).1 32 (4 * q + r)) ((up s 0 0 0).1 33 (4 * q + r))).1 0 0 = 0 := by rw [trep_lt (by omega)]; exact z0
      have yd : ∀ j, (f_trep (up s 0 0 0) u q ((up s 0 0 0).1 30 (4 * q + r)) ((up s 0 0 0).1 31 (4 * q + r)) ((up s 0 0 0).1 32 (4 * q + r)) ((up s 0 0 0).1 33 (4 * q + r))).1 28 j = s.1 28 j := fun j => by rw [trep_lt (by omega)]; exact hdz j
      have v1 : Inv (f_trep (up s 0 0 0) u q ((up s 0 0 0).1 30 (4 * q + r)) ((up s 0 0 0).1 31 (4 * q + r)) ((up s 0 0 0).1 32 (4 * q + r)) ((up s 0 0 0).1 33 (4 * q + r))) t := by rw [hp2]; exact inv_trep hz.1 q1 hu hv1 hp1
      have v2 : ∀ y, NP (up s 0 0 0) y → NP (f_trep (up s 0 0 0) u q ((up s 0 0 0).1 30 (4 * q + r)) ((up s 0 0 0).1 31 (4 * q + r)) ((up s 0 0 0).1 32 (4 * q + r)) ((up s 0 0 0).1 33 (4 * q + r))) y := fun y hy => np_cli (fun a i _ g => trep_lt g) hy
      generalize f_trep (up s 0 0 0) u q ((up s 0 0 0).1 30 (4 * q + r)) ((up s 0 0 0).1 31 (4 * q + r)) ((up s 0 0 0).1 32 (4 * q + r)) ((up s 0 0 0).1 33 (4 * q + r)) = S1 at k2 v1 v2 hMi y0 yd
      rw [← er, ← q2] at k1 hMi
      have hc' : 73 < c'.1.length := k2.1
      have ho' : c'.1[73]? = some (outC v0) := (k3.1 73 (by omega) (by omega)).trans hO
      have hL := wn_echo1 (sc := sc) hc hc' ho' (by decide) (sc.2 (i + 1)) (sc.2 (i + 2)) k1
      have hc1 : 73 < (ouX c' (1)).1.length := hcS hc'
      have hw1 : Wm s (ouX c' (1)).1 := Wm.ouX (hW.ext k3)
      have hMo := m_run (sc := sc) (m := 118) (args := [.ref 31, .int (sc.2 (i + 1)), .int (sc.2 (i + 2))]) (s := s) (s' := S1) (v := some (.int ((1 : Int32)))) (c := ouX c' (1)) hc1 hw1 (fun {cs kn} hq => hMi hq)
      have hw2 : Wm (S1) (msX (ouX c' (1)) (S1)).1 := Wm.msX hc1
      have hls := ls_ok (v := 1) h (⟨v1, fun y hy => v2 y (hz.2 y hy)⟩) (by omega) k2 k3 (dl_eq yd) (by omega)
      have hT := th_run (sc := sc) hls.2.2.1.1 hw2
      rw [show (S1).1 0 0 = 0 from y0] at hT
      exact ⟨_, _, _, hls, fun {Q} G => lc_echo hs hc (wm31 hw1) (wm31 hw2) ((cset_out (by omega)).trans (out_msX (out_ouX hc'))) hL hMo hT (fun _ => ⟨fun z => absurd z (by decide), fun _ => rfl⟩) G⟩
  · have B2 : ¬ (¬ sc.2 (i + 1) < 0 ∧ ¬ 3 < sc.2 (i + 1)) ∨ ¬ (¬ sc.2 (i + 2) < 0 ∧ ¬ (up s 0 0 0).1 2 0 ≤ sc.2 (i + 2)) ∨ sc.2 (i + 1) = (up s 0 0 0).1 1 0 := by
      by_cases e1 : ¬ sc.2 (i + 1) < 0 ∧ ¬ 4 ≤ sc.2 (i + 1)
      · right
        by_cases e2 : sc.2 (i + 1) = (up s 0 0 0).1 1 0
        · exact Or.inr e2
        · left
          intro w
          exact B ⟨e1, e2, fun v => v.elim w.1 w.2⟩
      · left
        intro w
        exact e1 ⟨w.1, b3.mpr w.2⟩
    have hcl : pu sc 62 [.ref 0, .int (sc.2 (i + 1)), .int (sc.2 (i + 2))] (hx c) (px 1 (hx c)) := by
      by_cases e3 : sc.2 (i + 2) < 0 ∨ (up s 0 0 0).1 2 0 ≤ sc.2 (i + 2)
      · by_cases e1 : ¬ sc.2 (i + 1) < 0 ∧ ¬ 4 ≤ sc.2 (i + 1)
        · exact c_ec0b hc _ _ e1 (by rw [a2]; exact e3)
        · exact c_ec0a hc _ _ e1 (by rw [a2]; exact e3)
      · obtain ⟨q, q1, q2⟩ := isReq_of (x := sc.2 (i + 2)) (n := nqN (up s 0 0 0)) (by omega) (fun z => e3 (Or.inl z)) (fun z => e3 (Or.inr (by rw [hq.1]; exact z)))
        obtain ⟨p, _, _, b1, -⟩ := hRz.rg q1
        rw [q2]
        by_cases e1 : ¬ sc.2 (i + 1) < 0 ∧ ¬ 4 ≤ sc.2 (i + 1)
        · have e2 : sc.2 (i + 1) = (up s 0 0 0).1 1 0 := Classical.byContradiction fun w => B ⟨e1, w, e3⟩
          exact c_ec0d hc _ (a2.trans hq.1) hq.2 q1 b1 e1 (by rw [a1]; exact e2)
        · exact c_ec0c hc _ (a2.trans hq.1) hq.2 q1 b1 e1
    have hL := wx_echo (sc := sc) hc (sc.2 (i + 1)) (sc.2 (i + 2)) (hcl)
    have hMo := m_run (sc := sc) (m := 118) (args := [.ref 31, .int (sc.2 (i + 1)), .int (sc.2 (i + 2))]) (s := s) (s' := up (up s 0 0 0) 0 0 1) (v := some (.int (0))) (c := exX c) hc hW (fun {cs kn} hq => c_m_echo0 hq (s := s) rfl _ _ B2)
    have hw2 : Wm (up (up s 0 0 0) 0 0 1) (msX (exX c) (up (up s 0 0 0) 0 0 1)).1 := Wm.msX hc
    have hc2 : 73 < (msX (exX c) (up (up s 0 0 0) 0 0 1)).1.length := (ls_ex 1 h).2.2.1.1
    have hT := th_run (sc := sc) hc2 hw2
    rw [show (up (up s 0 0 0) 0 0 1).1 0 0 = 1 from up_i] at hT
    exact ⟨_, _, t, ls_ex 1 h, fun {Q} G => lc_echo hs hc (wm31 (c := exX c) hW) (wm31 hw2) ((cset_out (by omega)).trans (out_msX (c := exX c) hO)) hL hMo hT (fun z => absurd z (by decide)) G⟩
set_option maxRecDepth 100000 in
set_option maxHeartbeats 1000000 in
theorem st_messages {sc : pm_Sc} {s : MS} {c : CX} {t n i : Nat} (h : LSt s c t n) (hn : n ≤ 600) (hs : i + 4 ≤ sc.1 ∧ sc.1 < 2 ^ 31 - 10) : ∃ s' c' t', LSt s' c' t' (n + 1) ∧ ∀ {Q : (Option Value ⊕ Nat) → pm_H → Prop}, (∀ lv, pm_ld lv 0 = some (.retAddr 0) → pm_ld lv 1 = some (.ref 0) → pm_ld lv 2 = some (.ref 31) → pm_ld lv 3 = some (.ref 73) → pm_ld lv 4 = some (.int (nI i)) → pw sc 136 (801, lv, [], hx c') Q) → ∀ lv, pm_ld lv 0 = some (.retAddr 0) → pm_ld lv 1 = some (.ref 0) → pm_ld lv 2 = some (.ref 31) → pm_ld lv 3 = some (.ref 73) → pm_ld lv 4 = some (.int (nI i)) → pw sc 136 (639, lv, [], hx c) Q := by
  obtain ⟨hA, ht, hR, hW, ⟨v0, hO⟩, hk1, hk2⟩ := id h
  have hc : 73 < c.1.length := hR.1
  have hz : All (up s 0 0 0) t := all_0 hA 0
  have hRz : R (up s 0 0 0) c := hR.scr (fun a j _ _ => up_n (by omega)) rfl
  have z0 : (up s 0 0 0).1 0 0 = 0 := up_i
  have hdz : ∀ j, (up s 0 0 0).1 28 j = s.1 28 j := fun j => up_n (by omega)
  have ed : dlN (up s 0 0 0) 600 = dlN s 600 := dlN_cong 600 hdz
  have hm := hz.1.m
  have hq := hz.1.q
  have a2 : c.2.1.1 2 0 = (up s 0 0 0).1 2 0 := hRz.a 2 0 (by omega)
  have a17 : c.2.1.1 17 0 = (up s 0 0 0).1 17 0 := hRz.a 17 0 (by omega)
  have a1 : c.2.1.1 1 0 = (up s 0 0 0).1 1 0 := hRz.a 1 0 (by omega)
  obtain ⟨c', k1, k2, k3⟩ : ∃ c', pu sc 64 [.ref 0] (hx c) (pz (some (.int ((up s 0 0 0).1 17 0))) (hx c')) ∧ R (up s 0 0 0) c' ∧ Ext c c' 0 := ⟨c, by rw [← a17]; exact c_msgs hc, hRz, Ext.rf c⟩
  have hc' : 73 < c'.1.length := k2.1
  have hw1 : Wm s c'.1 := hW.ext k3
  have hMo := m_run (sc := sc) (m := 120) (args := [.ref 31]) (s := s) (s' := up s 0 0 0) (v := some (.int ((up s 0 0 0).1 17 0))) (c := c') hc' hw1 (fun {cs kn} hq => c_m_msgs hq (s := s) rfl)
  exact ⟨_, _, _, ls_dir h (hz) (by omega) k2 k3 (dl_eq hdz) (by omega), fun {Q} G => lc_messages hs hc (wm31 hw1) k1 hMo G⟩
set_option maxRecDepth 100000 in
set_option maxHeartbeats 1000000 in
theorem st_view {sc : pm_Sc} {s : MS} {c : CX} {t n i : Nat} (h : LSt s c t n) (hn : n ≤ 600) (hs : i + 4 ≤ sc.1 ∧ sc.1 < 2 ^ 31 - 10) : ∃ s' c' t', LSt s' c' t' (n + 1) ∧ ∀ {Q : (Option Value ⊕ Nat) → pm_H → Prop}, (∀ lv, pm_ld lv 0 = some (.retAddr 0) → pm_ld lv 1 = some (.ref 0) → pm_ld lv 2 = some (.ref 31) → pm_ld lv 3 = some (.ref 73) → pm_ld lv 4 = some (.int (nI i)) → pw sc 136 (801, lv, [], hx c') Q) → ∀ lv, pm_ld lv 0 = some (.retAddr 0) → pm_ld lv 1 = some (.ref 0) → pm_ld lv 2 = some (.ref 31) → pm_ld lv 3 = some (.ref 73) → pm_ld lv 4 = some (.int (nI i)) → pw sc 136 (788, lv, [], hx c) Q := by
  obtain ⟨hA, ht, hR, hW, ⟨v0, hO⟩, hk1, hk2⟩ := id h
  have hc : 73 < c.1.length := hR.1
  have hz : All (up s 0 0 0) t := all_0 hA 0
  have hRz : R (up s 0 0 0) c := hR.scr (fun a j _ _ => up_n (by omega)) rfl
  have z0 : (up s 0 0 0).1 0 0 = 0 := up_i
  have hdz : ∀ j, (up s 0 0 0).1 28 j = s.1 28 j := fun j => up_n (by omega)
  have ed : dlN (up s 0 0 0) 600 = dlN s 600 := dlN_cong 600 hdz
  have hm := hz.1.m
  have hq := hz.1.q
  have a2 : c.2.1.1 2 0 = (up s 0 0 0).1 2 0 := hRz.a 2 0 (by omega)
  have a17 : c.2.1.1 17 0 = (up s 0 0 0).1 17 0 := hRz.a 17 0 (by omega)
  have a1 : c.2.1.1 1 0 = (up s 0 0 0).1 1 0 := hRz.a 1 0 (by omega)
  have a29 : c.2.1.1 29 0 = (up s 0 0 0).1 29 0 := hRz.a 29 0 (by omega)
  obtain ⟨c', k1, k2, k3⟩ : ∃ c', pu sc 67 [.ref 0] (hx c) (pz (some (.int ((up s 0 0 0).1 29 0))) (hx c')) ∧ R (up s 0 0 0) c' ∧ Ext c c' 0 := ⟨c, by rw [← a29]; exact c_view hc, hRz, Ext.rf c⟩
  have hc' : 73 < c'.1.length := k2.1
  have hw1 : Wm s c'.1 := hW.ext k3
  have hMo := m_run (sc := sc) (m := 124) (args := [.ref 31]) (s := s) (s' := up s 0 0 0) (v := some (.int ((up s 0 0 0).1 29 0))) (c := c') hc' hw1 (fun {cs kn} hq => c_m_view hq (s := s) rfl)
  exact ⟨_, _, _, ls_dir h (hz) (by omega) k2 k3 (dl_eq hdz) (by omega), fun {Q} G => lc_view hs hc (wm31 hw1) k1 hMo G⟩
set_option maxRecDepth 100000 in
set_option maxHeartbeats 1000000 in
theorem st_message {sc : pm_Sc} {s : MS} {c : CX} {t n i : Nat} (h : LSt s c t n) (hn : n ≤ 600) (hs : i + 4 ≤ sc.1 ∧ sc.1 < 2 ^ 31 - 10) : ∃ s' c' t', LSt s' c' t' (n + 1) ∧ ∀ {Q : (Option Value ⊕ Nat) → pm_H → Prop}, (∀ lv, pm_ld lv 0 = some (.retAddr 0) → pm_ld lv 1 = some (.ref 0) → pm_ld lv 2 = some (.ref 31) → pm_ld lv 3 = some (.ref 73) → pm_ld lv 4 = some (.int (nI i)) → pw sc 136 (801, lv, [], hx c') Q) → ∀ lv, pm_ld lv 0 = some (.retAddr 0) → pm_ld lv 1 = some (.ref 0) → pm_ld lv 2 = some (.ref 31) → pm_ld lv 3 = some (.ref 73) → pm_ld lv 4 = some (.int (nI i)) → pw sc 136 (652, lv, [], hx c) Q := by
  obtain ⟨hA, ht, hR, hW, ⟨v0, hO⟩, hk1, hk2⟩ := id h
  have hc : 73 < c.1.length := hR.1
  have hz : All (up s 0 0 0) t := all_0 hA 0
  have hRz : R (up s 0 0 0) c := hR.scr (fun a j _ _ => up_n (by omega)) rfl
  have z0 : (up s 0 0 0).1 0 0 = 0 := up_i
  have hdz : ∀ j, (up s 0 0 0).1 28 j = s.1 28 j := fun j => up_n (by omega)
  have ed : dlN (up s 0 0 0) 600 = dlN s 600 := dlN_cong 600 hdz
  have hm := hz.1.m
  have hq := hz.1.q
  have a2 : c.2.1.1 2 0 = (up s 0 0 0).1 2 0 := hRz.a 2 0 (by omega)
  have a17 : c.2.1.1 17 0 = (up s 0 0 0).1 17 0 := hRz.a 17 0 (by omega)
  have a1 : c.2.1.1 1 0 = (up s 0 0 0).1 1 0 := hRz.a 1 0 (by omega)
  by_cases B : sc.2 (i + 1) < 0 ∨ (up s 0 0 0).1 17 0 ≤ sc.2 (i + 1)
  · skip
    have hL := wx_message (sc := sc) hc (sc.2 (i + 1)) (sc.2 (i + 2)) (c_mg0 hc _ _ (by rw [a17]; exact B))
    have hMo := m_run (sc := sc) (m := 121) (args := [.ref 31, .int (sc.2 (i + 1)), .int (sc.2 (i + 2))]) (s := s) (s' := up (up s 0 0 0) 0 0 1) (v := some (.int (0))) (c := exX c) hc hW (fun {cs kn} hq => c_m_msg0 hq (s := s) rfl _ _ (B.imp id (fun z => Int32.not_lt.mpr z)))
    have hw2 : Wm (up (up s 0 0 0) 0 0 1) (msX (exX c) (up (up s 0 0 0) 0 0 1)).1 := Wm.msX hc
    have hc2 : 73 < (msX (exX c) (up (up s 0 0 0) 0 0 1)).1.length := (ls_ex 1 h).2.2.1.1
    have hT := th_run (sc := sc) hc2 hw2
    rw [show (up (up s 0 0 0) 0 0 1).1 0 0 = 1 from up_i] at hT
    exact ⟨_, _, t, ls_ex 1 h, fun {Q} G => lc_message hs hc (wm31 (c := exX c) hW) (wm31 hw2) ((cset_out (by omega)).trans (out_msX (c := exX c) hO)) hL hMo hT (fun z => absurd z (by decide)) G⟩
  · obtain ⟨j, j1, j2⟩ := isReq_of (x := sc.2 (i + 1)) (n := mN (up s 0 0 0)) (by have := hm.2; omega) (fun z => B (Or.inl z)) (fun z => B (Or.inr (by rw [hm.1]; exact z)))
    rcases sw7 (sc.2 (i + 2)) with w | w | w | w | w | w | w | w
    · have w' : sc.2 (i + 2) < 0 ∨ 6 < sc.2 (i + 2) := w.imp (fun z => by rw [Int32.lt_iff_toInt_lt]; exact z) (fun z => by rw [Int32.lt_iff_toInt_lt]; exact z)
      have hL := wx_message (sc := sc) hc (sc.2 (i + 1)) (sc.2 (i + 2)) (by rw [j2]; exact c_mg1 hRz hz.1 j1 w')
      have hMo := m_run (sc := sc) (m := 121) (args := [.ref 31, .int (sc.2 (i + 1)), .int (sc.2 (i + 2))]) (s := s) (s' := up (up s 0 0 0) 0 0 1) (v := some (.int (0))) (c := exX c) hc hW (fun {cs kn} hq => by rw [j2]; exact c_m_msg1 hq (s := s) rfl j hm.1 hm.2 j1 _ w)
      have hw2 : Wm (up (up s 0 0 0) 0 0 1) (msX (exX c) (up (up s 0 0 0) 0 0 1)).1 := Wm.msX hc
      have hc2 : 73 < (msX (exX c) (up (up s 0 0 0) 0 0 1)).1.length := (ls_ex 1 h).2.2.1.1
      have hT := th_run (sc := sc) hc2 hw2
      rw [show (up (up s 0 0 0) 0 0 1).1 0 0 = 1 from up_i] at hT
      exact ⟨_, _, t, ls_ex 1 h, fun {Q} G => lc_message hs hc (wm31 (c := exX c) hW) (wm31 hw2) ((cset_out (by omega)).trans (out_msX (c := exX c) hO)) hL hMo hT (fun z => absurd z (by decide)) G⟩
    · skip
      obtain ⟨c', k1, k2, k3⟩ : ∃ c', pu sc 65 [.ref 0, .int (sc.2 (i + 1)), .int (sc.2 (i + 2))] (hx c) (pz (some (.int (v_msg (up s 0 0 0) j 0))) (hx c')) ∧ R (up s 0 0 0) c' ∧ Ext c c' 0 := ⟨c, by rw [j2, w]; exact c_mgk0 hRz hz.1 j1, hRz, Ext.rf c⟩
      have hc' : 73 < c'.1.length := k2.1
      have ho' : c'.1[73]? = some (outC v0) := (k3.1 73 (by omega) (by omega)).trans hO
      have hL := wn_message (sc := sc) hc hc' ho' (sc.2 (i + 1)) (sc.2 (i + 2)) k1
      have hc1 : 73 < (ouX c' ((v_msg (up s 0 0 0) j 0).toInt64)).1.length := hcS hc'
      have hw1 : Wm s (ouX c' ((v_msg (up s 0 0 0) j 0).toInt64)).1 := Wm.ouX (hW.ext k3)
      have hMo := m_run (sc := sc) (m := 121) (args := [.ref 31, .int (sc.2 (i + 1)), .int (sc.2 (i + 2))]) (s := s) (s' := up s 0 0 0) (v := some (.int (v_msg (up s 0 0 0) j 0))) (c := ouX c' ((v_msg (up s 0 0 0) j 0).toInt64)) hc1 hw1 (fun {cs kn} hq => by rw [j2, w]; exact c_m_msgk0 hq (s := s) rfl j hm.1 hm.2 j1)
      have hw2 : Wm (up s 0 0 0) (msX (ouX c' ((v_msg (up s 0 0 0) j 0).toInt64)) (up s 0 0 0)).1 := Wm.msX hc1
      have hls := ls_ok (v := (v_msg (up s 0 0 0) j 0).toInt64) h (hz) (by omega) k2 k3 (dl_eq hdz) (by omega)
      have hT := th_run (sc := sc) hls.2.2.1.1 hw2
      rw [show (up s 0 0 0).1 0 0 = 0 from z0] at hT
      exact ⟨_, _, _, hls, fun {Q} G => lc_message hs hc (wm31 hw1) (wm31 hw2) ((cset_out (by omega)).trans (out_msX (out_ouX hc'))) hL hMo hT (fun _ => rfl) G⟩
    · skip
      obtain ⟨c', k1, k2, k3⟩ : ∃ c', pu sc 65 [.ref 0, .int (sc.2 (i + 1)), .int (sc.2 (i + 2))] (hx c) (pz (some (.int (v_msg (up s 0 0 0) j 1))) (hx c')) ∧ R (up s 0 0 0) c' ∧ Ext c c' 0 := ⟨c, by rw [j2, w]; exact c_mgk1 hRz hz.1 j1, hRz, Ext.rf c⟩
      have hc' : 73 < c'.1.length := k2.1
      have ho' : c'.1[73]? = some (outC v0) := (k3.1 73 (by omega) (by omega)).trans hO
      have hL := wn_message (sc := sc) hc hc' ho' (sc.2 (i + 1)) (sc.2 (i + 2)) k1
      have hc1 : 73 < (ouX c' ((v_msg (up s 0 0 0) j 1).toInt64)).1.length := hcS hc'
      have hw1 : Wm s (ouX c' ((v_msg (up s 0 0 0) j 1).toInt64)).1 := Wm.ouX (hW.ext k3)
      have hMo := m_run (sc := sc) (m := 121) (args := [.ref 31, .int (sc.2 (i + 1)), .int (sc.2 (i + 2))]) (s := s) (s' := up s 0 0 0) (v := some (.int (v_msg (up s 0 0 0) j 1))) (c := ouX c' ((v_msg (up s 0 0 0) j 1).toInt64)) hc1 hw1 (fun {cs kn} hq => by rw [j2, w]; exact c_m_msgk1 hq (s := s) rfl j hm.1 hm.2 j1)
      have hw2 : Wm (up s 0 0 0) (msX (ouX c' ((v_msg (up s 0 0 0) j 1).toInt64)) (up s 0 0 0)).1 := Wm.msX hc1
      have hls := ls_ok (v := (v_msg (up s 0 0 0) j 1).toInt64) h (hz) (by omega) k2 k3 (dl_eq hdz) (by omega)
      have hT := th_run (sc := sc) hls.2.2.1.1 hw2
      rw [show (up s 0 0 0).1 0 0 = 0 from z0] at hT
      exact ⟨_, _, _, hls, fun {Q} G => lc_message hs hc (wm31 hw1) (wm31 hw2) ((cset_out (by omega)).trans (out_msX (out_ouX hc'))) hL hMo hT (fun _ => rfl) G⟩
    · skip
      obtain ⟨c', k1, k2, k3⟩ : ∃ c', pu sc 65 [.ref 0, .int (sc.2 (i + 1)), .int (sc.2 (i + 2))] (hx c) (pz (some (.int (v_msg (up s 0 0 0) j 2))) (hx c')) ∧ R (up s 0 0 0) c' ∧ Ext c c' 0 := ⟨c, by rw [j2, w]; exact c_mgk2 hRz hz.1 j1, hRz, Ext.rf c⟩
      have hc' : 73 < c'.1.length := k2.1
      have ho' : c'.1[73]? = some (outC v0) := (k3.1 73 (by omega) (by omega)).trans hO
      have hL := wn_message (sc := sc) hc hc' ho' (sc.2 (i + 1)) (sc.2 (i + 2)) k1
      have hc1 : 73 < (ouX c' ((v_msg (up s 0 0 0) j 2).toInt64)).1.length := hcS hc'
      have hw1 : Wm s (ouX c' ((v_msg (up s 0 0 0) j 2).toInt64)).1 := Wm.ouX (hW.ext k3)
      have hMo := m_run (sc := sc) (m := 121) (args := [.ref 31, .int (sc.2 (i + 1)), .int (sc.2 (i + 2))]) (s := s) (s' := up s 0 0 0) (v := some (.int (v_msg (up s 0 0 0) j 2))) (c := ouX c' ((v_msg (up s 0 0 0) j 2).toInt64)) hc1 hw1 (fun {cs kn} hq => by rw [j2, w]; exact c_m_msgk2 hq (s := s) rfl j hm.1 hm.2 j1)
      have hw2 : Wm (up s 0 0 0) (msX (ouX c' ((v_msg (up s 0 0 0) j 2).toInt64)) (up s 0 0 0)).1 := Wm.msX hc1
      have hls := ls_ok (v := (v_msg (up s 0 0 0) j 2).toInt64) h (hz) (by omega) k2 k3 (dl_eq hdz) (by omega)
      have hT := th_run (sc := sc) hls.2.2.1.1 hw2
      rw [show (up s 0 0 0).1 0 0 = 0 from z0] at hT
      exact ⟨_, _, _, hls, fun {Q} G => lc_message hs hc (wm31 hw1) (wm31 hw2) ((cset_out (by omega)).trans (out_msX (out_ouX hc'))) hL hMo hT (fun _ => rfl) G⟩
    · skip
      obtain ⟨c', k1, k2, k3⟩ : ∃ c', pu sc 65 [.ref 0, .int (sc.2 (i + 1)), .int (sc.2 (i + 2))] (hx c) (pz (some (.int (v_msg (up s 0 0 0) j 3))) (hx c')) ∧ R (up s 0 0 0) c' ∧ Ext c c' 0 := ⟨c, by rw [j2, w]; exact c_mgk3 hRz hz.1 j1, hRz, Ext.rf c⟩
      have hc' : 73 < c'.1.length := k2.1
      have ho' : c'.1[73]? = some (outC v0) := (k3.1 73 (by omega) (by omega)).trans hO
      have hL := wn_message (sc := sc) hc hc' ho' (sc.2 (i + 1)) (sc.2 (i + 2)) k1
      have hc1 : 73 < (ouX c' ((v_msg (up s 0 0 0) j 3).toInt64)).1.length := hcS hc'
      have hw1 : Wm s (ouX c' ((v_msg (up s 0 0 0) j 3).toInt64)).1 := Wm.ouX (hW.ext k3)
      have hMo := m_run (sc := sc) (m := 121) (args := [.ref 31, .int (sc.2 (i + 1)), .int (sc.2 (i + 2))]) (s := s) (s' := up s 0 0 0) (v := some (.int (v_msg (up s 0 0 0) j 3))) (c := ouX c' ((v_msg (up s 0 0 0) j 3).toInt64)) hc1 hw1 (fun {cs kn} hq => by rw [j2, w]; exact c_m_msgk3 hq (s := s) rfl j hm.1 hm.2 j1)
      have hw2 : Wm (up s 0 0 0) (msX (ouX c' ((v_msg (up s 0 0 0) j 3).toInt64)) (up s 0 0 0)).1 := Wm.msX hc1
      have hls := ls_ok (v := (v_msg (up s 0 0 0) j 3).toInt64) h (hz) (by omega) k2 k3 (dl_eq hdz) (by omega)
      have hT := th_run (sc := sc) hls.2.2.1.1 hw2
      rw [show (up s 0 0 0).1 0 0 = 0 from z0] at hT
      exact ⟨_, _, _, hls, fun {Q} G => lc_message hs hc (wm31 hw1) (wm31 hw2) ((cset_out (by omega)).trans (out_msX (out_ouX hc'))) hL hMo hT (fun _ => rfl) G⟩
    · skip
      obtain ⟨c', k1, k2, k3⟩ : ∃ c', pu sc 65 [.ref 0, .int (sc.2 (i + 1)), .int (sc.2 (i + 2))] (hx c) (pz (some (.int (v_msg (up s 0 0 0) j 4))) (hx c')) ∧ R (up s 0 0 0) c' ∧ Ext c c' 0 := ⟨c, by rw [j2, w]; exact c_mgk4 hRz hz.1 j1, hRz, Ext.rf c⟩
      have hc' : 73 < c'.1.length := k2.1
      have ho' : c'.1[73]? = some (outC v0) := (k3.1 73 (by omega) (by omega)).trans hO
      have hL := wn_message (sc := sc) hc hc' ho' (sc.2 (i + 1)) (sc.2 (i + 2)) k1
      have hc1 : 73 < (ouX c' ((v_msg (up s 0 0 0) j 4).toInt64)).1.length := hcS hc'
      have hw1 : Wm s (ouX c' ((v_msg (up s 0 0 0) j 4).toInt64)).1 := Wm.ouX (hW.ext k3)
      have hMo := m_run (sc := sc) (m := 121) (args := [.ref 31, .int (sc.2 (i + 1)), .int (sc.2 (i + 2))]) (s := s) (s' := up s 0 0 0) (v := some (.int (v_msg (up s 0 0 0) j 4))) (c := ouX c' ((v_msg (up s 0 0 0) j 4).toInt64)) hc1 hw1 (fun {cs kn} hq => by rw [j2, w]; exact c_m_msgk4 hq (s := s) rfl j hm.1 hm.2 j1)
      have hw2 : Wm (up s 0 0 0) (msX (ouX c' ((v_msg (up s 0 0 0) j 4).toInt64)) (up s 0 0 0)).1 := Wm.msX hc1
      have hls := ls_ok (v := (v_msg (up s 0 0 0) j 4).toInt64) h (hz) (by omega) k2 k3 (dl_eq hdz) (by omega)
      have hT := th_run (sc := sc) hls.2.2.1.1 hw2
      rw [show (up s 0 0 0).1 0 0 = 0 from z0] at hT
      exact ⟨_, _, _, hls, fun {Q} G => lc_message hs hc (wm31 hw1) (wm31 hw2) ((cset_out (by omega)).trans (out_msX (out_ouX hc'))) hL hMo hT (fun _ => rfl) G⟩
    · skip
      obtain ⟨c', k1, k2, k3⟩ : ∃ c', pu sc 65 [.ref 0, .int (sc.2 (i + 1)), .int (sc.2 (i + 2))] (hx c) (pz (some (.int (v_msg (up s 0 0 0) j 5))) (hx c')) ∧ R (up s 0 0 0) c' ∧ Ext c c' 0 := ⟨c, by rw [j2, w]; exact c_mgk5 hRz hz.1 j1, hRz, Ext.rf c⟩
      have hc' : 73 < c'.1.length := k2.1
      have ho' : c'.1[73]? = some (outC v0) := (k3.1 73 (by omega) (by omega)).trans hO
      have hL := wn_message (sc := sc) hc hc' ho' (sc.2 (i + 1)) (sc.2 (i + 2)) k1
      have hc1 : 73 < (ouX c' ((v_msg (up s 0 0 0) j 5).toInt64)).1.length := hcS hc'
      have hw1 : Wm s (ouX c' ((v_msg (up s 0 0 0) j 5).toInt64)).1 := Wm.ouX (hW.ext k3)
      have hMo := m_run (sc := sc) (m := 121) (args := [.ref 31, .int (sc.2 (i + 1)), .int (sc.2 (i + 2))]) (s := s) (s' := up s 0 0 0) (v := some (.int (v_msg (up s 0 0 0) j 5))) (c := ouX c' ((v_msg (up s 0 0 0) j 5).toInt64)) hc1 hw1 (fun {cs kn} hq => by rw [j2, w]; exact c_m_msgk5 hq (s := s) rfl j hm.1 hm.2 j1)
      have hw2 : Wm (up s 0 0 0) (msX (ouX c' ((v_msg (up s 0 0 0) j 5).toInt64)) (up s 0 0 0)).1 := Wm.msX hc1
      have hls := ls_ok (v := (v_msg (up s 0 0 0) j 5).toInt64) h (hz) (by omega) k2 k3 (dl_eq hdz) (by omega)
      have hT := th_run (sc := sc) hls.2.2.1.1 hw2
      rw [show (up s 0 0 0).1 0 0 = 0 from z0] at hT
      exact ⟨_, _, _, hls, fun {Q} G => lc_message hs hc (wm31 hw1) (wm31 hw2) ((cset_out (by omega)).trans (out_msX (out_ouX hc'))) hL hMo hT (fun _ => rfl) G⟩
    · skip
      obtain ⟨c', k1, k2, k3⟩ : ∃ c', pu sc 65 [.ref 0, .int (sc.2 (i + 1)), .int (sc.2 (i + 2))] (hx c) (pz (some (.int (v_msg (up s 0 0 0) j 6))) (hx c')) ∧ R (up s 0 0 0) c' ∧ Ext c c' 0 := ⟨c, by rw [j2, w]; exact c_mgk6 hRz hz.1 j1, hRz, Ext.rf c⟩
      have hc' : 73 < c'.1.length := k2.1
      have ho' : c'.1[73]? = some (outC v0) := (k3.1 73 (by omega) (by omega)).trans hO
      have hL := wn_message (sc := sc) hc hc' ho' (sc.2 (i + 1)) (sc.2 (i + 2)) k1
      have hc1 : 73 < (ouX c' ((v_msg (up s 0 0 0) j 6).toInt64)).1.length := hcS hc'
      have hw1 : Wm s (ouX c' ((v_msg (up s 0 0 0) j 6).toInt64)).1 := Wm.ouX (hW.ext k3)
      have hMo := m_run (sc := sc) (m := 121) (args := [.ref 31, .int (sc.2 (i + 1)), .int (sc.2 (i + 2))]) (s := s) (s' := up s 0 0 0) (v := some (.int (v_msg (up s 0 0 0) j 6))) (c := ouX c' ((v_msg (up s 0 0 0) j 6).toInt64)) hc1 hw1 (fun {cs kn} hq => by rw [j2, w]; exact c_m_msgk6 hq (s := s) rfl j hm.1 hm.2 j1)
      have hw2 : Wm (up s 0 0 0) (msX (ouX c' ((v_msg (up s 0 0 0) j 6).toInt64)) (up s 0 0 0)).1 := Wm.msX hc1
      have hls := ls_ok (v := (v_msg (up s 0 0 0) j 6).toInt64) h (hz) (by omega) k2 k3 (dl_eq hdz) (by omega)
      have hT := th_run (sc := sc) hls.2.2.1.1 hw2
      rw [show (up s 0 0 0).1 0 0 = 0 from z0] at hT
      exact ⟨_, _, _, hls, fun {Q} G => lc_message hs hc (wm31 hw1) (wm31 hw2) ((cset_out (by omega)).trans (out_msX (out_ouX hc'))) hL hMo hT (fun _ => rfl) G⟩
theorem sw5 (x : Int32) : (x.toInt < 0 ∨ 4 < x.toInt) ∨ x = 0 ∨ x = 1 ∨ x = 2 ∨ x = 3 ∨ x = 4 := by
  rcases sw7 x with h | h | h | h | h | h | h | h
  · exact Or.inl (by omega)
  · exact Or.inr (Or.inl h)
  · exact Or.inr (Or.inr (Or.inl h))
  · exact Or.inr (Or.inr (Or.inr (Or.inl h)))
  · exact Or.inr (Or.inr (Or.inr (Or.inr (Or.inl h))))
  · exact Or.inr (Or.inr (Or.inr (Or.inr (Or.inr h))))
  · left; right; rw [h]; decide
  · left; right; rw [h]; decide
set_option maxRecDepth 100000 in
set_option maxHeartbeats 1000000 in
theorem st_request {sc : pm_Sc} {s : MS} {c : CX} {t n i : Nat} (h : LSt s c t n) (hn : n ≤ 600) (hs : i + 4 ≤ sc.1 ∧ sc.1 < 2 ^ 31 - 10) : ∃ s' c' t', LSt s' c' t' (n + 1) ∧ ∀ {Q : (Option Value ⊕ Nat) → pm_H → Prop}, (∀ lv, pm_ld lv 0 = some (.retAddr 0) → pm_ld lv 1 = some (.ref 0) → pm_ld lv 2 = some (.ref 31) → pm_ld lv 3 = some (.ref 73) → pm_ld lv 4 = some (.int (nI i)) → pw sc 136 (801, lv, [], hx c') Q) → ∀ lv, pm_ld lv 0 = some (.retAddr 0) → pm_ld lv 1 = some (.ref 0) → pm_ld lv 2 = some (.ref 31) → pm_ld lv 3 = some (.ref 73) → pm_ld lv 4 = some (.int (nI i)) → pw sc 136 (720, lv, [], hx c) Q := by
  obtain ⟨hA, ht, hR, hW, ⟨v0, hO⟩, hk1, hk2⟩ := id h
  have hc : 73 < c.1.length := hR.1
  have hz : All (up s 0 0 0) t := all_0 hA 0
  have hRz : R (up s 0 0 0) c := hR.scr (fun a j _ _ => up_n (by omega)) rfl
  have z0 : (up s 0 0 0).1 0 0 = 0 := up_i
  have hdz : ∀ j, (up s 0 0 0).1 28 j = s.1 28 j := fun j => up_n (by omega)
  have ed : dlN (up s 0 0 0) 600 = dlN s 600 := dlN_cong 600 hdz
  have hm := hz.1.m
  have hq := hz.1.q
  have a2 : c.2.1.1 2 0 = (up s 0 0 0).1 2 0 := hRz.a 2 0 (by omega)
  have a17 : c.2.1.1 17 0 = (up s 0 0 0).1 17 0 := hRz.a 17 0 (by omega)
  have a1 : c.2.1.1 1 0 = (up s 0 0 0).1 1 0 := hRz.a 1 0 (by omega)
  by_cases B : sc.2 (i + 1) < 0 ∨ (up s 0 0 0).1 2 0 ≤ sc.2 (i + 1)
  · skip
    have hL := wx_request (sc := sc) hc (sc.2 (i + 1)) (sc.2 (i + 2)) (c_rq0 hc _ _ (by rw [a2]; exact B))
    have hMo := m_run (sc := sc) (m := 123) (args := [.ref 31, .int (sc.2 (i + 1)), .int (sc.2 (i + 2))]) (s := s) (s' := up (up s 0 0 0) 0 0 1) (v := some (.int (0))) (c := exX c) hc hW (fun {cs kn} hq => c_m_req0 hq (s := s) rfl _ _ (fun z => B.elim z.1 z.2))
    have hw2 : Wm (up (up s 0 0 0) 0 0 1) (msX (exX c) (up (up s 0 0 0) 0 0 1)).1 := Wm.msX hc
    have hc2 : 73 < (msX (exX c) (up (up s 0 0 0) 0 0 1)).1.length := (ls_ex 1 h).2.2.1.1
    have hT := th_run (sc := sc) hc2 hw2
    rw [show (up (up s 0 0 0) 0 0 1).1 0 0 = 1 from up_i] at hT
    exact ⟨_, _, t, ls_ex 1 h, fun {Q} G => lc_request hs hc (wm31 (c := exX c) hW) (wm31 hw2) ((cset_out (by omega)).trans (out_msX (c := exX c) hO)) hL hMo hT (fun z => absurd z (by decide)) G⟩
  · obtain ⟨j, j1, j2⟩ := isReq_of (x := sc.2 (i + 1)) (n := nqN (up s 0 0 0)) (by have := hq.2; omega) (fun z => B (Or.inl z)) (fun z => B (Or.inr (by rw [hq.1]; exact z)))
    rcases sw5 (sc.2 (i + 2)) with w | w | w | w | w | w
    · have w' : sc.2 (i + 2) < 0 ∨ 4 < sc.2 (i + 2) := w.imp (fun z => by rw [Int32.lt_iff_toInt_lt]; exact z) (fun z => by rw [Int32.lt_iff_toInt_lt]; exact z)
      have hL := wx_request (sc := sc) hc (sc.2 (i + 1)) (sc.2 (i + 2)) (by rw [j2]; exact c_rq1 hRz hz.1 j1 w')
      have hMo := m_run (sc := sc) (m := 123) (args := [.ref 31, .int (sc.2 (i + 1)), .int (sc.2 (i + 2))]) (s := s) (s' := up (up s 0 0 0) 0 0 1) (v := some (.int (0))) (c := exX c) hc hW (fun {cs kn} hq => by rw [j2]; exact c_m_req1 hq (s := s) rfl j hz.1.q.1 hz.1.q.2 j1 _ w)
      have hw2 : Wm (up (up s 0 0 0) 0 0 1) (msX (exX c) (up (up s 0 0 0) 0 0 1)).1 := Wm.msX hc
      have hc2 : 73 < (msX (exX c) (up (up s 0 0 0) 0 0 1)).1.length := (ls_ex 1 h).2.2.1.1
      have hT := th_run (sc := sc) hc2 hw2
      rw [show (up (up s 0 0 0) 0 0 1).1 0 0 = 1 from up_i] at hT
      exact ⟨_, _, t, ls_ex 1 h, fun {Q} G => lc_request hs hc (wm31 (c := exX c) hW) (wm31 hw2) ((cset_out (by omega)).trans (out_msX (c := exX c) hO)) hL hMo hT (fun z => absurd z (by decide)) G⟩
    · skip
      obtain ⟨c', k1, k2, k3⟩ : ∃ c', pu sc 66 [.ref 0, .int (sc.2 (i + 1)), .int (sc.2 (i + 2))] (hx c) (pz (some (.int (v_req (up s 0 0 0) j 0))) (hx c')) ∧ R (up s 0 0 0) c' ∧ Ext c c' 0 := ⟨c, by rw [j2, w]; exact c_rqk0 hRz hz.1 j1, hRz, Ext.rf c⟩
      have hc' : 73 < c'.1.length := k2.1
      have ho' : c'.1[73]? = some (outC v0) := (k3.1 73 (by omega) (by omega)).trans hO
      have hL := wn_request (sc := sc) hc hc' ho' (sc.2 (i + 1)) (sc.2 (i + 2)) k1
      have hc1 : 73 < (ouX c' ((v_req (up s 0 0 0) j 0).toInt64)).1.length := hcS hc'
      have hw1 : Wm s (ouX c' ((v_req (up s 0 0 0) j 0).toInt64)).1 := Wm.ouX (hW.ext k3)
      have hMo := m_run (sc := sc) (m := 123) (args := [.ref 31, .int (sc.2 (i + 1)), .int (sc.2 (i + 2))]) (s := s) (s' := up s 0 0 0) (v := some (.int (v_req (up s 0 0 0) j 0))) (c := ouX c' ((v_req (up s 0 0 0) j 0).toInt64)) hc1 hw1 (fun {cs kn} hq => by rw [j2, w]; exact c_m_reqk0 hq (s := s) rfl j hz.1.q.1 hz.1.q.2 j1)
      have hw2 : Wm (up s 0 0 0) (msX (ouX c' ((v_req (up s 0 0 0) j 0).toInt64)) (up s 0 0 0)).1 := Wm.msX hc1
      have hls := ls_ok (v := (v_req (up s 0 0 0) j 0).toInt64) h (hz) (by omega) k2 k3 (dl_eq hdz) (by omega)
      have hT := th_run (sc := sc) hls.2.2.1.1 hw2
      rw [show (up s 0 0 0).1 0 0 = 0 from z0] at hT
      exact ⟨_, _, _, hls, fun {Q} G => lc_request hs hc (wm31 hw1) (wm31 hw2) ((cset_out (by omega)).trans (out_msX (out_ouX hc'))) hL hMo hT (fun _ => rfl) G⟩
    · skip
      obtain ⟨c', k1, k2, k3⟩ : ∃ c', pu sc 66 [.ref 0, .int (sc.2 (i + 1)), .int (sc.2 (i + 2))] (hx c) (pz (some (.int (v_req (up s 0 0 0) j 1))) (hx c')) ∧ R (up s 0 0 0) c' ∧ Ext c c' 0 := ⟨c, by rw [j2, w]; exact c_rqk1 hRz hz.1 j1, hRz, Ext.rf c⟩
      have hc' : 73 < c'.1.length := k2.1
      have ho' : c'.1[73]? = some (outC v0) := (k3.1 73 (by omega) (by omega)).trans hO
      have hL := wn_request (sc := sc) hc hc' ho' (sc.2 (i + 1)) (sc.2 (i + 2)) k1
      have hc1 : 73 < (ouX c' ((v_req (up s 0 0 0) j 1).toInt64)).1.length := hcS hc'
      have hw1 : Wm s (ouX c' ((v_req (up s 0 0 0) j 1).toInt64)).1 := Wm.ouX (hW.ext k3)
      have hMo := m_run (sc := sc) (m := 123) (args := [.ref 31, .int (sc.2 (i + 1)), .int (sc.2 (i + 2))]) (s := s) (s' := up s 0 0 0) (v := some (.int (v_req (up s 0 0 0) j 1))) (c := ouX c' ((v_req (up s 0 0 0) j 1).toInt64)) hc1 hw1 (fun {cs kn} hq => by rw [j2, w]; exact c_m_reqk1 hq (s := s) rfl j hz.1.q.1 hz.1.q.2 j1)
      have hw2 : Wm (up s 0 0 0) (msX (ouX c' ((v_req (up s 0 0 0) j 1).toInt64)) (up s 0 0 0)).1 := Wm.msX hc1
      have hls := ls_ok (v := (v_req (up s 0 0 0) j 1).toInt64) h (hz) (by omega) k2 k3 (dl_eq hdz) (by omega)
      have hT := th_run (sc := sc) hls.2.2.1.1 hw2
      rw [show (up s 0 0 0).1 0 0 = 0 from z0] at hT
      exact ⟨_, _, _, hls, fun {Q} G => lc_request hs hc (wm31 hw1) (wm31 hw2) ((cset_out (by omega)).trans (out_msX (out_ouX hc'))) hL hMo hT (fun _ => rfl) G⟩
    · skip
      obtain ⟨c', k1, k2, k3⟩ : ∃ c', pu sc 66 [.ref 0, .int (sc.2 (i + 1)), .int (sc.2 (i + 2))] (hx c) (pz (some (.int (v_req (up s 0 0 0) j 2))) (hx c')) ∧ R (up s 0 0 0) c' ∧ Ext c c' 0 := ⟨c, by rw [j2, w]; exact c_rqk2 hRz hz.1 j1, hRz, Ext.rf c⟩
      have hc' : 73 < c'.1.length := k2.1
      have ho' : c'.1[73]? = some (outC v0) := (k3.1 73 (by omega) (by omega)).trans hO
      have hL := wn_request (sc := sc) hc hc' ho' (sc.2 (i + 1)) (sc.2 (i + 2)) k1
      have hc1 : 73 < (ouX c' ((v_req (up s 0 0 0) j 2).toInt64)).1.length := hcS hc'
      have hw1 : Wm s (ouX c' ((v_req (up s 0 0 0) j 2).toInt64)).1 := Wm.ouX (hW.ext k3)
      have hMo := m_run (sc := sc) (m := 123) (args := [.ref 31, .int (sc.2 (i + 1)), .int (sc.2 (i + 2))]) (s := s) (s' := up s 0 0 0) (v := some (.int (v_req (up s 0 0 0) j 2))) (c := ouX c' ((v_req (up s 0 0 0) j 2).toInt64)) hc1 hw1 (fun {cs kn} hq => by rw [j2, w]; exact c_m_reqk2 hq (s := s) rfl j hz.1.q.1 hz.1.q.2 j1)
      have hw2 : Wm (up s 0 0 0) (msX (ouX c' ((v_req (up s 0 0 0) j 2).toInt64)) (up s 0 0 0)).1 := Wm.msX hc1
      have hls := ls_ok (v := (v_req (up s 0 0 0) j 2).toInt64) h (hz) (by omega) k2 k3 (dl_eq hdz) (by omega)
      have hT := th_run (sc := sc) hls.2.2.1.1 hw2
      rw [show (up s 0 0 0).1 0 0 = 0 from z0] at hT
      exact ⟨_, _, _, hls, fun {Q} G => lc_request hs hc (wm31 hw1) (wm31 hw2) ((cset_out (by omega)).trans (out_msX (out_ouX hc'))) hL hMo hT (fun _ => rfl) G⟩
    · skip
      obtain ⟨c', k1, k2, k3⟩ : ∃ c', pu sc 66 [.ref 0, .int (sc.2 (i + 1)), .int (sc.2 (i + 2))] (hx c) (pz (some (.int (v_req (up s 0 0 0) j 3))) (hx c')) ∧ R (up s 0 0 0) c' ∧ Ext c c' 0 := ⟨c, by rw [j2, w]; exact c_rqk3 hRz hz.1 j1, hRz, Ext.rf c⟩
      have hc' : 73 < c'.1.length := k2.1
      have ho' : c'.1[73]? = some (outC v0) := (k3.1 73 (by omega) (by omega)).trans hO
      have hL := wn_request (sc := sc) hc hc' ho' (sc.2 (i + 1)) (sc.2 (i + 2)) k1
      have hc1 : 73 < (ouX c' ((v_req (up s 0 0 0) j 3).toInt64)).1.length := hcS hc'
      have hw1 : Wm s (ouX c' ((v_req (up s 0 0 0) j 3).toInt64)).1 := Wm.ouX (hW.ext k3)
      have hMo := m_run (sc := sc) (m := 123) (args := [.ref 31, .int (sc.2 (i + 1)), .int (sc.2 (i + 2))]) (s := s) (s' := up s 0 0 0) (v := some (.int (v_req (up s 0 0 0) j 3))) (c := ouX c' ((v_req (up s 0 0 0) j 3).toInt64)) hc1 hw1 (fun {cs kn} hq => by rw [j2, w]; exact c_m_reqk3 hq (s := s) rfl j hz.1.q.1 hz.1.q.2 j1)
      have hw2 : Wm (up s 0 0 0) (msX (ouX c' ((v_req (up s 0 0 0) j 3).toInt64)) (up s 0 0 0)).1 := Wm.msX hc1
      have hls := ls_ok (v := (v_req (up s 0 0 0) j 3).toInt64) h (hz) (by omega) k2 k3 (dl_eq hdz) (by omega)
      have hT := th_run (sc := sc) hls.2.2.1.1 hw2
      rw [show (up s 0 0 0).1 0 0 = 0 from z0] at hT
      exact ⟨_, _, _, hls, fun {Q} G => lc_request hs hc (wm31 hw1) (wm31 hw2) ((cset_out (by omega)).trans (out_msX (out_ouX hc'))) hL hMo hT (fun _ => rfl) G⟩
    · skip
      obtain ⟨c', k1, k2, k3⟩ : ∃ c', pu sc 66 [.ref 0, .int (sc.2 (i + 1)), .int (sc.2 (i + 2))] (hx c) (pz (some (.int (v_req (up s 0 0 0) j 4))) (hx c')) ∧ R (up s 0 0 0) c' ∧ Ext c c' 0 := ⟨c, by rw [j2, w]; exact c_rqk4 hRz hz.1 j1, hRz, Ext.rf c⟩
      have hc' : 73 < c'.1.length := k2.1
      have ho' : c'.1[73]? = some (outC v0) := (k3.1 73 (by omega) (by omega)).trans hO
      have hL := wn_request (sc := sc) hc hc' ho' (sc.2 (i + 1)) (sc.2 (i + 2)) k1
      have hc1 : 73 < (ouX c' ((v_req (up s 0 0 0) j 4).toInt64)).1.length := hcS hc'
      have hw1 : Wm s (ouX c' ((v_req (up s 0 0 0) j 4).toInt64)).1 := Wm.ouX (hW.ext k3)
      have hMo := m_run (sc := sc) (m := 123) (args := [.ref 31, .int (sc.2 (i + 1)), .int (sc.2 (i + 2))]) (s := s) (s' := up s 0 0 0) (v := some (.int (v_req (up s 0 0 0) j 4))) (c := ouX c' ((v_req (up s 0 0 0) j 4).toInt64)) hc1 hw1 (fun {cs kn} hq => by rw [j2, w]; exact c_m_reqk4 hq (s := s) rfl j hz.1.q.1 hz.1.q.2 j1)
      have hw2 : Wm (up s 0 0 0) (msX (ouX c' ((v_req (up s 0 0 0) j 4).toInt64)) (up s 0 0 0)).1 := Wm.msX hc1
      have hls := ls_ok (v := (v_req (up s 0 0 0) j 4).toInt64) h (hz) (by omega) k2 k3 (dl_eq hdz) (by omega)
      have hT := th_run (sc := sc) hls.2.2.1.1 hw2
      rw [show (up s 0 0 0).1 0 0 = 0 from z0] at hT
      exact ⟨_, _, _, hls, fun {Q} G => lc_request hs hc (wm31 hw1) (wm31 hw2) ((cset_out (by omega)).trans (out_msX (out_ouX hc'))) hL hMo hT (fun _ => rfl) G⟩
theorem rng {x : Int32} {a b : Nat} (hb : b < 2 ^ 31) (h1 : ¬ x < nI a) (h2 : ¬ nI b < x) (hab : a ≤ b) : ∃ k, k ≤ b - a ∧ x = nI (a + k) := by
  have ea := nI_toInt (n := a) (by omega)
  have eb := nI_toInt (n := b) hb
  rw [Int32.lt_iff_toInt_lt] at h1 h2
  refine ⟨(x.toInt - a).toNat, by omega, ?_⟩
  apply Int32.toInt_inj.mp
  rw [nI_toInt (by omega)]
  omega
set_option maxRecDepth 100000 in
set_option maxHeartbeats 1000000 in
theorem st_replica {sc : pm_Sc} {s : MS} {c : CX} {t n i : Nat} (h : LSt s c t n) (hn : n ≤ 600) (hs : i + 4 ≤ sc.1 ∧ sc.1 < 2 ^ 31 - 10) : ∃ s' c' t', LSt s' c' t' (n + 1) ∧ ∀ {Q : (Option Value ⊕ Nat) → pm_H → Prop}, (∀ lv, pm_ld lv 0 = some (.retAddr 0) → pm_ld lv 1 = some (.ref 0) → pm_ld lv 2 = some (.ref 31) → pm_ld lv 3 = some (.ref 73) → pm_ld lv 4 = some (.int (nI i)) → pw sc 136 (801, lv, [], hx c') Q) → ∀ lv, pm_ld lv 0 = some (.retAddr 0) → pm_ld lv 1 = some (.ref 0) → pm_ld lv 2 = some (.ref 31) → pm_ld lv 3 = some (.ref 73) → pm_ld lv 4 = some (.int (nI i)) → pw sc 136 (571, lv, [], hx c) Q := by
  obtain ⟨hA, ht, hR, hW, ⟨v0, hO⟩, hk1, hk2⟩ := id h
  have hc : 73 < c.1.length := hR.1
  have hz : All (up s 0 0 0) t := all_0 hA 0
  have hRz : R (up s 0 0 0) c := hR.scr (fun a j _ _ => up_n (by omega)) rfl
  have z0 : (up s 0 0 0).1 0 0 = 0 := up_i
  have hdz : ∀ j, (up s 0 0 0).1 28 j = s.1 28 j := fun j => up_n (by omega)
  have ed : dlN (up s 0 0 0) 600 = dlN s 600 := dlN_cong 600 hdz
  have hm := hz.1.m
  have hq := hz.1.q
  have a2 : c.2.1.1 2 0 = (up s 0 0 0).1 2 0 := hRz.a 2 0 (by omega)
  have a17 : c.2.1.1 17 0 = (up s 0 0 0).1 17 0 := hRz.a 17 0 (by omega)
  have a1 : c.2.1.1 1 0 = (up s 0 0 0).1 1 0 := hRz.a 1 0 (by omega)
  by_cases B : ¬ sc.2 (i + 1) < 0 ∧ ¬ 4 ≤ sc.2 (i + 1)
  · obtain ⟨r, hr, j2⟩ := isRep_of B.1 (b3.mp B.2)
    obtain ⟨i1, i2, i3, i4, i5, i6, i7⟩ := hz.1.r hr
    by_cases P : ¬ sc.2 (i + 2) < 10 ∧ ¬ 21 < sc.2 (i + 2)
    · obtain ⟨k, k1', k2'⟩ := rng (x := sc.2 (i + 2)) (a := 10) (b := 21) (by omega) P.1 P.2 (by omega)
      obtain ⟨c', k1, k2, k3⟩ : ∃ c', pu sc 63 [.ref 0, .int (sc.2 (i + 1)), .int (sc.2 (i + 2))] (hx c) (pz (some (.int (if k < lnN (up s 0 0 0) r then m_at ((up s 0 0 0).2 8 r) (nI k) else -1))) (hx c')) ∧ R (up s 0 0 0) c' ∧ Ext c c' 0 := ⟨c, by rw [j2, k2']; exact c_rpP hRz hz.1 hr k (by omega), hRz, Ext.rf c⟩
      have hc' : 73 < c'.1.length := k2.1
      have ho' : c'.1[73]? = some (outC v0) := (k3.1 73 (by omega) (by omega)).trans hO
      have hL := wn_replica (sc := sc) hc hc' ho' (sc.2 (i + 1)) (sc.2 (i + 2)) k1
      have hc1 : 73 < (ouX c' ((if k < lnN (up s 0 0 0) r then m_at ((up s 0 0 0).2 8 r) (nI k) else -1).toInt64)).1.length := hcS hc'
      have hw1 : Wm s (ouX c' ((if k < lnN (up s 0 0 0) r then m_at ((up s 0 0 0).2 8 r) (nI k) else -1).toInt64)).1 := Wm.ouX (hW.ext k3)
      have hMo := m_run (sc := sc) (m := 119) (args := [.ref 31, .int (sc.2 (i + 1)), .int (sc.2 (i + 2))]) (s := s) (s' := up s 0 0 0) (v := some (.int (if k < lnN (up s 0 0 0) r then m_at ((up s 0 0 0).2 8 r) (nI k) else -1))) (c := ouX c' ((if k < lnN (up s 0 0 0) r then m_at ((up s 0 0 0).2 8 r) (nI k) else -1).toInt64)) hc1 hw1 (fun {cs kn} hq => by rw [j2, k2']; exact c_m_repP hq (s := s) rfl r hr i1 i2 k (by omega))
      have hw2 : Wm (up s 0 0 0) (msX (ouX c' ((if k < lnN (up s 0 0 0) r then m_at ((up s 0 0 0).2 8 r) (nI k) else -1).toInt64)) (up s 0 0 0)).1 := Wm.msX hc1
      have hls := ls_ok (v := (if k < lnN (up s 0 0 0) r then m_at ((up s 0 0 0).2 8 r) (nI k) else -1).toInt64) h (hz) (by omega) k2 k3 (dl_eq hdz) (by omega)
      have hT := th_run (sc := sc) hls.2.2.1.1 hw2
      rw [show (up s 0 0 0).1 0 0 = 0 from z0] at hT
      exact ⟨_, _, _, hls, fun {Q} G => lc_replica hs hc (wm31 hw1) (wm31 hw2) ((cset_out (by omega)).trans (out_msX (out_ouX hc'))) hL hMo hT (fun _ => rfl) G⟩
    · by_cases N : ¬ sc.2 (i + 2) < 30 ∧ ¬ 33 < sc.2 (i + 2)
      · obtain ⟨k, k1', k2'⟩ := rng (x := sc.2 (i + 2)) (a := 30) (b := 33) (by omega) N.1 N.2 (by omega)
        obtain ⟨c', k1, k2, k3⟩ : ∃ c', pu sc 63 [.ref 0, .int (sc.2 (i + 1)), .int (sc.2 (i + 2))] (hx c) (pz (some (.int ((wkA (up s 0 0 0) ((up s 0 0 0).2 8 r) (lnN (up s 0 0 0) r)).1 k))) (hx c')) ∧ R (numset (up s 0 0 0) (wkA (up s 0 0 0) ((up s 0 0 0).2 8 r) (lnN (up s 0 0 0) r)).1) c' ∧ Ext c c' 0 := ⟨c, by rw [j2, k2']; exact c_rpN hRz hz.1 hr k (by omega), hRz.scr (fun a j _ g => if_neg g) rfl, Ext.rf c⟩
        have v1 : All (numset (up s 0 0 0) (wkA (up s 0 0 0) ((up s 0 0 0).2 8 r) (lnN (up s 0 0 0) r)).1) t := ⟨inv_num hz.1 _, fun y hy => (hz.2 y hy).cong (num_ne (by omega)) (num_ne (by omega)) (fun u _ => num_ne (by omega))⟩
        have hc' : 73 < c'.1.length := k2.1
        have ho' : c'.1[73]? = some (outC v0) := (k3.1 73 (by omega) (by omega)).trans hO
        have hL := wn_replica (sc := sc) hc hc' ho' (sc.2 (i + 1)) (sc.2 (i + 2)) k1
        have hc1 : 73 < (ouX c' (((wkA (up s 0 0 0) ((up s 0 0 0).2 8 r) (lnN (up s 0 0 0) r)).1 k).toInt64)).1.length := hcS hc'
        have hw1 : Wm s (ouX c' (((wkA (up s 0 0 0) ((up s 0 0 0).2 8 r) (lnN (up s 0 0 0) r)).1 k).toInt64)).1 := Wm.ouX (hW.ext k3)
        have hMo := m_run (sc := sc) (m := 119) (args := [.ref 31, .int (sc.2 (i + 1)), .int (sc.2 (i + 2))]) (s := s) (s' := numset (up s 0 0 0) (wkA (up s 0 0 0) ((up s 0 0 0).2 8 r) (lnN (up s 0 0 0) r)).1) (v := some (.int ((wkA (up s 0 0 0) ((up s 0 0 0).2 8 r) (lnN (up s 0 0 0) r)).1 k))) (c := ouX c' (((wkA (up s 0 0 0) ((up s 0 0 0).2 8 r) (lnN (up s 0 0 0) r)).1 k).toInt64)) hc1 hw1 (fun {cs kn} hq => by rw [j2, k2']; exact c_m_repN hq (s := s) rfl r hr i1 i2 k (by omega) (i3.ok hz.1.q.2) hz.1.1.2.2.1)
        have hw2 : Wm (numset (up s 0 0 0) (wkA (up s 0 0 0) ((up s 0 0 0).2 8 r) (lnN (up s 0 0 0) r)).1) (msX (ouX c' (((wkA (up s 0 0 0) ((up s 0 0 0).2 8 r) (lnN (up s 0 0 0) r)).1 k).toInt64)) (numset (up s 0 0 0) (wkA (up s 0 0 0) ((up s 0 0 0).2 8 r) (lnN (up s 0 0 0) r)).1)).1 := Wm.msX hc1
        have hls := ls_ok (v := ((wkA (up s 0 0 0) ((up s 0 0 0).2 8 r) (lnN (up s 0 0 0) r)).1 k).toInt64) h (v1) (by omega) k2 k3 (dl_eq (fun j => (num_ne (by omega)).trans (hdz j))) (by omega)
        have hT := th_run (sc := sc) hls.2.2.1.1 hw2
        rw [show (numset (up s 0 0 0) (wkA (up s 0 0 0) ((up s 0 0 0).2 8 r) (lnN (up s 0 0 0) r)).1).1 0 0 = 0 from (num_ne (by omega)).trans z0] at hT
        exact ⟨_, _, _, hls, fun {Q} G => lc_replica hs hc (wm31 hw1) (wm31 hw2) ((cset_out (by omega)).trans (out_msX (out_ouX hc'))) hL hMo hT (fun _ => rfl) G⟩
      · rcases sw7 (sc.2 (i + 2)) with w | w | w | w | w | w | w | w
        · have w0 : ¬ (¬ sc.2 (i + 2) < 0 ∧ ¬ 6 < sc.2 (i + 2)) := fun z => by
            rw [Int32.lt_iff_toInt_lt, Int32.lt_iff_toInt_lt] at z
            exact w.elim z.1 z.2
          have w1 : ¬ (¬ sc.2 (i + 2) < 10 ∧ ¬ 22 ≤ sc.2 (i + 2)) := fun z => P ⟨z.1, fun v => z.2 (by
            rw [Int32.lt_iff_toInt_lt] at v
            rw [Int32.le_iff_toInt_le]
            have q1 : (21 : Int32).toInt = 21 := by decide
            have q2 : (22 : Int32).toInt = 22 := by decide
            omega)⟩
          have w2 : ¬ (¬ sc.2 (i + 2) < 30 ∧ ¬ 34 ≤ sc.2 (i + 2)) := fun z => N ⟨z.1, fun v => z.2 (by
            rw [Int32.lt_iff_toInt_lt] at v
            rw [Int32.le_iff_toInt_le]
            have q1 : (33 : Int32).toInt = 33 := by decide
            have q2 : (34 : Int32).toInt = 34 := by decide
            omega)⟩
          have hL := wx_replica (sc := sc) hc (sc.2 (i + 1)) (sc.2 (i + 2)) (by rw [j2]; exact c_rp1 hc hr _ w0 w1 w2)
          have hMo := m_run (sc := sc) (m := 119) (args := [.ref 31, .int (sc.2 (i + 1)), .int (sc.2 (i + 2))]) (s := s) (s' := up (up s 0 0 0) 0 0 1) (v := some (.int (0))) (c := exX c) hc hW (fun {cs kn} hq => by rw [j2]; exact c_m_rep1 hq (s := s) rfl r hr i1 i2 _ P N w)
          have hw2 : Wm (up (up s 0 0 0) 0 0 1) (msX (exX c) (up (up s 0 0 0) 0 0 1)).1 := Wm.msX hc
          have hc2 : 73 < (msX (exX c) (up (up s 0 0 0) 0 0 1)).1.length := (ls_ex 1 h).2.2.1.1
          have hT := th_run (sc := sc) hc2 hw2
          rw [show (up (up s 0 0 0) 0 0 1).1 0 0 = 1 from up_i] at hT
          exact ⟨_, _, t, ls_ex 1 h, fun {Q} G => lc_replica hs hc (wm31 (c := exX c) hW) (wm31 hw2) ((cset_out (by omega)).trans (out_msX (c := exX c) hO)) hL hMo hT (fun z => absurd z (by decide)) G⟩
        · skip
          obtain ⟨c', k1, k2, k3⟩ : ∃ c', pu sc 63 [.ref 0, .int (sc.2 (i + 1)), .int (sc.2 (i + 2))] (hx c) (pz (some (.int (v_rep (up s 0 0 0) r 0))) (hx c')) ∧ R (up s 0 0 0) c' ∧ Ext c c' 0 := ⟨c, by rw [j2, w]; exact c_rpk0 hRz hz.1 hr, hRz, Ext.rf c⟩
          have hc' : 73 < c'.1.length := k2.1
          have ho' : c'.1[73]? = some (outC v0) := (k3.1 73 (by omega) (by omega)).trans hO
          have hL := wn_replica (sc := sc) hc hc' ho' (sc.2 (i + 1)) (sc.2 (i + 2)) k1
          have hc1 : 73 < (ouX c' ((v_rep (up s 0 0 0) r 0).toInt64)).1.length := hcS hc'
          have hw1 : Wm s (ouX c' ((v_rep (up s 0 0 0) r 0).toInt64)).1 := Wm.ouX (hW.ext k3)
          have hMo := m_run (sc := sc) (m := 119) (args := [.ref 31, .int (sc.2 (i + 1)), .int (sc.2 (i + 2))]) (s := s) (s' := up s 0 0 0) (v := some (.int (v_rep (up s 0 0 0) r 0))) (c := ouX c' ((v_rep (up s 0 0 0) r 0).toInt64)) hc1 hw1 (fun {cs kn} hq => by rw [j2, w]; exact c_m_repk0 hq (s := s) rfl r hr i1 i2)
          have hw2 : Wm (up s 0 0 0) (msX (ouX c' ((v_rep (up s 0 0 0) r 0).toInt64)) (up s 0 0 0)).1 := Wm.msX hc1
          have hls := ls_ok (v := (v_rep (up s 0 0 0) r 0).toInt64) h (hz) (by omega) k2 k3 (dl_eq hdz) (by omega)
          have hT := th_run (sc := sc) hls.2.2.1.1 hw2
          rw [show (up s 0 0 0).1 0 0 = 0 from z0] at hT
          exact ⟨_, _, _, hls, fun {Q} G => lc_replica hs hc (wm31 hw1) (wm31 hw2) ((cset_out (by omega)).trans (out_msX (out_ouX hc'))) hL hMo hT (fun _ => rfl) G⟩
        · skip
          obtain ⟨c', k1, k2, k3⟩ : ∃ c', pu sc 63 [.ref 0, .int (sc.2 (i + 1)), .int (sc.2 (i + 2))] (hx c) (pz (some (.int (v_rep (up s 0 0 0) r 1))) (hx c')) ∧ R (up s 0 0 0) c' ∧ Ext c c' 0 := ⟨c, by rw [j2, w]; exact c_rpk1 hRz hz.1 hr, hRz, Ext.rf c⟩
          have hc' : 73 < c'.1.length := k2.1
          have ho' : c'.1[73]? = some (outC v0) := (k3.1 73 (by omega) (by omega)).trans hO
          have hL := wn_replica (sc := sc) hc hc' ho' (sc.2 (i + 1)) (sc.2 (i + 2)) k1
          have hc1 : 73 < (ouX c' ((v_rep (up s 0 0 0) r 1).toInt64)).1.length := hcS hc'
          have hw1 : Wm s (ouX c' ((v_rep (up s 0 0 0) r 1).toInt64)).1 := Wm.ouX (hW.ext k3)
          have hMo := m_run (sc := sc) (m := 119) (args := [.ref 31, .int (sc.2 (i + 1)), .int (sc.2 (i + 2))]) (s := s) (s' := up s 0 0 0) (v := some (.int (v_rep (up s 0 0 0) r 1))) (c := ouX c' ((v_rep (up s 0 0 0) r 1).toInt64)) hc1 hw1 (fun {cs kn} hq => by rw [j2, w]; exact c_m_repk1 hq (s := s) rfl r hr i1 i2)
          have hw2 : Wm (up s 0 0 0) (msX (ouX c' ((v_rep (up s 0 0 0) r 1).toInt64)) (up s 0 0 0)).1 := Wm.msX hc1
          have hls := ls_ok (v := (v_rep (up s 0 0 0) r 1).toInt64) h (hz) (by omega) k2 k3 (dl_eq hdz) (by omega)
          have hT := th_run (sc := sc) hls.2.2.1.1 hw2
          rw [show (up s 0 0 0).1 0 0 = 0 from z0] at hT
          exact ⟨_, _, _, hls, fun {Q} G => lc_replica hs hc (wm31 hw1) (wm31 hw2) ((cset_out (by omega)).trans (out_msX (out_ouX hc'))) hL hMo hT (fun _ => rfl) G⟩
        · skip
          obtain ⟨c', k1, k2, k3⟩ : ∃ c', pu sc 63 [.ref 0, .int (sc.2 (i + 1)), .int (sc.2 (i + 2))] (hx c) (pz (some (.int (v_rep (up s 0 0 0) r 2))) (hx c')) ∧ R (up s 0 0 0) c' ∧ Ext c c' 0 := ⟨c, by rw [j2, w]; exact c_rpk2 hRz hz.1 hr, hRz, Ext.rf c⟩
          have hc' : 73 < c'.1.length := k2.1
          have ho' : c'.1[73]? = some (outC v0) := (k3.1 73 (by omega) (by omega)).trans hO
          have hL := wn_replica (sc := sc) hc hc' ho' (sc.2 (i + 1)) (sc.2 (i + 2)) k1
          have hc1 : 73 < (ouX c' ((v_rep (up s 0 0 0) r 2).toInt64)).1.length := hcS hc'
          have hw1 : Wm s (ouX c' ((v_rep (up s 0 0 0) r 2).toInt64)).1 := Wm.ouX (hW.ext k3)
          have hMo := m_run (sc := sc) (m := 119) (args := [.ref 31, .int (sc.2 (i + 1)), .int (sc.2 (i + 2))]) (s := s) (s' := up s 0 0 0) (v := some (.int (v_rep (up s 0 0 0) r 2))) (c := ouX c' ((v_rep (up s 0 0 0) r 2).toInt64)) hc1 hw1 (fun {cs kn} hq => by rw [j2, w]; exact c_m_repk2 hq (s := s) rfl r hr i1 i2)
          have hw2 : Wm (up s 0 0 0) (msX (ouX c' ((v_rep (up s 0 0 0) r 2).toInt64)) (up s 0 0 0)).1 := Wm.msX hc1
          have hls := ls_ok (v := (v_rep (up s 0 0 0) r 2).toInt64) h (hz) (by omega) k2 k3 (dl_eq hdz) (by omega)
          have hT := th_run (sc := sc) hls.2.2.1.1 hw2
          rw [show (up s 0 0 0).1 0 0 = 0 from z0] at hT
          exact ⟨_, _, _, hls, fun {Q} G => lc_replica hs hc (wm31 hw1) (wm31 hw2) ((cset_out (by omega)).trans (out_msX (out_ouX hc'))) hL hMo hT (fun _ => rfl) G⟩
        · skip
          obtain ⟨c', k1, k2, k3⟩ : ∃ c', pu sc 63 [.ref 0, .int (sc.2 (i + 1)), .int (sc.2 (i + 2))] (hx c) (pz (some (.int (v_rep (up s 0 0 0) r 3))) (hx c')) ∧ R (up s 0 0 0) c' ∧ Ext c c' 0 := ⟨c, by rw [j2, w]; exact c_rpk3 hRz hz.1 hr, hRz, Ext.rf c⟩
          have hc' : 73 < c'.1.length := k2.1
          have ho' : c'.1[73]? = some (outC v0) := (k3.1 73 (by omega) (by omega)).trans hO
          have hL := wn_replica (sc := sc) hc hc' ho' (sc.2 (i + 1)) (sc.2 (i + 2)) k1
          have hc1 : 73 < (ouX c' ((v_rep (up s 0 0 0) r 3).toInt64)).1.length := hcS hc'
          have hw1 : Wm s (ouX c' ((v_rep (up s 0 0 0) r 3).toInt64)).1 := Wm.ouX (hW.ext k3)
          have hMo := m_run (sc := sc) (m := 119) (args := [.ref 31, .int (sc.2 (i + 1)), .int (sc.2 (i + 2))]) (s := s) (s' := up s 0 0 0) (v := some (.int (v_rep (up s 0 0 0) r 3))) (c := ouX c' ((v_rep (up s 0 0 0) r 3).toInt64)) hc1 hw1 (fun {cs kn} hq => by rw [j2, w]; exact c_m_repk3 hq (s := s) rfl r hr i1 i2)
          have hw2 : Wm (up s 0 0 0) (msX (ouX c' ((v_rep (up s 0 0 0) r 3).toInt64)) (up s 0 0 0)).1 := Wm.msX hc1
          have hls := ls_ok (v := (v_rep (up s 0 0 0) r 3).toInt64) h (hz) (by omega) k2 k3 (dl_eq hdz) (by omega)
          have hT := th_run (sc := sc) hls.2.2.1.1 hw2
          rw [show (up s 0 0 0).1 0 0 = 0 from z0] at hT
          exact ⟨_, _, _, hls, fun {Q} G => lc_replica hs hc (wm31 hw1) (wm31 hw2) ((cset_out (by omega)).trans (out_msX (out_ouX hc'))) hL hMo hT (fun _ => rfl) G⟩
        · skip
          obtain ⟨c', k1, k2, k3⟩ : ∃ c', pu sc 63 [.ref 0, .int (sc.2 (i + 1)), .int (sc.2 (i + 2))] (hx c) (pz (some (.int (v_rep (up s 0 0 0) r 4))) (hx c')) ∧ R (up s 0 0 0) c' ∧ Ext c c' 0 := ⟨c, by rw [j2, w]; exact c_rpk4 hRz hz.1 hr, hRz, Ext.rf c⟩
          have hc' : 73 < c'.1.length := k2.1
          have ho' : c'.1[73]? = some (outC v0) := (k3.1 73 (by omega) (by omega)).trans hO
          have hL := wn_replica (sc := sc) hc hc' ho' (sc.2 (i + 1)) (sc.2 (i + 2)) k1
          have hc1 : 73 < (ouX c' ((v_rep (up s 0 0 0) r 4).toInt64)).1.length := hcS hc'
          have hw1 : Wm s (ouX c' ((v_rep (up s 0 0 0) r 4).toInt64)).1 := Wm.ouX (hW.ext k3)
          have hMo := m_run (sc := sc) (m := 119) (args := [.ref 31, .int (sc.2 (i + 1)), .int (sc.2 (i + 2))]) (s := s) (s' := up s 0 0 0) (v := some (.int (v_rep (up s 0 0 0) r 4))) (c := ouX c' ((v_rep (up s 0 0 0) r 4).toInt64)) hc1 hw1 (fun {cs kn} hq => by rw [j2, w]; exact c_m_repk4 hq (s := s) rfl r hr i1 i2)
          have hw2 : Wm (up s 0 0 0) (msX (ouX c' ((v_rep (up s 0 0 0) r 4).toInt64)) (up s 0 0 0)).1 := Wm.msX hc1
          have hls := ls_ok (v := (v_rep (up s 0 0 0) r 4).toInt64) h (hz) (by omega) k2 k3 (dl_eq hdz) (by omega)
          have hT := th_run (sc := sc) hls.2.2.1.1 hw2
          rw [show (up s 0 0 0).1 0 0 = 0 from z0] at hT
          exact ⟨_, _, _, hls, fun {Q} G => lc_replica hs hc (wm31 hw1) (wm31 hw2) ((cset_out (by omega)).trans (out_msX (out_ouX hc'))) hL hMo hT (fun _ => rfl) G⟩
        · skip
          obtain ⟨c', k1, k2, k3⟩ : ∃ c', pu sc 63 [.ref 0, .int (sc.2 (i + 1)), .int (sc.2 (i + 2))] (hx c) (pz (some (.int (v_rep (up s 0 0 0) r 5))) (hx c')) ∧ R (up s 0 0 0) c' ∧ Ext c c' 0 := ⟨c, by rw [j2, w]; exact c_rpk5 hRz hz.1 hr, hRz, Ext.rf c⟩
          have hc' : 73 < c'.1.length := k2.1
          have ho' : c'.1[73]? = some (outC v0) := (k3.1 73 (by omega) (by omega)).trans hO
          have hL := wn_replica (sc := sc) hc hc' ho' (sc.2 (i + 1)) (sc.2 (i + 2)) k1
          have hc1 : 73 < (ouX c' ((v_rep (up s 0 0 0) r 5).toInt64)).1.length := hcS hc'
          have hw1 : Wm s (ouX c' ((v_rep (up s 0 0 0) r 5).toInt64)).1 := Wm.ouX (hW.ext k3)
          have hMo := m_run (sc := sc) (m := 119) (args := [.ref 31, .int (sc.2 (i + 1)), .int (sc.2 (i + 2))]) (s := s) (s' := up s 0 0 0) (v := some (.int (v_rep (up s 0 0 0) r 5))) (c := ouX c' ((v_rep (up s 0 0 0) r 5).toInt64)) hc1 hw1 (fun {cs kn} hq => by rw [j2, w]; exact c_m_repk5 hq (s := s) rfl r hr i1 i2)
          have hw2 : Wm (up s 0 0 0) (msX (ouX c' ((v_rep (up s 0 0 0) r 5).toInt64)) (up s 0 0 0)).1 := Wm.msX hc1
          have hls := ls_ok (v := (v_rep (up s 0 0 0) r 5).toInt64) h (hz) (by omega) k2 k3 (dl_eq hdz) (by omega)
          have hT := th_run (sc := sc) hls.2.2.1.1 hw2
          rw [show (up s 0 0 0).1 0 0 = 0 from z0] at hT
          exact ⟨_, _, _, hls, fun {Q} G => lc_replica hs hc (wm31 hw1) (wm31 hw2) ((cset_out (by omega)).trans (out_msX (out_ouX hc'))) hL hMo hT (fun _ => rfl) G⟩
        · skip
          obtain ⟨c', k1, k2, k3⟩ : ∃ c', pu sc 63 [.ref 0, .int (sc.2 (i + 1)), .int (sc.2 (i + 2))] (hx c) (pz (some (.int (v_rep (up s 0 0 0) r 6))) (hx c')) ∧ R (up s 0 0 0) c' ∧ Ext c c' 0 := ⟨c, by rw [j2, w]; exact c_rpk6 hRz hz.1 hr, hRz, Ext.rf c⟩
          have hc' : 73 < c'.1.length := k2.1
          have ho' : c'.1[73]? = some (outC v0) := (k3.1 73 (by omega) (by omega)).trans hO
          have hL := wn_replica (sc := sc) hc hc' ho' (sc.2 (i + 1)) (sc.2 (i + 2)) k1
          have hc1 : 73 < (ouX c' ((v_rep (up s 0 0 0) r 6).toInt64)).1.length := hcS hc'
          have hw1 : Wm s (ouX c' ((v_rep (up s 0 0 0) r 6).toInt64)).1 := Wm.ouX (hW.ext k3)
          have hMo := m_run (sc := sc) (m := 119) (args := [.ref 31, .int (sc.2 (i + 1)), .int (sc.2 (i + 2))]) (s := s) (s' := up s 0 0 0) (v := some (.int (v_rep (up s 0 0 0) r 6))) (c := ouX c' ((v_rep (up s 0 0 0) r 6).toInt64)) hc1 hw1 (fun {cs kn} hq => by rw [j2, w]; exact c_m_repk6 hq (s := s) rfl r hr i1 i2)
          have hw2 : Wm (up s 0 0 0) (msX (ouX c' ((v_rep (up s 0 0 0) r 6).toInt64)) (up s 0 0 0)).1 := Wm.msX hc1
          have hls := ls_ok (v := (v_rep (up s 0 0 0) r 6).toInt64) h (hz) (by omega) k2 k3 (dl_eq hdz) (by omega)
          have hT := th_run (sc := sc) hls.2.2.1.1 hw2
          rw [show (up s 0 0 0).1 0 0 = 0 from z0] at hT
          exact ⟨_, _, _, hls, fun {Q} G => lc_replica hs hc (wm31 hw1) (wm31 hw2) ((cset_out (by omega)).trans (out_msX (out_ouX hc'))) hL hMo hT (fun _ => rfl) G⟩
  · skip
    have hL := wx_replica (sc := sc) hc (sc.2 (i + 1)) (sc.2 (i + 2)) (c_rp0 hc _ _ B)
    have hMo := m_run (sc := sc) (m := 119) (args := [.ref 31, .int (sc.2 (i + 1)), .int (sc.2 (i + 2))]) (s := s) (s' := up (up s 0 0 0) 0 0 1) (v := some (.int (0))) (c := exX c) hc hW (fun {cs kn} hq => c_m_rep0 hq (s := s) rfl _ _ (fun z => B ⟨z.1, b3.mpr z.2⟩))
    have hw2 : Wm (up (up s 0 0 0) 0 0 1) (msX (exX c) (up (up s 0 0 0) 0 0 1)).1 := Wm.msX hc
    have hc2 : 73 < (msX (exX c) (up (up s 0 0 0) 0 0 1)).1.length := (ls_ex 1 h).2.2.1.1
    have hT := th_run (sc := sc) hc2 hw2
    rw [show (up (up s 0 0 0) 0 0 1).1 0 0 = 1 from up_i] at hT
    exact ⟨_, _, t, ls_ex 1 h, fun {Q} G => lc_replica hs hc (wm31 (c := exX c) hW) (wm31 hw2) ((cset_out (by omega)).trans (out_msX (c := exX c) hO)) hL hMo hT (fun z => absurd z (by decide)) G⟩
