-- deps: 63.c13
/-! what the program tells -/
set_option maxRecDepth 100000 in
set_option maxHeartbeats 1000000 in
theorem c_msgs {sc : pm_Sc} {cs : List pm_C} {a : MS} {Y : PT} {kn : Nat × Nat} (hc : 73 < cs.length)  : pu sc 64 [.ref 0] (cset cs a Y, kn) (pz (some (.int (a.1 17 0))) (cset cs a Y, kn)) := by
  refine w_aload_n rfl rfl ?_
  refine w_getfield rfl (cs0 hc) rfl ?_
  refine w_getfield rfl (cs2 hc) rfl ?_
  exact w_ireturn rfl (Or.inl rfl) ⟨rfl, rfl⟩
set_option maxRecDepth 100000 in
set_option maxHeartbeats 1000000 in
theorem c_view {sc : pm_Sc} {cs : List pm_C} {a : MS} {Y : PT} {kn : Nat × Nat} (hc : 73 < cs.length)  : pu sc 67 [.ref 0] (cset cs a Y, kn) (pz (some (.int (a.1 29 0))) (cset cs a Y, kn)) := by
  refine w_aload_n rfl rfl ?_
  refine w_getfield rfl (cs0 hc) rfl ?_
  refine w_getfield rfl (cs4 hc) rfl ?_
  exact w_ireturn rfl (Or.inl rfl) ⟨rfl, rfl⟩
set_option maxRecDepth 100000 in
set_option maxHeartbeats 1000000 in
theorem tm_0 {sc : pm_Sc} {h : pm_H} {s : MS} {j p l : Nat} {e : Int32} {y : Option Nat} (hp : h.1[p]? = some (.inr (3, [.int (s.1 19 j), .int (s.1 20 j), .ref l, .int (s.1 28 j)]))) (hl : h.1[l]? = some (letC (s.1 18 j) (s.1 21 j) (s.1 23 j) (s.1 22 j) (s.1 24 j) e y)) : pu sc 19 [.ref p, .int 0] h (pz (some (.int (v_msg s j 0))) h) := by
  refine w_iload_n rfl rfl ?_
  refine w_tableIn rfl (by decide) rfl rfl ?_
  refine w_aload_n rfl rfl ?_
  refine w_getfield rfl hp rfl ?_
  refine w_getfield rfl hl rfl ?_
  exact w_ireturn rfl (Or.inl rfl) ⟨rfl, rfl⟩
set_option maxRecDepth 100000 in
set_option maxHeartbeats 1000000 in
theorem tm_1 {sc : pm_Sc} {h : pm_H} {s : MS} {j p l : Nat} {e : Int32} {y : Option Nat} (hp : h.1[p]? = some (.inr (3, [.int (s.1 19 j), .int (s.1 20 j), .ref l, .int (s.1 28 j)]))) (hl : h.1[l]? = some (letC (s.1 18 j) (s.1 21 j) (s.1 23 j) (s.1 22 j) (s.1 24 j) e y)) : pu sc 19 [.ref p, .int 1] h (pz (some (.int (v_msg s j 1))) h) := by
  refine w_iload_n rfl rfl ?_
  refine w_tableIn rfl (by decide) rfl rfl ?_
  refine w_aload_n rfl rfl ?_
  refine w_getfield rfl hp rfl ?_
  exact w_ireturn rfl (Or.inl rfl) ⟨rfl, rfl⟩
set_option maxRecDepth 100000 in
set_option maxHeartbeats 1000000 in
theorem tm_2 {sc : pm_Sc} {h : pm_H} {s : MS} {j p l : Nat} {e : Int32} {y : Option Nat} (hp : h.1[p]? = some (.inr (3, [.int (s.1 19 j), .int (s.1 20 j), .ref l, .int (s.1 28 j)]))) (hl : h.1[l]? = some (letC (s.1 18 j) (s.1 21 j) (s.1 23 j) (s.1 22 j) (s.1 24 j) e y)) : pu sc 19 [.ref p, .int 2] h (pz (some (.int (v_msg s j 2))) h) := by
  refine w_iload_n rfl rfl ?_
  refine w_tableIn rfl (by decide) rfl rfl ?_
  refine w_aload_n rfl rfl ?_
  refine w_getfield rfl hp rfl ?_
  exact w_ireturn rfl (Or.inl rfl) ⟨rfl, rfl⟩
set_option maxRecDepth 100000 in
set_option maxHeartbeats 1000000 in
theorem tm_3 {sc : pm_Sc} {h : pm_H} {s : MS} {j p l : Nat} {e : Int32} {y : Option Nat} (hp : h.1[p]? = some (.inr (3, [.int (s.1 19 j), .int (s.1 20 j), .ref l, .int (s.1 28 j)]))) (hl : h.1[l]? = some (letC (s.1 18 j) (s.1 21 j) (s.1 23 j) (s.1 22 j) (s.1 24 j) e y)) : pu sc 19 [.ref p, .int 3] h (pz (some (.int (v_msg s j 3))) h) := by
  refine w_iload_n rfl rfl ?_
  refine w_tableIn rfl (by decide) rfl rfl ?_
  refine w_aload_n rfl rfl ?_
  refine w_getfield rfl hp rfl ?_
  refine w_getfield rfl hl rfl ?_
  exact w_ireturn rfl (Or.inl rfl) ⟨rfl, rfl⟩
set_option maxRecDepth 100000 in
set_option maxHeartbeats 1000000 in
theorem tm_4 {sc : pm_Sc} {h : pm_H} {s : MS} {j p l : Nat} {e : Int32} {y : Option Nat} (hp : h.1[p]? = some (.inr (3, [.int (s.1 19 j), .int (s.1 20 j), .ref l, .int (s.1 28 j)]))) (hl : h.1[l]? = some (letC (s.1 18 j) (s.1 21 j) (s.1 23 j) (s.1 22 j) (s.1 24 j) e y)) : pu sc 19 [.ref p, .int 4] h (pz (some (.int (v_msg s j 4))) h) := by
  refine w_iload_n rfl rfl ?_
  refine w_tableIn rfl (by decide) rfl rfl ?_
  refine w_aload_n rfl rfl ?_
  refine w_getfield rfl hp rfl ?_
  refine w_getfield rfl hl rfl ?_
  exact w_ireturn rfl (Or.inl rfl) ⟨rfl, rfl⟩
set_option maxRecDepth 100000 in
set_option maxHeartbeats 1000000 in
theorem tm_5 {sc : pm_Sc} {h : pm_H} {s : MS} {j p l : Nat} {e : Int32} {y : Option Nat} (hp : h.1[p]? = some (.inr (3, [.int (s.1 19 j), .int (s.1 20 j), .ref l, .int (s.1 28 j)]))) (hl : h.1[l]? = some (letC (s.1 18 j) (s.1 21 j) (s.1 23 j) (s.1 22 j) (s.1 24 j) e y)) : pu sc 19 [.ref p, .int 5] h (pz (some (.int (v_msg s j 5))) h) := by
  refine w_iload_n rfl rfl ?_
  refine w_tableIn rfl (by decide) rfl rfl ?_
  refine w_aload_n rfl rfl ?_
  refine w_getfield rfl hp rfl ?_
  refine w_getfield rfl hl rfl ?_
  exact w_ireturn rfl (Or.inl rfl) ⟨rfl, rfl⟩
set_option maxRecDepth 100000 in
set_option maxHeartbeats 1000000 in
theorem tm_6 {sc : pm_Sc} {h : pm_H} {s : MS} {j p l : Nat} {e : Int32} {y : Option Nat} (hp : h.1[p]? = some (.inr (3, [.int (s.1 19 j), .int (s.1 20 j), .ref l, .int (s.1 28 j)]))) (hl : h.1[l]? = some (letC (s.1 18 j) (s.1 21 j) (s.1 23 j) (s.1 22 j) (s.1 24 j) e y)) : pu sc 19 [.ref p, .int 6] h (pz (some (.int (v_msg s j 6))) h) := by
  refine w_iload_n rfl rfl ?_
  refine w_tableOut rfl (by decide) rfl ?_
  refine w_aload_n rfl rfl ?_
  refine w_getfield rfl hp rfl ?_
  exact w_ireturn rfl (Or.inl rfl) ⟨rfl, rfl⟩
set_option maxRecDepth 100000 in
set_option maxHeartbeats 1000000 in
theorem c_mg0 {sc : pm_Sc} {cs : List pm_C} {a : MS} {Y : PT} {kn : Nat × Nat} (hc : 73 < cs.length) (x y : Int32) (h : x < 0 ∨ a.1 17 0 ≤ x) : pu sc 65 [.ref 0, .int x, .int y] (cset cs a Y, kn) (px 3 (cset cs a Y, kn)) := by
  refine w_aload_n rfl rfl ?_
  refine w_getfield rfl (cs0 hc) rfl ?_
  refine w_iload_n rfl rfl ?_
  refine w_virtual rfl rfl (cs2 hc) ⟨(Nat.le_of_ble_eq_true rfl), rfl, (Nat.le_of_ble_eq_true rfl), (Nat.le_of_ble_eq_true rfl)⟩ rfl (Nat.le_of_ble_eq_true rfl) (c_pfind0 hc x h) ?_
  rintro _ _ ⟨rfl, rfl⟩
  refine ⟨_, rfl, ?_⟩
  refine w_astore_nN rfl (Nat.le_of_ble_eq_true rfl) ?_
  refine w_aload_nN rfl rfl ?_
  refine w_ifnullN rfl rfl ?_
  exact w_throw rfl (by decide) (Nat.le_of_ble_eq_true rfl) ⟨rfl, rfl⟩
set_option maxRecDepth 100000 in
set_option maxHeartbeats 1000000 in
theorem c_mg1 {sc : pm_Sc} {s : MS} {c : CX} {t j : Nat} {w : Int32} (h : R s c) (hi : Inv s t) (hj : j < mN s) (hw : w < 0 ∨ 6 < w) : pu sc 65 [.ref 0, .int (nI j), .int w] (hx c) (px 3 (hx c)) := by
  obtain ⟨cs, a, Y, kn⟩ := c
  have hc : 73 < cs.length := h.1
  have hm : a.1 17 0 = nI (mN s) := (h.am hi).1
  have h6 : mN s ≤ 600 := hi.m.2
  obtain ⟨p, l, e, y, b1, b2, b3, b4, b5, b6, b7⟩ := h.2.2.2.2.1 j hj
  show pu sc 65 [.ref 0, .int (nI j), .int w] (cset cs a Y, kn) _
  refine w_aload_n rfl rfl ?_
  refine w_getfield rfl (cs0 hc) rfl ?_
  refine w_iload_n rfl rfl ?_
  refine w_virtual rfl rfl (cs2 hc) ⟨(Nat.le_of_ble_eq_true rfl), rfl, (Nat.le_of_ble_eq_true rfl), (Nat.le_of_ble_eq_true rfl)⟩ rfl (Nat.le_of_ble_eq_true rfl) (c_pfind1 hc j hm h6 hj b1) ?_
  rintro _ _ ⟨rfl, rfl⟩
  refine ⟨_, rfl, ?_⟩
  refine w_astore_n rfl (Nat.le_of_ble_eq_true rfl) ?_
  refine w_aload_n rfl rfl ?_
  refine w_ifnull rfl rfl ?_
  refine w_iload_n rfl rfl ?_
  refine w_ifCond_lt rfl rfl (fun c14 => ?_) (fun c14 => ?_)
  · exact w_throw rfl (by decide) (Nat.le_of_ble_eq_true rfl) ⟨rfl, rfl⟩
  · refine w_iload_n rfl rfl ?_
    refine w_bipush (v := 6) rfl (by decide) ?_
    refine w_if_icmp_le rfl rfl (fun c20 => ?_) (fun c20 => ?_)
    · exact absurd hw (fun z => z.elim c14 (fun v => absurd (Int32.lt_of_lt_of_le v c20) Int32.lt_irrefl))
    · exact w_throw rfl (by decide) (Nat.le_of_ble_eq_true rfl) ⟨rfl, rfl⟩
set_option maxRecDepth 100000 in
set_option maxHeartbeats 1000000 in
theorem c_mgk0 {sc : pm_Sc} {s : MS} {c : CX} {t j : Nat} (h : R s c) (hi : Inv s t) (hj : j < mN s) : pu sc 65 [.ref 0, .int (nI j), .int 0] (hx c) (pz (some (.int (v_msg s j 0))) (hx c)) := by
  obtain ⟨cs, a, Y, kn⟩ := c
  have hc : 73 < cs.length := h.1
  have hm : a.1 17 0 = nI (mN s) := (h.am hi).1
  have h6 : mN s ≤ 600 := hi.m.2
  obtain ⟨p, l, e, y, b1, b2, b3, b4, b5, b6, b7⟩ := h.2.2.2.2.1 j hj
  show pu sc 65 [.ref 0, .int (nI j), .int 0] (cset cs a Y, kn) _
  refine w_aload_n rfl rfl ?_
  refine w_getfield rfl (cs0 hc) rfl ?_
  refine w_iload_n rfl rfl ?_
  refine w_virtual rfl rfl (cs2 hc) ⟨(Nat.le_of_ble_eq_true rfl), rfl, (Nat.le_of_ble_eq_true rfl), (Nat.le_of_ble_eq_true rfl)⟩ rfl (Nat.le_of_ble_eq_true rfl) (c_pfind1 hc j hm h6 hj b1) ?_
  rintro _ _ ⟨rfl, rfl⟩
  refine ⟨_, rfl, ?_⟩
  refine w_astore_n rfl (Nat.le_of_ble_eq_true rfl) ?_
  refine w_aload_n rfl rfl ?_
  refine w_ifnull rfl rfl ?_
  refine w_iload_n rfl rfl ?_
  refine w_ifCond_lt rfl rfl (fun c14 => ?_) (fun c14 => ?_)
  · exact absurd c14 (by decide)
  · refine w_iload_n rfl rfl ?_
    refine w_bipush (v := 6) rfl (by decide) ?_
    refine w_if_icmp_le rfl rfl (fun c20 => ?_) (fun c20 => ?_)
    · refine w_aload_n rfl rfl ?_
      refine w_iload_n rfl rfl ?_
      refine w_virtual rfl rfl ((cset_out (Nat.not_le_of_gt (Nat.lt_of_lt_of_le (by decide) b2))).trans b3) ⟨(Nat.le_of_ble_eq_true rfl), rfl, (Nat.le_of_ble_eq_true rfl), (Nat.le_of_ble_eq_true rfl)⟩ rfl (Nat.le_of_ble_eq_true rfl) (tm_0 (h := (cset cs a Y, kn)) ((cset_out (by omega)).trans b3) ((cset_out (Nat.not_le_of_gt (Nat.lt_of_lt_of_le (by decide) b4))).trans b5)) ?_
      rintro _ _ ⟨rfl, rfl⟩
      refine ⟨_, rfl, ?_⟩
      exact w_ireturn rfl (Or.inl rfl) ⟨rfl, rfl⟩
    · exact absurd (by decide) c20
set_option maxRecDepth 100000 in
set_option maxHeartbeats 1000000 in
theorem c_mgk1 {sc : pm_Sc} {s : MS} {c : CX} {t j : Nat} (h : R s c) (hi : Inv s t) (hj : j < mN s) : pu sc 65 [.ref 0, .int (nI j), .int 1] (hx c) (pz (some (.int (v_msg s j 1))) (hx c)) := by
  obtain ⟨cs, a, Y, kn⟩ := c
  have hc : 73 < cs.length := h.1
  have hm : a.1 17 0 = nI (mN s) := (h.am hi).1
  have h6 : mN s ≤ 600 := hi.m.2
  obtain ⟨p, l, e, y, b1, b2, b3, b4, b5, b6, b7⟩ := h.2.2.2.2.1 j hj
  show pu sc 65 [.ref 0, .int (nI j), .int 1] (cset cs a Y, kn) _
  refine w_aload_n rfl rfl ?_
  refine w_getfield rfl (cs0 hc) rfl ?_
  refine w_iload_n rfl rfl ?_
  refine w_virtual rfl rfl (cs2 hc) ⟨(Nat.le_of_ble_eq_true rfl), rfl, (Nat.le_of_ble_eq_true rfl), (Nat.le_of_ble_eq_true rfl)⟩ rfl (Nat.le_of_ble_eq_true rfl) (c_pfind1 hc j hm h6 hj b1) ?_
  rintro _ _ ⟨rfl, rfl⟩
  refine ⟨_, rfl, ?_⟩
  refine w_astore_n rfl (Nat.le_of_ble_eq_true rfl) ?_
  refine w_aload_n rfl rfl ?_
  refine w_ifnull rfl rfl ?_
  refine w_iload_n rfl rfl ?_
  refine w_ifCond_lt rfl rfl (fun c14 => ?_) (fun c14 => ?_)
  · exact absurd c14 (by decide)
  · refine w_iload_n rfl rfl ?_
    refine w_bipush (v := 6) rfl (by decide) ?_
    refine w_if_icmp_le rfl rfl (fun c20 => ?_) (fun c20 => ?_)
    · refine w_aload_n rfl rfl ?_
      refine w_iload_n rfl rfl ?_
      refine w_virtual rfl rfl ((cset_out (Nat.not_le_of_gt (Nat.lt_of_lt_of_le (by decide) b2))).trans b3) ⟨(Nat.le_of_ble_eq_true rfl), rfl, (Nat.le_of_ble_eq_true rfl), (Nat.le_of_ble_eq_true rfl)⟩ rfl (Nat.le_of_ble_eq_true rfl) (tm_1 (h := (cset cs a Y, kn)) ((cset_out (by omega)).trans b3) ((cset_out (Nat.not_le_of_gt (Nat.lt_of_lt_of_le (by decide) b4))).trans b5)) ?_
      rintro _ _ ⟨rfl, rfl⟩
      refine ⟨_, rfl, ?_⟩
      exact w_ireturn rfl (Or.inl rfl) ⟨rfl, rfl⟩
    · exact absurd (by decide) c20
set_option maxRecDepth 100000 in
set_option maxHeartbeats 1000000 in
theorem c_mgk2 {sc : pm_Sc} {s : MS} {c : CX} {t j : Nat} (h : R s c) (hi : Inv s t) (hj : j < mN s) : pu sc 65 [.ref 0, .int (nI j), .int 2] (hx c) (pz (some (.int (v_msg s j 2))) (hx c)) := by
  obtain ⟨cs, a, Y, kn⟩ := c
  have hc : 73 < cs.length := h.1
  have hm : a.1 17 0 = nI (mN s) := (h.am hi).1
  have h6 : mN s ≤ 600 := hi.m.2
  obtain ⟨p, l, e, y, b1, b2, b3, b4, b5, b6, b7⟩ := h.2.2.2.2.1 j hj
  show pu sc 65 [.ref 0, .int (nI j), .int 2] (cset cs a Y, kn) _
  refine w_aload_n rfl rfl ?_
  refine w_getfield rfl (cs0 hc) rfl ?_
  refine w_iload_n rfl rfl ?_
  refine w_virtual rfl rfl (cs2 hc) ⟨(Nat.le_of_ble_eq_true rfl), rfl, (Nat.le_of_ble_eq_true rfl), (Nat.le_of_ble_eq_true rfl)⟩ rfl (Nat.le_of_ble_eq_true rfl) (c_pfind1 hc j hm h6 hj b1) ?_
  rintro _ _ ⟨rfl, rfl⟩
  refine ⟨_, rfl, ?_⟩
  refine w_astore_n rfl (Nat.le_of_ble_eq_true rfl) ?_
  refine w_aload_n rfl rfl ?_
  refine w_ifnull rfl rfl ?_
  refine w_iload_n rfl rfl ?_
  refine w_ifCond_lt rfl rfl (fun c14 => ?_) (fun c14 => ?_)
  · exact absurd c14 (by decide)
  · refine w_iload_n rfl rfl ?_
    refine w_bipush (v := 6) rfl (by decide) ?_
    refine w_if_icmp_le rfl rfl (fun c20 => ?_) (fun c20 => ?_)
    · refine w_aload_n rfl rfl ?_
      refine w_iload_n rfl rfl ?_
      refine w_virtual rfl rfl ((cset_out (Nat.not_le_of_gt (Nat.lt_of_lt_of_le (by decide) b2))).trans b3) ⟨(Nat.le_of_ble_eq_true rfl), rfl, (Nat.le_of_ble_eq_true rfl), (Nat.le_of_ble_eq_true rfl)⟩ rfl (Nat.le_of_ble_eq_true rfl) (tm_2 (h := (cset cs a Y, kn)) ((cset_out (by omega)).trans b3) ((cset_out (Nat.not_le_of_gt (Nat.lt_of_lt_of_le (by decide) b4))).trans b5)) ?_
      rintro _ _ ⟨rfl, rfl⟩
      refine ⟨_, rfl, ?_⟩
      exact w_ireturn rfl (Or.inl rfl) ⟨rfl, rfl⟩
    · exact absurd (by decide) c20
set_option maxRecDepth 100000 in
set_option maxHeartbeats 1000000 in
theorem c_mgk3 {sc : pm_Sc} {s : MS} {c : CX} {t j : Nat} (h : R s c) (hi : Inv s t) (hj : j < mN s) : pu sc 65 [.ref 0, .int (nI j), .int 3] (hx c) (pz (some (.int (v_msg s j 3))) (hx c)) := by
  obtain ⟨cs, a, Y, kn⟩ := c
  have hc : 73 < cs.length := h.1
  have hm : a.1 17 0 = nI (mN s) := (h.am hi).1
  have h6 : mN s ≤ 600 := hi.m.2
  obtain ⟨p, l, e, y, b1, b2, b3, b4, b5, b6, b7⟩ := h.2.2.2.2.1 j hj
  show pu sc 65 [.ref 0, .int (nI j), .int 3] (cset cs a Y, kn) _
  refine w_aload_n rfl rfl ?_
  refine w_getfield rfl (cs0 hc) rfl ?_
  refine w_iload_n rfl rfl ?_
  refine w_virtual rfl rfl (cs2 hc) ⟨(Nat.le_of_ble_eq_true rfl), rfl, (Nat.le_of_ble_eq_true rfl), (Nat.le_of_ble_eq_true rfl)⟩ rfl (Nat.le_of_ble_eq_true rfl) (c_pfind1 hc j hm h6 hj b1) ?_
  rintro _ _ ⟨rfl, rfl⟩
  refine ⟨_, rfl, ?_⟩
  refine w_astore_n rfl (Nat.le_of_ble_eq_true rfl) ?_
  refine w_aload_n rfl rfl ?_
  refine w_ifnull rfl rfl ?_
  refine w_iload_n rfl rfl ?_
  refine w_ifCond_lt rfl rfl (fun c14 => ?_) (fun c14 => ?_)
  · exact absurd c14 (by decide)
  · refine w_iload_n rfl rfl ?_
    refine w_bipush (v := 6) rfl (by decide) ?_
    refine w_if_icmp_le rfl rfl (fun c20 => ?_) (fun c20 => ?_)
    · refine w_aload_n rfl rfl ?_
      refine w_iload_n rfl rfl ?_
      refine w_virtual rfl rfl ((cset_out (Nat.not_le_of_gt (Nat.lt_of_lt_of_le (by decide) b2))).trans b3) ⟨(Nat.le_of_ble_eq_true rfl), rfl, (Nat.le_of_ble_eq_true rfl), (Nat.le_of_ble_eq_true rfl)⟩ rfl (Nat.le_of_ble_eq_true rfl) (tm_3 (h := (cset cs a Y, kn)) ((cset_out (by omega)).trans b3) ((cset_out (Nat.not_le_of_gt (Nat.lt_of_lt_of_le (by decide) b4))).trans b5)) ?_
      rintro _ _ ⟨rfl, rfl⟩
      refine ⟨_, rfl, ?_⟩
      exact w_ireturn rfl (Or.inl rfl) ⟨rfl, rfl⟩
    · exact absurd (by decide) c20
set_option maxRecDepth 100000 in
set_option maxHeartbeats 1000000 in
theorem c_mgk4 {sc : pm_Sc} {s : MS} {c : CX} {t j : Nat} (h : R s c) (hi : Inv s t) (hj : j < mN s) : pu sc 65 [.ref 0, .int (nI j), .int 4] (hx c) (pz (some (.int (v_msg s j 4))) (hx c)) := by
  obtain ⟨cs, a, Y, kn⟩ := c
  have hc : 73 < cs.length := h.1
  have hm : a.1 17 0 = nI (mN s) := (h.am hi).1
  have h6 : mN s ≤ 600 := hi.m.2
  obtain ⟨p, l, e, y, b1, b2, b3, b4, b5, b6, b7⟩ := h.2.2.2.2.1 j hj
  show pu sc 65 [.ref 0, .int (nI j), .int 4] (cset cs a Y, kn) _
  refine w_aload_n rfl rfl ?_
  refine w_getfield rfl (cs0 hc) rfl ?_
  refine w_iload_n rfl rfl ?_
  refine w_virtual rfl rfl (cs2 hc) ⟨(Nat.le_of_ble_eq_true rfl), rfl, (Nat.le_of_ble_eq_true rfl), (Nat.le_of_ble_eq_true rfl)⟩ rfl (Nat.le_of_ble_eq_true rfl) (c_pfind1 hc j hm h6 hj b1) ?_
  rintro _ _ ⟨rfl, rfl⟩
  refine ⟨_, rfl, ?_⟩
  refine w_astore_n rfl (Nat.le_of_ble_eq_true rfl) ?_
  refine w_aload_n rfl rfl ?_
  refine w_ifnull rfl rfl ?_
  refine w_iload_n rfl rfl ?_
  refine w_ifCond_lt rfl rfl (fun c14 => ?_) (fun c14 => ?_)
  · exact absurd c14 (by decide)
  · refine w_iload_n rfl rfl ?_
    refine w_bipush (v := 6) rfl (by decide) ?_
    refine w_if_icmp_le rfl rfl (fun c20 => ?_) (fun c20 => ?_)
    · refine w_aload_n rfl rfl ?_
      refine w_iload_n rfl rfl ?_
      refine w_virtual rfl rfl ((cset_out (Nat.not_le_of_gt (Nat.lt_of_lt_of_le (by decide) b2))).trans b3) ⟨(Nat.le_of_ble_eq_true rfl), rfl, (Nat.le_of_ble_eq_true rfl), (Nat.le_of_ble_eq_true rfl)⟩ rfl (Nat.le_of_ble_eq_true rfl) (tm_4 (h := (cset cs a Y, kn)) ((cset_out (by omega)).trans b3) ((cset_out (Nat.not_le_of_gt (Nat.lt_of_lt_of_le (by decide) b4))).trans b5)) ?_
      rintro _ _ ⟨rfl, rfl⟩
      refine ⟨_, rfl, ?_⟩
      exact w_ireturn rfl (Or.inl rfl) ⟨rfl, rfl⟩
    · exact absurd (by decide) c20
set_option maxRecDepth 100000 in
set_option maxHeartbeats 1000000 in
theorem c_mgk5 {sc : pm_Sc} {s : MS} {c : CX} {t j : Nat} (h : R s c) (hi : Inv s t) (hj : j < mN s) : pu sc 65 [.ref 0, .int (nI j), .int 5] (hx c) (pz (some (.int (v_msg s j 5))) (hx c)) := by
  obtain ⟨cs, a, Y, kn⟩ := c
  have hc : 73 < cs.length := h.1
  have hm : a.1 17 0 = nI (mN s) := (h.am hi).1
  have h6 : mN s ≤ 600 := hi.m.2
  obtain ⟨p, l, e, y, b1, b2, b3, b4, b5, b6, b7⟩ := h.2.2.2.2.1 j hj
  show pu sc 65 [.ref 0, .int (nI j), .int 5] (cset cs a Y, kn) _
  refine w_aload_n rfl rfl ?_
  refine w_getfield rfl (cs0 hc) rfl ?_
  refine w_iload_n rfl rfl ?_
  refine w_virtual rfl rfl (cs2 hc) ⟨(Nat.le_of_ble_eq_true rfl), rfl, (Nat.le_of_ble_eq_true rfl), (Nat.le_of_ble_eq_true rfl)⟩ rfl (Nat.le_of_ble_eq_true rfl) (c_pfind1 hc j hm h6 hj b1) ?_
  rintro _ _ ⟨rfl, rfl⟩
  refine ⟨_, rfl, ?_⟩
  refine w_astore_n rfl (Nat.le_of_ble_eq_true rfl) ?_
  refine w_aload_n rfl rfl ?_
  refine w_ifnull rfl rfl ?_
  refine w_iload_n rfl rfl ?_
  refine w_ifCond_lt rfl rfl (fun c14 => ?_) (fun c14 => ?_)
  · exact absurd c14 (by decide)
  · refine w_iload_n rfl rfl ?_
    refine w_bipush (v := 6) rfl (by decide) ?_
    refine w_if_icmp_le rfl rfl (fun c20 => ?_) (fun c20 => ?_)
    · refine w_aload_n rfl rfl ?_
      refine w_iload_n rfl rfl ?_
      refine w_virtual rfl rfl ((cset_out (Nat.not_le_of_gt (Nat.lt_of_lt_of_le (by decide) b2))).trans b3) ⟨(Nat.le_of_ble_eq_true rfl), rfl, (Nat.le_of_ble_eq_true rfl), (Nat.le_of_ble_eq_true rfl)⟩ rfl (Nat.le_of_ble_eq_true rfl) (tm_5 (h := (cset cs a Y, kn)) ((cset_out (by omega)).trans b3) ((cset_out (Nat.not_le_of_gt (Nat.lt_of_lt_of_le (by decide) b4))).trans b5)) ?_
      rintro _ _ ⟨rfl, rfl⟩
      refine ⟨_, rfl, ?_⟩
      exact w_ireturn rfl (Or.inl rfl) ⟨rfl, rfl⟩
    · exact absurd (by decide) c20
set_option maxRecDepth 100000 in
set_option maxHeartbeats 1000000 in
theorem c_mgk6 {sc : pm_Sc} {s : MS} {c : CX} {t j : Nat} (h : R s c) (hi : Inv s t) (hj : j < mN s) : pu sc 65 [.ref 0, .int (nI j), .int 6] (hx c) (pz (some (.int (v_msg s j 6))) (hx c)) := by
  obtain ⟨cs, a, Y, kn⟩ := c
  have hc : 73 < cs.length := h.1
  have hm : a.1 17 0 = nI (mN s) := (h.am hi).1
  have h6 : mN s ≤ 600 := hi.m.2
  obtain ⟨p, l, e, y, b1, b2, b3, b4, b5, b6, b7⟩ := h.2.2.2.2.1 j hj
  show pu sc 65 [.ref 0, .int (nI j), .int 6] (cset cs a Y, kn) _
  refine w_aload_n rfl rfl ?_
  refine w_getfield rfl (cs0 hc) rfl ?_
  refine w_iload_n rfl rfl ?_
  refine w_virtual rfl rfl (cs2 hc) ⟨(Nat.le_of_ble_eq_true rfl), rfl, (Nat.le_of_ble_eq_true rfl), (Nat.le_of_ble_eq_true rfl)⟩ rfl (Nat.le_of_ble_eq_true rfl) (c_pfind1 hc j hm h6 hj b1) ?_
  rintro _ _ ⟨rfl, rfl⟩
  refine ⟨_, rfl, ?_⟩
  refine w_astore_n rfl (Nat.le_of_ble_eq_true rfl) ?_
  refine w_aload_n rfl rfl ?_
  refine w_ifnull rfl rfl ?_
  refine w_iload_n rfl rfl ?_
  refine w_ifCond_lt rfl rfl (fun c14 => ?_) (fun c14 => ?_)
  · exact absurd c14 (by decide)
  · refine w_iload_n rfl rfl ?_
    refine w_bipush (v := 6) rfl (by decide) ?_
    refine w_if_icmp_le rfl rfl (fun c20 => ?_) (fun c20 => ?_)
    · refine w_aload_n rfl rfl ?_
      refine w_iload_n rfl rfl ?_
      refine w_virtual rfl rfl ((cset_out (Nat.not_le_of_gt (Nat.lt_of_lt_of_le (by decide) b2))).trans b3) ⟨(Nat.le_of_ble_eq_true rfl), rfl, (Nat.le_of_ble_eq_true rfl), (Nat.le_of_ble_eq_true rfl)⟩ rfl (Nat.le_of_ble_eq_true rfl) (tm_6 (h := (cset cs a Y, kn)) ((cset_out (by omega)).trans b3) ((cset_out (Nat.not_le_of_gt (Nat.lt_of_lt_of_le (by decide) b4))).trans b5)) ?_
      rintro _ _ ⟨rfl, rfl⟩
      refine ⟨_, rfl, ?_⟩
      exact w_ireturn rfl (Or.inl rfl) ⟨rfl, rfl⟩
    · exact absurd (by decide) c20
set_option maxRecDepth 100000 in
set_option maxHeartbeats 1000000 in
theorem tq_0 {sc : pm_Sc} {h : pm_H} {s : MS} {q p : Nat} {x0 x1 x2 : Value} {o : Option Nat} {g : Nat → Option Nat} (hp : h.1[p]? = some (.inr (6, [x0, x1, x2, .ref (p + 1), pv o, .int (s.1 42 q), .int (s.1 43 q), .int (s.1 44 q)]))) (ha : h.1[p + 1]? = some (arrC g)) (hP : ∀ u, u < 4 → RP h.1 s q u (g u))  : pu sc 52 [.ref p, .int 0] h (pz (some (.int (v_req s q 0))) h) := by
  refine w_iload_n rfl rfl ?_
  refine w_tableIn rfl (by decide) rfl rfl ?_
  refine w_aload_n rfl rfl ?_
  refine w_getfield rfl hp rfl ?_
  refine w_ifCond_eq rfl rfl (fun c36 => ?_) (fun c36 => ?_)
  · refine w_iconst (v := 1) rfl (by decide) ?_
    exact w_ireturn rfl (Or.inl rfl) ⟨congrArg (fun z => Sum.inl (some (Value.int z))) ((if_pos c36).symm), rfl⟩
  · refine w_iconst (v := 2) rfl (by decide) ?_
    refine w_goto rfl rfl ?_
    exact w_ireturn rfl (Or.inl rfl) ⟨congrArg (fun z => Sum.inl (some (Value.int z))) ((if_neg c36).symm), rfl⟩
set_option maxRecDepth 100000 in
set_option maxHeartbeats 1000000 in
theorem tq_1 {sc : pm_Sc} {h : pm_H} {s : MS} {q p : Nat} {x0 x1 x2 : Value} {o : Option Nat} {g : Nat → Option Nat} (hp : h.1[p]? = some (.inr (6, [x0, x1, x2, .ref (p + 1), pv o, .int (s.1 42 q), .int (s.1 43 q), .int (s.1 44 q)]))) (ha : h.1[p + 1]? = some (arrC g)) (hP : ∀ u, u < 4 → RP h.1 s q u (g u))  : pu sc 52 [.ref p, .int 1] h (pz (some (.int (v_req s q 1))) h) := by
  refine w_iload_n rfl rfl ?_
  refine w_tableIn rfl (by decide) rfl rfl ?_
  refine w_aload_n rfl rfl ?_
  refine w_getfield rfl hp rfl ?_
  exact w_ireturn rfl (Or.inl rfl) ⟨rfl, rfl⟩
set_option maxRecDepth 100000 in
set_option maxHeartbeats 1000000 in
theorem tq_2 {sc : pm_Sc} {h : pm_H} {s : MS} {q p : Nat} {x0 x1 x2 : Value} {o : Option Nat} {g : Nat → Option Nat} (hp : h.1[p]? = some (.inr (6, [x0, x1, x2, .ref (p + 1), pv o, .int (s.1 42 q), .int (s.1 43 q), .int (s.1 44 q)]))) (ha : h.1[p + 1]? = some (arrC g)) (hP : ∀ u, u < 4 → RP h.1 s q u (g u))  : pu sc 52 [.ref p, .int 2] h (pz (some (.int (v_req s q 2))) h) := by
  refine w_iload_n rfl rfl ?_
  refine w_tableIn rfl (by decide) rfl rfl ?_
  refine w_aload_n rfl rfl ?_
  refine w_getfield rfl hp rfl ?_
  exact w_ireturn rfl (Or.inl rfl) ⟨rfl, rfl⟩
set_option maxRecDepth 100000 in
set_option maxHeartbeats 1000000 in
theorem tq_3 {sc : pm_Sc} {h : pm_H} {s : MS} {q p : Nat} {x0 x1 x2 : Value} {o : Option Nat} {g : Nat → Option Nat} (hp : h.1[p]? = some (.inr (6, [x0, x1, x2, .ref (p + 1), pv o, .int (s.1 42 q), .int (s.1 43 q), .int (s.1 44 q)]))) (ha : h.1[p + 1]? = some (arrC g)) (hP : ∀ u, u < 4 → RP h.1 s q u (g u))  : pu sc 52 [.ref p, .int 3] h (pz (some (.int (v_req s q 3))) h) := by
  refine w_iload_n rfl rfl ?_
  refine w_tableIn rfl (by decide) rfl rfl ?_
  refine w_aload_n rfl rfl ?_
  refine w_virtual rfl rfl hp ⟨(Nat.le_of_ble_eq_true rfl), rfl, (Nat.le_of_ble_eq_true rfl), (Nat.le_of_ble_eq_true rfl)⟩ rfl (Nat.le_of_ble_eq_true rfl) (c_cRep hp ha hP) ?_
  rintro _ _ ⟨rfl, rfl⟩
  refine ⟨_, rfl, ?_⟩
  exact w_ireturn rfl (Or.inl rfl) ⟨rfl, rfl⟩
set_option maxRecDepth 100000 in
set_option maxHeartbeats 1000000 in
theorem tq_4n {sc : pm_Sc} {h : pm_H} {s : MS} {q p : Nat} {x0 x1 x2 : Value} {g : Nat → Option Nat} (hp : h.1[p]? = some (.inr (6, [x0, x1, x2, .ref (p + 1), .null, .int (s.1 42 q), .int (s.1 43 q), .int (s.1 44 q)]))) (ha : h.1[p + 1]? = some (arrC g)) (hP : ∀ u, u < 4 → RP h.1 s q u (g u)) (h37 : s.1 37 q = 0) : pu sc 52 [.ref p, .int 4] h (pz (some (.int (v_req s q 4))) h) := by
  refine w_iload_n rfl rfl ?_
  refine w_tableOut rfl (by decide) rfl ?_
  refine w_aload_n rfl rfl ?_
  refine w_getfield rfl hp rfl ?_
  refine w_ifnullN rfl rfl ?_
  refine w_iconst (v := 0) rfl (by decide) ?_
  exact w_ireturn rfl (Or.inl rfl) ⟨congrArg (fun z => Sum.inl (some (Value.int z))) ((if_pos h37).symm), rfl⟩
set_option maxRecDepth 100000 in
set_option maxHeartbeats 1000000 in
theorem tq_4s {sc : pm_Sc} {h : pm_H} {s : MS} {q p : Nat} {x0 x1 x2 : Value} {l : Nat} {g : Nat → Option Nat} (hp : h.1[p]? = some (.inr (6, [x0, x1, x2, .ref (p + 1), .ref l, .int (s.1 42 q), .int (s.1 43 q), .int (s.1 44 q)]))) (ha : h.1[p + 1]? = some (arrC g)) (hP : ∀ u, u < 4 → RP h.1 s q u (g u)) (h37 : s.1 37 q = 1) : pu sc 52 [.ref p, .int 4] h (pz (some (.int (v_req s q 4))) h) := by
  refine w_iload_n rfl rfl ?_
  refine w_tableOut rfl (by decide) rfl ?_
  refine w_aload_n rfl rfl ?_
  refine w_getfield rfl hp rfl ?_
  refine w_ifnull rfl rfl ?_
  refine w_iconst (v := 1) rfl (by decide) ?_
  refine w_goto rfl rfl ?_
  exact w_ireturn rfl (Or.inl rfl) ⟨congrArg (fun z => Sum.inl (some (Value.int z))) ((if_neg (by rw [h37]; decide)).symm), rfl⟩
set_option maxRecDepth 100000 in
set_option maxHeartbeats 1000000 in
theorem c_rq0 {sc : pm_Sc} {cs : List pm_C} {a : MS} {Y : PT} {kn : Nat × Nat} (hc : 73 < cs.length) (x y : Int32) (h : x < 0 ∨ a.1 2 0 ≤ x) : pu sc 66 [.ref 0, .int x, .int y] (cset cs a Y, kn) (px 3 (cset cs a Y, kn)) := by
  refine w_aload_n rfl rfl ?_
  refine w_getfield rfl (cs0 hc) rfl ?_
  refine w_iload_n rfl rfl ?_
  refine w_virtual rfl rfl (cs4 hc) ⟨(Nat.le_of_ble_eq_true rfl), rfl, (Nat.le_of_ble_eq_true rfl), (Nat.le_of_ble_eq_true rfl)⟩ rfl (Nat.le_of_ble_eq_true rfl) (c_find0 hc x h) ?_
  rintro _ _ ⟨rfl, rfl⟩
  refine ⟨_, rfl, ?_⟩
  refine w_astore_nN rfl (Nat.le_of_ble_eq_true rfl) ?_
  refine w_aload_nN rfl rfl ?_
  refine w_ifnullN rfl rfl ?_
  exact w_throw rfl (by decide) (Nat.le_of_ble_eq_true rfl) ⟨rfl, rfl⟩
set_option maxRecDepth 100000 in
set_option maxHeartbeats 1000000 in
theorem c_rq1 {sc : pm_Sc} {s : MS} {c : CX} {t q : Nat} {w : Int32} (h : R s c) (hi : Inv s t) (hq : q < nqN s) (hw : w < 0 ∨ 4 < w) : pu sc 66 [.ref 0, .int (nI q), .int w] (hx c) (px 3 (hx c)) := by
  obtain ⟨cs, a, Y, kn⟩ := c
  have hc : 73 < cs.length := h.1
  have hn : a.1 2 0 = nI (nqN s) := (h.a 2 0 (by omega)).trans hi.q.1
  obtain ⟨p, o, g, b1, -, -, -, -, -⟩ := id (h.rg hq)
  have b1 : Y 1 q = some p := b1
  obtain ⟨o, g, z1, z2, z3, z4, z5⟩ := h.rq hq b1
  show pu sc 66 [.ref 0, .int (nI q), .int w] (cset cs a Y, kn) _
  refine w_aload_n rfl rfl ?_
  refine w_getfield rfl (cs0 hc) rfl ?_
  refine w_iload_n rfl rfl ?_
  refine w_virtual rfl rfl (cs4 hc) ⟨(Nat.le_of_ble_eq_true rfl), rfl, (Nat.le_of_ble_eq_true rfl), (Nat.le_of_ble_eq_true rfl)⟩ rfl (Nat.le_of_ble_eq_true rfl) (c_find1 hc q hn hi.q.2 hq b1) ?_
  rintro _ _ ⟨rfl, rfl⟩
  refine ⟨_, rfl, ?_⟩
  refine w_astore_n rfl (Nat.le_of_ble_eq_true rfl) ?_
  refine w_aload_n rfl rfl ?_
  refine w_ifnull rfl rfl ?_
  refine w_iload_n rfl rfl ?_
  refine w_ifCond_lt rfl rfl (fun c14 => ?_) (fun c14 => ?_)
  · exact w_throw rfl (by decide) (Nat.le_of_ble_eq_true rfl) ⟨rfl, rfl⟩
  · refine w_iload_n rfl rfl ?_
    refine w_iconst (v := 4) rfl (by decide) ?_
    refine w_if_icmp_le rfl rfl (fun c19 => ?_) (fun c19 => ?_)
    · exact absurd hw (fun z => z.elim c14 (fun v => absurd (Int32.lt_of_lt_of_le v c19) Int32.lt_irrefl))
    · exact w_throw rfl (by decide) (Nat.le_of_ble_eq_true rfl) ⟨rfl, rfl⟩
set_option maxRecDepth 100000 in
set_option maxHeartbeats 1000000 in
theorem c_rqk0 {sc : pm_Sc} {s : MS} {c : CX} {t q : Nat} (h : R s c) (hi : Inv s t) (hq : q < nqN s) : pu sc 66 [.ref 0, .int (nI q), .int 0] (hx c) (pz (some (.int (v_req s q 0))) (hx c)) := by
  obtain ⟨cs, a, Y, kn⟩ := c
  have hc : 73 < cs.length := h.1
  have hn : a.1 2 0 = nI (nqN s) := (h.a 2 0 (by omega)).trans hi.q.1
  obtain ⟨p, o, g, b1, -, -, -, -, -⟩ := id (h.rg hq)
  have b1 : Y 1 q = some p := b1
  obtain ⟨o, g, z1, z2, z3, z4, z5⟩ := h.rq hq b1
  show pu sc 66 [.ref 0, .int (nI q), .int 0] (cset cs a Y, kn) _
  refine w_aload_n rfl rfl ?_
  refine w_getfield rfl (cs0 hc) rfl ?_
  refine w_iload_n rfl rfl ?_
  refine w_virtual rfl rfl (cs4 hc) ⟨(Nat.le_of_ble_eq_true rfl), rfl, (Nat.le_of_ble_eq_true rfl), (Nat.le_of_ble_eq_true rfl)⟩ rfl (Nat.le_of_ble_eq_true rfl) (c_find1 hc q hn hi.q.2 hq b1) ?_
  rintro _ _ ⟨rfl, rfl⟩
  refine ⟨_, rfl, ?_⟩
  refine w_astore_n rfl (Nat.le_of_ble_eq_true rfl) ?_
  refine w_aload_n rfl rfl ?_
  refine w_ifnull rfl rfl ?_
  refine w_iload_n rfl rfl ?_
  refine w_ifCond_lt rfl rfl (fun c14 => ?_) (fun c14 => ?_)
  · exact absurd c14 (by decide)
  · refine w_iload_n rfl rfl ?_
    refine w_iconst (v := 4) rfl (by decide) ?_
    refine w_if_icmp_le rfl rfl (fun c19 => ?_) (fun c19 => ?_)
    · refine w_aload_n rfl rfl ?_
      refine w_iload_n rfl rfl ?_
      refine w_virtual rfl rfl ((cset_out (Nat.not_le_of_gt (Nat.lt_of_lt_of_le (by decide) z1))).trans z2) ⟨(Nat.le_of_ble_eq_true rfl), rfl, (Nat.le_of_ble_eq_true rfl), (Nat.le_of_ble_eq_true rfl)⟩ rfl (Nat.le_of_ble_eq_true rfl) (tq_0 (h := (cset cs a Y, kn)) ((cset_out (by omega)).trans z2) ((cset_out (by omega)).trans z3) (fun u hu => (z4 u hu).out)) ?_
      rintro _ _ ⟨rfl, rfl⟩
      refine ⟨_, rfl, ?_⟩
      exact w_ireturn rfl (Or.inl rfl) ⟨rfl, rfl⟩
    · exact absurd (by decide) c19
set_option maxRecDepth 100000 in
set_option maxHeartbeats 1000000 in
theorem c_rqk1 {sc : pm_Sc} {s : MS} {c : CX} {t q : Nat} (h : R s c) (hi : Inv s t) (hq : q < nqN s) : pu sc 66 [.ref 0, .int (nI q), .int 1] (hx c) (pz (some (.int (v_req s q 1))) (hx c)) := by
  obtain ⟨cs, a, Y, kn⟩ := c
  have hc : 73 < cs.length := h.1
  have hn : a.1 2 0 = nI (nqN s) := (h.a 2 0 (by omega)).trans hi.q.1
  obtain ⟨p, o, g, b1, -, -, -, -, -⟩ := id (h.rg hq)
  have b1 : Y 1 q = some p := b1
  obtain ⟨o, g, z1, z2, z3, z4, z5⟩ := h.rq hq b1
  show pu sc 66 [.ref 0, .int (nI q), .int 1] (cset cs a Y, kn) _
  refine w_aload_n rfl rfl ?_
  refine w_getfield rfl (cs0 hc) rfl ?_
  refine w_iload_n rfl rfl ?_
  refine w_virtual rfl rfl (cs4 hc) ⟨(Nat.le_of_ble_eq_true rfl), rfl, (Nat.le_of_ble_eq_true rfl), (Nat.le_of_ble_eq_true rfl)⟩ rfl (Nat.le_of_ble_eq_true rfl) (c_find1 hc q hn hi.q.2 hq b1) ?_
  rintro _ _ ⟨rfl, rfl⟩
  refine ⟨_, rfl, ?_⟩
  refine w_astore_n rfl (Nat.le_of_ble_eq_true rfl) ?_
  refine w_aload_n rfl rfl ?_
  refine w_ifnull rfl rfl ?_
  refine w_iload_n rfl rfl ?_
  refine w_ifCond_lt rfl rfl (fun c14 => ?_) (fun c14 => ?_)
  · exact absurd c14 (by decide)
  · refine w_iload_n rfl rfl ?_
    refine w_iconst (v := 4) rfl (by decide) ?_
    refine w_if_icmp_le rfl rfl (fun c19 => ?_) (fun c19 => ?_)
    · refine w_aload_n rfl rfl ?_
      refine w_iload_n rfl rfl ?_
      refine w_virtual rfl rfl ((cset_out (Nat.not_le_of_gt (Nat.lt_of_lt_of_le (by decide) z1))).trans z2) ⟨(Nat.le_of_ble_eq_true rfl), rfl, (Nat.le_of_ble_eq_true rfl), (Nat.le_of_ble_eq_true rfl)⟩ rfl (Nat.le_of_ble_eq_true rfl) (tq_1 (h := (cset cs a Y, kn)) ((cset_out (by omega)).trans z2) ((cset_out (by omega)).trans z3) (fun u hu => (z4 u hu).out)) ?_
      rintro _ _ ⟨rfl, rfl⟩
      refine ⟨_, rfl, ?_⟩
      exact w_ireturn rfl (Or.inl rfl) ⟨rfl, rfl⟩
    · exact absurd (by decide) c19
set_option maxRecDepth 100000 in
set_option maxHeartbeats 1000000 in
theorem c_rqk2 {sc : pm_Sc} {s : MS} {c : CX} {t q : Nat} (h : R s c) (hi : Inv s t) (hq : q < nqN s) : pu sc 66 [.ref 0, .int (nI q), .int 2] (hx c) (pz (some (.int (v_req s q 2))) (hx c)) := by
  obtain ⟨cs, a, Y, kn⟩ := c
  have hc : 73 < cs.length := h.1
  have hn : a.1 2 0 = nI (nqN s) := (h.a 2 0 (by omega)).trans hi.q.1
  obtain ⟨p, o, g, b1, -, -, -, -, -⟩ := id (h.rg hq)
  have b1 : Y 1 q = some p := b1
  obtain ⟨o, g, z1, z2, z3, z4, z5⟩ := h.rq hq b1
  show pu sc 66 [.ref 0, .int (nI q), .int 2] (cset cs a Y, kn) _
  refine w_aload_n rfl rfl ?_
  refine w_getfield rfl (cs0 hc) rfl ?_
  refine w_iload_n rfl rfl ?_
  refine w_virtual rfl rfl (cs4 hc) ⟨(Nat.le_of_ble_eq_true rfl), rfl, (Nat.le_of_ble_eq_true rfl), (Nat.le_of_ble_eq_true rfl)⟩ rfl (Nat.le_of_ble_eq_true rfl) (c_find1 hc q hn hi.q.2 hq b1) ?_
  rintro _ _ ⟨rfl, rfl⟩
  refine ⟨_, rfl, ?_⟩
  refine w_astore_n rfl (Nat.le_of_ble_eq_true rfl) ?_
  refine w_aload_n rfl rfl ?_
  refine w_ifnull rfl rfl ?_
  refine w_iload_n rfl rfl ?_
  refine w_ifCond_lt rfl rfl (fun c14 => ?_) (fun c14 => ?_)
  · exact absurd c14 (by decide)
  · refine w_iload_n rfl rfl ?_
    refine w_iconst (v := 4) rfl (by decide) ?_
    refine w_if_icmp_le rfl rfl (fun c19 => ?_) (fun c19 => ?_)
    · refine w_aload_n rfl rfl ?_
      refine w_iload_n rfl rfl ?_
      refine w_virtual rfl rfl ((cset_out (Nat.not_le_of_gt (Nat.lt_of_lt_of_le (by decide) z1))).trans z2) ⟨(Nat.le_of_ble_eq_true rfl), rfl, (Nat.le_of_ble_eq_true rfl), (Nat.le_of_ble_eq_true rfl)⟩ rfl (Nat.le_of_ble_eq_true rfl) (tq_2 (h := (cset cs a Y, kn)) ((cset_out (by omega)).trans z2) ((cset_out (by omega)).trans z3) (fun u hu => (z4 u hu).out)) ?_
      rintro _ _ ⟨rfl, rfl⟩
      refine ⟨_, rfl, ?_⟩
      exact w_ireturn rfl (Or.inl rfl) ⟨rfl, rfl⟩
    · exact absurd (by decide) c19
set_option maxRecDepth 100000 in
set_option maxHeartbeats 1000000 in
theorem c_rqk3 {sc : pm_Sc} {s : MS} {c : CX} {t q : Nat} (h : R s c) (hi : Inv s t) (hq : q < nqN s) : pu sc 66 [.ref 0, .int (nI q), .int 3] (hx c) (pz (some (.int (v_req s q 3))) (hx c)) := by
  obtain ⟨cs, a, Y, kn⟩ := c
  have hc : 73 < cs.length := h.1
  have hn : a.1 2 0 = nI (nqN s) := (h.a 2 0 (by omega)).trans hi.q.1
  obtain ⟨p, o, g, b1, -, -, -, -, -⟩ := id (h.rg hq)
  have b1 : Y 1 q = some p := b1
  obtain ⟨o, g, z1, z2, z3, z4, z5⟩ := h.rq hq b1
  show pu sc 66 [.ref 0, .int (nI q), .int 3] (cset cs a Y, kn) _
  refine w_aload_n rfl rfl ?_
  refine w_getfield rfl (cs0 hc) rfl ?_
  refine w_iload_n rfl rfl ?_
  refine w_virtual rfl rfl (cs4 hc) ⟨(Nat.le_of_ble_eq_true rfl), rfl, (Nat.le_of_ble_eq_true rfl), (Nat.le_of_ble_eq_true rfl)⟩ rfl (Nat.le_of_ble_eq_true rfl) (c_find1 hc q hn hi.q.2 hq b1) ?_
  rintro _ _ ⟨rfl, rfl⟩
  refine ⟨_, rfl, ?_⟩
  refine w_astore_n rfl (Nat.le_of_ble_eq_true rfl) ?_
  refine w_aload_n rfl rfl ?_
  refine w_ifnull rfl rfl ?_
  refine w_iload_n rfl rfl ?_
  refine w_ifCond_lt rfl rfl (fun c14 => ?_) (fun c14 => ?_)
  · exact absurd c14 (by decide)
  · refine w_iload_n rfl rfl ?_
    refine w_iconst (v := 4) rfl (by decide) ?_
    refine w_if_icmp_le rfl rfl (fun c19 => ?_) (fun c19 => ?_)
    · refine w_aload_n rfl rfl ?_
      refine w_iload_n rfl rfl ?_
      refine w_virtual rfl rfl ((cset_out (Nat.not_le_of_gt (Nat.lt_of_lt_of_le (by decide) z1))).trans z2) ⟨(Nat.le_of_ble_eq_true rfl), rfl, (Nat.le_of_ble_eq_true rfl), (Nat.le_of_ble_eq_true rfl)⟩ rfl (Nat.le_of_ble_eq_true rfl) (tq_3 (h := (cset cs a Y, kn)) ((cset_out (by omega)).trans z2) ((cset_out (by omega)).trans z3) (fun u hu => (z4 u hu).out)) ?_
      rintro _ _ ⟨rfl, rfl⟩
      refine ⟨_, rfl, ?_⟩
      exact w_ireturn rfl (Or.inl rfl) ⟨rfl, rfl⟩
    · exact absurd (by decide) c19
set_option maxRecDepth 100000 in
set_option maxHeartbeats 1000000 in
theorem c_rqk4 {sc : pm_Sc} {s : MS} {c : CX} {t q : Nat} (h : R s c) (hi : Inv s t) (hq : q < nqN s) : pu sc 66 [.ref 0, .int (nI q), .int 4] (hx c) (pz (some (.int (v_req s q 4))) (hx c)) := by
  obtain ⟨cs, a, Y, kn⟩ := c
  have hc : 73 < cs.length := h.1
  have hn : a.1 2 0 = nI (nqN s) := (h.a 2 0 (by omega)).trans hi.q.1
  obtain ⟨p, o, g, b1, -, -, -, -, -⟩ := id (h.rg hq)
  have b1 : Y 1 q = some p := b1
  obtain ⟨o, g, z1, z2, z3, z4, z5⟩ := h.rq hq b1
  show pu sc 66 [.ref 0, .int (nI q), .int 4] (cset cs a Y, kn) _
  rcases z5 with ⟨e1, e2⟩ | ⟨l, y, e1, e2, e3, e4, e5⟩
  · subst e1
    refine w_aload_n rfl rfl ?_
    refine w_getfield rfl (cs0 hc) rfl ?_
    refine w_iload_n rfl rfl ?_
    refine w_virtual rfl rfl (cs4 hc) ⟨(Nat.le_of_ble_eq_true rfl), rfl, (Nat.le_of_ble_eq_true rfl), (Nat.le_of_ble_eq_true rfl)⟩ rfl (Nat.le_of_ble_eq_true rfl) (c_find1 hc q hn hi.q.2 hq b1) ?_
    rintro _ _ ⟨rfl, rfl⟩
    refine ⟨_, rfl, ?_⟩
    refine w_astore_n rfl (Nat.le_of_ble_eq_true rfl) ?_
    refine w_aload_n rfl rfl ?_
    refine w_ifnull rfl rfl ?_
    refine w_iload_n rfl rfl ?_
    refine w_ifCond_lt rfl rfl (fun c14 => ?_) (fun c14 => ?_)
    · exact absurd c14 (by decide)
    · refine w_iload_n rfl rfl ?_
      refine w_iconst (v := 4) rfl (by decide) ?_
      refine w_if_icmp_le rfl rfl (fun c19 => ?_) (fun c19 => ?_)
      · refine w_aload_n rfl rfl ?_
        refine w_iload_n rfl rfl ?_
        refine w_virtual rfl rfl ((cset_out (Nat.not_le_of_gt (Nat.lt_of_lt_of_le (by decide) z1))).trans z2) ⟨(Nat.le_of_ble_eq_true rfl), rfl, (Nat.le_of_ble_eq_true rfl), (Nat.le_of_ble_eq_true rfl)⟩ rfl (Nat.le_of_ble_eq_true rfl) (tq_4n (h := (cset cs a Y, kn)) ((cset_out (by omega)).trans z2) ((cset_out (by omega)).trans z3) (fun u hu => (z4 u hu).out) e2) ?_
        rintro _ _ ⟨rfl, rfl⟩
        refine ⟨_, rfl, ?_⟩
        exact w_ireturn rfl (Or.inl rfl) ⟨rfl, rfl⟩
      · exact absurd (by decide) c19
  · subst e1
    refine w_aload_n rfl rfl ?_
    refine w_getfield rfl (cs0 hc) rfl ?_
    refine w_iload_n rfl rfl ?_
    refine w_virtual rfl rfl (cs4 hc) ⟨(Nat.le_of_ble_eq_true rfl), rfl, (Nat.le_of_ble_eq_true rfl), (Nat.le_of_ble_eq_true rfl)⟩ rfl (Nat.le_of_ble_eq_true rfl) (c_find1 hc q hn hi.q.2 hq b1) ?_
    rintro _ _ ⟨rfl, rfl⟩
    refine ⟨_, rfl, ?_⟩
    refine w_astore_n rfl (Nat.le_of_ble_eq_true rfl) ?_
    refine w_aload_n rfl rfl ?_
    refine w_ifnull rfl rfl ?_
    refine w_iload_n rfl rfl ?_
    refine w_ifCond_lt rfl rfl (fun c14 => ?_) (fun c14 => ?_)
    · exact absurd c14 (by decide)
    · refine w_iload_n rfl rfl ?_
      refine w_iconst (v := 4) rfl (by decide) ?_
      refine w_if_icmp_le rfl rfl (fun c19 => ?_) (fun c19 => ?_)
      · refine w_aload_n rfl rfl ?_
        refine w_iload_n rfl rfl ?_
        refine w_virtual rfl rfl ((cset_out (Nat.not_le_of_gt (Nat.lt_of_lt_of_le (by decide) z1))).trans z2) ⟨(Nat.le_of_ble_eq_true rfl), rfl, (Nat.le_of_ble_eq_true rfl), (Nat.le_of_ble_eq_true rfl)⟩ rfl (Nat.le_of_ble_eq_true rfl) (tq_4s (h := (cset cs a Y, kn)) ((cset_out (by omega)).trans z2) ((cset_out (by omega)).trans z3) (fun u hu => (z4 u hu).out) e3) ?_
        rintro _ _ ⟨rfl, rfl⟩
        refine ⟨_, rfl, ?_⟩
        exact w_ireturn rfl (Or.inl rfl) ⟨rfl, rfl⟩
      · exact absurd (by decide) c19
set_option maxRecDepth 100000 in
set_option maxHeartbeats 1000000 in
theorem tr_0 {sc : pm_Sc} {cs : List pm_C} {a : MS} {Y : PT} {kn : Nat × Nat} (hc : 73 < cs.length) {s : MS} {t r : Nat} (h : R s (cs, a, Y, kn)) (hi : Inv s t) (hr : r < 4) : pu sc 25 [.ref (7 + 6 * r), .int 0] (cset cs a Y, kn) (pz (some (.int (v_rep s r 0))) (cset cs a Y, kn)) := by
  have e6 : a.1 6 r = s.1 6 r := h.a 6 r (by omega)
  have e7 : a.1 7 r = s.1 7 r := h.a 7 r (by omega)
  have e9 : a.1 9 r = s.1 9 r := h.a 9 r (by omega)
  have e10 : a.1 10 r = s.1 10 r := h.a 10 r (by omega)
  have e11 : a.1 11 r = s.1 11 r := h.a 11 r (by omega)
  have e12 : a.1 12 r = s.1 12 r := h.a 12 r (by omega)
  have hn : a.1 7 r = nI (lnN s r) := h.hn hi hr
  have h12 : lnN s r ≤ 12 := (hi.r hr).2.1
  have hdg : dgG (fun b => a.1 50 (12 * r + b)) (lnN s r) = digN (s.2 8 r) (lnN s r) := dg_dig (h.2.2.1 r hr).1 _ (Nat.le_refl _)
  refine w_iload_n rfl rfl ?_
  refine w_tableIn rfl (by decide) rfl rfl ?_
  refine w_aload_n rfl rfl ?_
  refine w_getfield rfl (cs7 hc hr) rfl ?_
  exact w_ireturn rfl (Or.inl rfl) ⟨congrArg (fun z => Sum.inl (some (Value.int z))) (e6), rfl⟩
set_option maxRecDepth 100000 in
set_option maxHeartbeats 1000000 in
theorem tr_1 {sc : pm_Sc} {cs : List pm_C} {a : MS} {Y : PT} {kn : Nat × Nat} (hc : 73 < cs.length) {s : MS} {t r : Nat} (h : R s (cs, a, Y, kn)) (hi : Inv s t) (hr : r < 4) : pu sc 25 [.ref (7 + 6 * r), .int 1] (cset cs a Y, kn) (pz (some (.int (v_rep s r 1))) (cset cs a Y, kn)) := by
  have e6 : a.1 6 r = s.1 6 r := h.a 6 r (by omega)
  have e7 : a.1 7 r = s.1 7 r := h.a 7 r (by omega)
  have e9 : a.1 9 r = s.1 9 r := h.a 9 r (by omega)
  have e10 : a.1 10 r = s.1 10 r := h.a 10 r (by omega)
  have e11 : a.1 11 r = s.1 11 r := h.a 11 r (by omega)
  have e12 : a.1 12 r = s.1 12 r := h.a 12 r (by omega)
  have hn : a.1 7 r = nI (lnN s r) := h.hn hi hr
  have h12 : lnN s r ≤ 12 := (hi.r hr).2.1
  have hdg : dgG (fun b => a.1 50 (12 * r + b)) (lnN s r) = digN (s.2 8 r) (lnN s r) := dg_dig (h.2.2.1 r hr).1 _ (Nat.le_refl _)
  refine w_iload_n rfl rfl ?_
  refine w_tableIn rfl (by decide) rfl rfl ?_
  refine w_aload_n rfl rfl ?_
  refine w_getfield rfl (cs7 hc hr) rfl ?_
  refine w_getfield rfl (cs8 hc hr) rfl ?_
  exact w_ireturn rfl (Or.inl rfl) ⟨congrArg (fun z => Sum.inl (some (Value.int z))) (e7), rfl⟩
set_option maxRecDepth 100000 in
set_option maxHeartbeats 1000000 in
theorem tr_2 {sc : pm_Sc} {cs : List pm_C} {a : MS} {Y : PT} {kn : Nat × Nat} (hc : 73 < cs.length) {s : MS} {t r : Nat} (h : R s (cs, a, Y, kn)) (hi : Inv s t) (hr : r < 4) : pu sc 25 [.ref (7 + 6 * r), .int 2] (cset cs a Y, kn) (pz (some (.int (v_rep s r 2))) (cset cs a Y, kn)) := by
  have e6 : a.1 6 r = s.1 6 r := h.a 6 r (by omega)
  have e7 : a.1 7 r = s.1 7 r := h.a 7 r (by omega)
  have e9 : a.1 9 r = s.1 9 r := h.a 9 r (by omega)
  have e10 : a.1 10 r = s.1 10 r := h.a 10 r (by omega)
  have e11 : a.1 11 r = s.1 11 r := h.a 11 r (by omega)
  have e12 : a.1 12 r = s.1 12 r := h.a 12 r (by omega)
  have hn : a.1 7 r = nI (lnN s r) := h.hn hi hr
  have h12 : lnN s r ≤ 12 := (hi.r hr).2.1
  have hdg : dgG (fun b => a.1 50 (12 * r + b)) (lnN s r) = digN (s.2 8 r) (lnN s r) := dg_dig (h.2.2.1 r hr).1 _ (Nat.le_refl _)
  refine w_iload_n rfl rfl ?_
  refine w_tableIn rfl (by decide) rfl rfl ?_
  refine w_aload_n rfl rfl ?_
  refine w_getfield rfl (cs7 hc hr) rfl ?_
  refine w_getfield rfl (cs8 hc hr) rfl ?_
  exact w_ireturn rfl (Or.inl rfl) ⟨congrArg (fun z => Sum.inl (some (Value.int z))) (e9), rfl⟩
set_option maxRecDepth 100000 in
set_option maxHeartbeats 1000000 in
theorem tr_3 {sc : pm_Sc} {cs : List pm_C} {a : MS} {Y : PT} {kn : Nat × Nat} (hc : 73 < cs.length) {s : MS} {t r : Nat} (h : R s (cs, a, Y, kn)) (hi : Inv s t) (hr : r < 4) : pu sc 25 [.ref (7 + 6 * r), .int 3] (cset cs a Y, kn) (pz (some (.int (v_rep s r 3))) (cset cs a Y, kn)) := by
  have e6 : a.1 6 r = s.1 6 r := h.a 6 r (by omega)
  have e7 : a.1 7 r = s.1 7 r := h.a 7 r (by omega)
  have e9 : a.1 9 r = s.1 9 r := h.a 9 r (by omega)
  have e10 : a.1 10 r = s.1 10 r := h.a 10 r (by omega)
  have e11 : a.1 11 r = s.1 11 r := h.a 11 r (by omega)
  have e12 : a.1 12 r = s.1 12 r := h.a 12 r (by omega)
  have hn : a.1 7 r = nI (lnN s r) := h.hn hi hr
  have h12 : lnN s r ≤ 12 := (hi.r hr).2.1
  have hdg : dgG (fun b => a.1 50 (12 * r + b)) (lnN s r) = digN (s.2 8 r) (lnN s r) := dg_dig (h.2.2.1 r hr).1 _ (Nat.le_refl _)
  refine w_iload_n rfl rfl ?_
  refine w_tableIn rfl (by decide) rfl rfl ?_
  refine w_aload_n rfl rfl ?_
  refine w_getfield rfl (cs7 hc hr) rfl ?_
  refine w_ifCond_eq rfl rfl (fun c65 => ?_) (fun c65 => ?_)
  · refine w_iconst (v := 0) rfl (by decide) ?_
    exact w_ireturn rfl (Or.inl rfl) ⟨congrArg (fun z => Sum.inl (some (Value.int z))) ((if_pos (by rw [← e10]; exact c65)).symm), rfl⟩
  · refine w_iconst (v := 1) rfl (by decide) ?_
    refine w_goto rfl rfl ?_
    exact w_ireturn rfl (Or.inl rfl) ⟨congrArg (fun z => Sum.inl (some (Value.int z))) ((if_neg (by rw [← e10]; exact c65)).symm), rfl⟩
set_option maxRecDepth 100000 in
set_option maxHeartbeats 1000000 in
theorem tr_4 {sc : pm_Sc} {cs : List pm_C} {a : MS} {Y : PT} {kn : Nat × Nat} (hc : 73 < cs.length) {s : MS} {t r : Nat} (h : R s (cs, a, Y, kn)) (hi : Inv s t) (hr : r < 4) : pu sc 25 [.ref (7 + 6 * r), .int 4] (cset cs a Y, kn) (pz (some (.int (v_rep s r 4))) (cset cs a Y, kn)) := by
  have e6 : a.1 6 r = s.1 6 r := h.a 6 r (by omega)
  have e7 : a.1 7 r = s.1 7 r := h.a 7 r (by omega)
  have e9 : a.1 9 r = s.1 9 r := h.a 9 r (by omega)
  have e10 : a.1 10 r = s.1 10 r := h.a 10 r (by omega)
  have e11 : a.1 11 r = s.1 11 r := h.a 11 r (by omega)
  have e12 : a.1 12 r = s.1 12 r := h.a 12 r (by omega)
  have hn : a.1 7 r = nI (lnN s r) := h.hn hi hr
  have h12 : lnN s r ≤ 12 := (hi.r hr).2.1
  have hdg : dgG (fun b => a.1 50 (12 * r + b)) (lnN s r) = digN (s.2 8 r) (lnN s r) := dg_dig (h.2.2.1 r hr).1 _ (Nat.le_refl _)
  refine w_iload_n rfl rfl ?_
  refine w_tableIn rfl (by decide) rfl rfl ?_
  refine w_aload_n rfl rfl ?_
  refine w_getfield rfl (cs7 hc hr) rfl ?_
  exact w_ireturn rfl (Or.inl rfl) ⟨congrArg (fun z => Sum.inl (some (Value.int z))) (e11), rfl⟩
set_option maxRecDepth 100000 in
set_option maxHeartbeats 1000000 in
theorem tr_5 {sc : pm_Sc} {cs : List pm_C} {a : MS} {Y : PT} {kn : Nat × Nat} (hc : 73 < cs.length) {s : MS} {t r : Nat} (h : R s (cs, a, Y, kn)) (hi : Inv s t) (hr : r < 4) : pu sc 25 [.ref (7 + 6 * r), .int 5] (cset cs a Y, kn) (pz (some (.int (v_rep s r 5))) (cset cs a Y, kn)) := by
  have e6 : a.1 6 r = s.1 6 r := h.a 6 r (by omega)
  have e7 : a.1 7 r = s.1 7 r := h.a 7 r (by omega)
  have e9 : a.1 9 r = s.1 9 r := h.a 9 r (by omega)
  have e10 : a.1 10 r = s.1 10 r := h.a 10 r (by omega)
  have e11 : a.1 11 r = s.1 11 r := h.a 11 r (by omega)
  have e12 : a.1 12 r = s.1 12 r := h.a 12 r (by omega)
  have hn : a.1 7 r = nI (lnN s r) := h.hn hi hr
  have h12 : lnN s r ≤ 12 := (hi.r hr).2.1
  have hdg : dgG (fun b => a.1 50 (12 * r + b)) (lnN s r) = digN (s.2 8 r) (lnN s r) := dg_dig (h.2.2.1 r hr).1 _ (Nat.le_refl _)
  refine w_iload_n rfl rfl ?_
  refine w_tableIn rfl (by decide) rfl rfl ?_
  refine w_aload_n rfl rfl ?_
  refine w_getfield rfl (cs7 hc hr) rfl ?_
  exact w_ireturn rfl (Or.inl rfl) ⟨congrArg (fun z => Sum.inl (some (Value.int z))) (e12), rfl⟩
set_option maxRecDepth 100000 in
set_option maxHeartbeats 1000000 in
theorem tr_6 {sc : pm_Sc} {cs : List pm_C} {a : MS} {Y : PT} {kn : Nat × Nat} (hc : 73 < cs.length) {s : MS} {t r : Nat} (h : R s (cs, a, Y, kn)) (hi : Inv s t) (hr : r < 4) : pu sc 25 [.ref (7 + 6 * r), .int 6] (cset cs a Y, kn) (pz (some (.int (v_rep s r 6))) (cset cs a Y, kn)) := by
  have e6 : a.1 6 r = s.1 6 r := h.a 6 r (by omega)
  have e7 : a.1 7 r = s.1 7 r := h.a 7 r (by omega)
  have e9 : a.1 9 r = s.1 9 r := h.a 9 r (by omega)
  have e10 : a.1 10 r = s.1 10 r := h.a 10 r (by omega)
  have e11 : a.1 11 r = s.1 11 r := h.a 11 r (by omega)
  have e12 : a.1 12 r = s.1 12 r := h.a 12 r (by omega)
  have hn : a.1 7 r = nI (lnN s r) := h.hn hi hr
  have h12 : lnN s r ≤ 12 := (hi.r hr).2.1
  have hdg : dgG (fun b => a.1 50 (12 * r + b)) (lnN s r) = digN (s.2 8 r) (lnN s r) := dg_dig (h.2.2.1 r hr).1 _ (Nat.le_refl _)
  refine w_iload_n rfl rfl ?_
  refine w_tableOut rfl (by decide) rfl ?_
  refine w_aload_n rfl rfl ?_
  refine w_getfield rfl (cs7 hc hr) rfl ?_
  refine w_aload_n rfl rfl ?_
  refine w_getfield rfl (cs7 hc hr) rfl ?_
  refine w_getfield rfl (cs8 hc hr) rfl ?_
  rw [hn]
  refine w_virtual rfl rfl (cs8 hc hr) ⟨(Nat.le_of_ble_eq_true rfl), rfl, (Nat.le_of_ble_eq_true rfl), (Nat.le_of_ble_eq_true rfl)⟩ rfl (Nat.le_of_ble_eq_true rfl) (c_h_dig (hisS hc hr hn h12) (lnN s r) (by omega)) ?_
  rintro _ _ ⟨rfl, rfl⟩
  refine ⟨_, rfl, ?_⟩
  rw [Nat.min_self, hdg]
  exact w_ireturn rfl (Or.inl rfl) ⟨congrArg (fun z => Sum.inl (some (Value.int z))) (rfl), rfl⟩
set_option maxRecDepth 100000 in
set_option maxHeartbeats 1000000 in
theorem c_rpk0 {sc : pm_Sc} {s : MS} {c : CX} {t r : Nat} (h : R s c) (hi : Inv s t) (hr : r < 4) : pu sc 63 [.ref 0, .int (nI r), .int 0] (hx c) (pz (some (.int (v_rep s r 0))) (hx c)) := by
  obtain ⟨cs, a, Y, kn⟩ := c
  have hc : 73 < cs.length := h.1
  show pu sc 63 [.ref 0, .int (nI r), .int 0] (cset cs a Y, kn) _
  refine w_iload_n rfl rfl ?_
  refine w_ifCond_lt rfl rfl (fun c1 => ?_) (fun c1 => ?_)
  · exact absurd c1 (by decide)
  · refine w_iload_n rfl rfl ?_
    refine w_bipush (v := 6) rfl (by decide) ?_
    refine w_if_icmp_gt rfl rfl (fun c7 => ?_) (fun c7 => ?_)
    · exact absurd c7 (by decide)
    · refine w_iconst (v := 1) rfl (by decide) ?_
      refine w_goto rfl rfl ?_
      refine w_istore_n rfl (Nat.le_of_ble_eq_true rfl) ?_
      refine w_iload_n rfl rfl ?_
      refine w_bipush (v := 10) rfl (by decide) ?_
      refine w_if_icmp_lt rfl rfl (fun c19 => ?_) (fun c19 => ?_)
      · refine w_iconst (v := 0) rfl (by decide) ?_
        refine w_istore rfl (Nat.le_of_ble_eq_true rfl) ?_
        refine w_iload_n rfl rfl ?_
        refine w_bipush (v := 30) rfl (by decide) ?_
        refine w_if_icmp_lt rfl rfl (fun c38 => ?_) (fun c38 => ?_)
        · refine w_iconst (v := 0) rfl (by decide) ?_
          refine w_istore rfl (Nat.le_of_ble_eq_true rfl) ?_
          refine w_iload_n rfl rfl ?_
          refine w_static rfl (by decide) rfl ⟨(Nat.le_of_ble_eq_true rfl), (Nat.le_of_ble_eq_true rfl), (Nat.le_of_ble_eq_true rfl)⟩ rfl (Nat.le_of_ble_eq_true rfl) (c_isRep (nI r)) ?_
          rintro _ _ ⟨rfl, rfl⟩
          refine ⟨_, rfl, ?_⟩
          rw [isR4 hr]
          refine w_ifCond_eq rfl rfl (fun c58 => ?_) (fun c58 => ?_)
          · exact absurd c58 (by decide)
          · refine w_iload_n rfl rfl ?_
            refine w_ifCond_ne rfl rfl (fun c62 => ?_) (fun c62 => ?_)
            · refine w_aload_n rfl rfl ?_
              refine w_getfield rfl (cs0 hc) rfl ?_
              refine w_iload_n rfl rfl ?_
              refine w_ca6 (j := r) rfl hc rfl hr ?_
              refine w_astore rfl (Nat.le_of_ble_eq_true rfl) ?_
              refine w_iload rfl rfl ?_
              refine w_ifCond_eq rfl rfl (fun c95 => ?_) (fun c95 => ?_)
              · refine w_iload rfl rfl ?_
                refine w_ifCond_eq rfl rfl (fun c111 => ?_) (fun c111 => ?_)
                · refine w_aload rfl rfl ?_
                  refine w_iload_n rfl rfl ?_
                  refine w_virtual rfl rfl (cs7 hc hr) ⟨(Nat.le_of_ble_eq_true rfl), rfl, (Nat.le_of_ble_eq_true rfl), (Nat.le_of_ble_eq_true rfl)⟩ rfl (Nat.le_of_ble_eq_true rfl) (tr_0 hc h hi hr) ?_
                  rintro _ _ ⟨rfl, rfl⟩
                  refine ⟨_, rfl, ?_⟩
                  exact w_ireturn rfl (Or.inl rfl) ⟨rfl, rfl⟩
                · exact absurd (by decide) c111
              · exact absurd (by decide) c95
            · exact absurd c62 (by decide)
        · exact absurd (by decide) c38
      · exact absurd (by decide) c19
set_option maxRecDepth 100000 in
set_option maxHeartbeats 1000000 in
theorem c_rpk1 {sc : pm_Sc} {s : MS} {c : CX} {t r : Nat} (h : R s c) (hi : Inv s t) (hr : r < 4) : pu sc 63 [.ref 0, .int (nI r), .int 1] (hx c) (pz (some (.int (v_rep s r 1))) (hx c)) := by
  obtain ⟨cs, a, Y, kn⟩ := c
  have hc : 73 < cs.length := h.1
  show pu sc 63 [.ref 0, .int (nI r), .int 1] (cset cs a Y, kn) _
  refine w_iload_n rfl rfl ?_
  refine w_ifCond_lt rfl rfl (fun c1 => ?_) (fun c1 => ?_)
  · exact absurd c1 (by decide)
  · refine w_iload_n rfl rfl ?_
    refine w_bipush (v := 6) rfl (by decide) ?_
    refine w_if_icmp_gt rfl rfl (fun c7 => ?_) (fun c7 => ?_)
    · exact absurd c7 (by decide)
    · refine w_iconst (v := 1) rfl (by decide) ?_
      refine w_goto rfl rfl ?_
      refine w_istore_n rfl (Nat.le_of_ble_eq_true rfl) ?_
      refine w_iload_n rfl rfl ?_
      refine w_bipush (v := 10) rfl (by decide) ?_
      refine w_if_icmp_lt rfl rfl (fun c19 => ?_) (fun c19 => ?_)
      · refine w_iconst (v := 0) rfl (by decide) ?_
        refine w_istore rfl (Nat.le_of_ble_eq_true rfl) ?_
        refine w_iload_n rfl rfl ?_
        refine w_bipush (v := 30) rfl (by decide) ?_
        refine w_if_icmp_lt rfl rfl (fun c38 => ?_) (fun c38 => ?_)
        · refine w_iconst (v := 0) rfl (by decide) ?_
          refine w_istore rfl (Nat.le_of_ble_eq_true rfl) ?_
          refine w_iload_n rfl rfl ?_
          refine w_static rfl (by decide) rfl ⟨(Nat.le_of_ble_eq_true rfl), (Nat.le_of_ble_eq_true rfl), (Nat.le_of_ble_eq_true rfl)⟩ rfl (Nat.le_of_ble_eq_true rfl) (c_isRep (nI r)) ?_
          rintro _ _ ⟨rfl, rfl⟩
          refine ⟨_, rfl, ?_⟩
          rw [isR4 hr]
          refine w_ifCond_eq rfl rfl (fun c58 => ?_) (fun c58 => ?_)
          · exact absurd c58 (by decide)
          · refine w_iload_n rfl rfl ?_
            refine w_ifCond_ne rfl rfl (fun c62 => ?_) (fun c62 => ?_)
            · refine w_aload_n rfl rfl ?_
              refine w_getfield rfl (cs0 hc) rfl ?_
              refine w_iload_n rfl rfl ?_
              refine w_ca6 (j := r) rfl hc rfl hr ?_
              refine w_astore rfl (Nat.le_of_ble_eq_true rfl) ?_
              refine w_iload rfl rfl ?_
              refine w_ifCond_eq rfl rfl (fun c95 => ?_) (fun c95 => ?_)
              · refine w_iload rfl rfl ?_
                refine w_ifCond_eq rfl rfl (fun c111 => ?_) (fun c111 => ?_)
                · refine w_aload rfl rfl ?_
                  refine w_iload_n rfl rfl ?_
                  refine w_virtual rfl rfl (cs7 hc hr) ⟨(Nat.le_of_ble_eq_true rfl), rfl, (Nat.le_of_ble_eq_true rfl), (Nat.le_of_ble_eq_true rfl)⟩ rfl (Nat.le_of_ble_eq_true rfl) (tr_1 hc h hi hr) ?_
                  rintro _ _ ⟨rfl, rfl⟩
                  refine ⟨_, rfl, ?_⟩
                  exact w_ireturn rfl (Or.inl rfl) ⟨rfl, rfl⟩
                · exact absurd (by decide) c111
              · exact absurd (by decide) c95
            · exact absurd c62 (by decide)
        · exact absurd (by decide) c38
      · exact absurd (by decide) c19
set_option maxRecDepth 100000 in
set_option maxHeartbeats 1000000 in
theorem c_rpk2 {sc : pm_Sc} {s : MS} {c : CX} {t r : Nat} (h : R s c) (hi : Inv s t) (hr : r < 4) : pu sc 63 [.ref 0, .int (nI r), .int 2] (hx c) (pz (some (.int (v_rep s r 2))) (hx c)) := by
  obtain ⟨cs, a, Y, kn⟩ := c
  have hc : 73 < cs.length := h.1
  show pu sc 63 [.ref 0, .int (nI r), .int 2] (cset cs a Y, kn) _
  refine w_iload_n rfl rfl ?_
  refine w_ifCond_lt rfl rfl (fun c1 => ?_) (fun c1 => ?_)
  · exact absurd c1 (by decide)
  · refine w_iload_n rfl rfl ?_
    refine w_bipush (v := 6) rfl (by decide) ?_
    refine w_if_icmp_gt rfl rfl (fun c7 => ?_) (fun c7 => ?_)
    · exact absurd c7 (by decide)
    · refine w_iconst (v := 1) rfl (by decide) ?_
      refine w_goto rfl rfl ?_
      refine w_istore_n rfl (Nat.le_of_ble_eq_true rfl) ?_
      refine w_iload_n rfl rfl ?_
      refine w_bipush (v := 10) rfl (by decide) ?_
      refine w_if_icmp_lt rfl rfl (fun c19 => ?_) (fun c19 => ?_)
      · refine w_iconst (v := 0) rfl (by decide) ?_
        refine w_istore rfl (Nat.le_of_ble_eq_true rfl) ?_
        refine w_iload_n rfl rfl ?_
        refine w_bipush (v := 30) rfl (by decide) ?_
        refine w_if_icmp_lt rfl rfl (fun c38 => ?_) (fun c38 => ?_)
        · refine w_iconst (v := 0) rfl (by decide) ?_
          refine w_istore rfl (Nat.le_of_ble_eq_true rfl) ?_
          refine w_iload_n rfl rfl ?_
          refine w_static rfl (by decide) rfl ⟨(Nat.le_of_ble_eq_true rfl), (Nat.le_of_ble_eq_true rfl), (Nat.le_of_ble_eq_true rfl)⟩ rfl (Nat.le_of_ble_eq_true rfl) (c_isRep (nI r)) ?_
          rintro _ _ ⟨rfl, rfl⟩
          refine ⟨_, rfl, ?_⟩
          rw [isR4 hr]
          refine w_ifCond_eq rfl rfl (fun c58 => ?_) (fun c58 => ?_)
          · exact absurd c58 (by decide)
          · refine w_iload_n rfl rfl ?_
            refine w_ifCond_ne rfl rfl (fun c62 => ?_) (fun c62 => ?_)
            · refine w_aload_n rfl rfl ?_
              refine w_getfield rfl (cs0 hc) rfl ?_
              refine w_iload_n rfl rfl ?_
              refine w_ca6 (j := r) rfl hc rfl hr ?_
              refine w_astore rfl (Nat.le_of_ble_eq_true rfl) ?_
              refine w_iload rfl rfl ?_
              refine w_ifCond_eq rfl rfl (fun c95 => ?_) (fun c95 => ?_)
              · refine w_iload rfl rfl ?_
                refine w_ifCond_eq rfl rfl (fun c111 => ?_) (fun c111 => ?_)
                · refine w_aload rfl rfl ?_
                  refine w_iload_n rfl rfl ?_
                  refine w_virtual rfl rfl (cs7 hc hr) ⟨(Nat.le_of_ble_eq_true rfl), rfl, (Nat.le_of_ble_eq_true rfl), (Nat.le_of_ble_eq_true rfl)⟩ rfl (Nat.le_of_ble_eq_true rfl) (tr_2 hc h hi hr) ?_
                  rintro _ _ ⟨rfl, rfl⟩
                  refine ⟨_, rfl, ?_⟩
                  exact w_ireturn rfl (Or.inl rfl) ⟨rfl, rfl⟩
                · exact absurd (by decide) c111
              · exact absurd (by decide) c95
            · exact absurd c62 (by decide)
        · exact absurd (by decide) c38
      · exact absurd (by decide) c19
set_option maxRecDepth 100000 in
set_option maxHeartbeats 1000000 in
theorem c_rpk3 {sc : pm_Sc} {s : MS} {c : CX} {t r : Nat} (h : R s c) (hi : Inv s t) (hr : r < 4) : pu sc 63 [.ref 0, .int (nI r), .int 3] (hx c) (pz (some (.int (v_rep s r 3))) (hx c)) := by
  obtain ⟨cs, a, Y, kn⟩ := c
  have hc : 73 < cs.length := h.1
  show pu sc 63 [.ref 0, .int (nI r), .int 3] (cset cs a Y, kn) _
  refine w_iload_n rfl rfl ?_
  refine w_ifCond_lt rfl rfl (fun c1 => ?_) (fun c1 => ?_)
  · exact absurd c1 (by decide)
  · refine w_iload_n rfl rfl ?_
    refine w_bipush (v := 6) rfl (by decide) ?_
    refine w_if_icmp_gt rfl rfl (fun c7 => ?_) (fun c7 => ?_)
    · exact absurd c7 (by decide)
    · refine w_iconst (v := 1) rfl (by decide) ?_
      refine w_goto rfl rfl ?_
      refine w_istore_n rfl (Nat.le_of_ble_eq_true rfl) ?_
      refine w_iload_n rfl rfl ?_
      refine w_bipush (v := 10) rfl (by decide) ?_
      refine w_if_icmp_lt rfl rfl (fun c19 => ?_) (fun c19 => ?_)
      · refine w_iconst (v := 0) rfl (by decide) ?_
        refine w_istore rfl (Nat.le_of_ble_eq_true rfl) ?_
        refine w_iload_n rfl rfl ?_
        refine w_bipush (v := 30) rfl (by decide) ?_
        refine w_if_icmp_lt rfl rfl (fun c38 => ?_) (fun c38 => ?_)
        · refine w_iconst (v := 0) rfl (by decide) ?_
          refine w_istore rfl (Nat.le_of_ble_eq_true rfl) ?_
          refine w_iload_n rfl rfl ?_
          refine w_static rfl (by decide) rfl ⟨(Nat.le_of_ble_eq_true rfl), (Nat.le_of_ble_eq_true rfl), (Nat.le_of_ble_eq_true rfl)⟩ rfl (Nat.le_of_ble_eq_true rfl) (c_isRep (nI r)) ?_
          rintro _ _ ⟨rfl, rfl⟩
          refine ⟨_, rfl, ?_⟩
          rw [isR4 hr]
          refine w_ifCond_eq rfl rfl (fun c58 => ?_) (fun c58 => ?_)
          · exact absurd c58 (by decide)
          · refine w_iload_n rfl rfl ?_
            refine w_ifCond_ne rfl rfl (fun c62 => ?_) (fun c62 => ?_)
            · refine w_aload_n rfl rfl ?_
              refine w_getfield rfl (cs0 hc) rfl ?_
              refine w_iload_n rfl rfl ?_
              refine w_ca6 (j := r) rfl hc rfl hr ?_
              refine w_astore rfl (Nat.le_of_ble_eq_true rfl) ?_
              refine w_iload rfl rfl ?_
              refine w_ifCond_eq rfl rfl (fun c95 => ?_) (fun c95 => ?_)
              · refine w_iload rfl rfl ?_
                refine w_ifCond_eq rfl rfl (fun c111 => ?_) (fun c111 => ?_)
                · refine w_aload rfl rfl ?_
                  refine w_iload_n rfl rfl ?_
                  refine w_virtual rfl rfl (cs7 hc hr) ⟨(Nat.le_of_ble_eq_true rfl), rfl, (Nat.le_of_ble_eq_true rfl), (Nat.le_of_ble_eq_true rfl)⟩ rfl (Nat.le_of_ble_eq_true rfl) (tr_3 hc h hi hr) ?_
                  rintro _ _ ⟨rfl, rfl⟩
                  refine ⟨_, rfl, ?_⟩
                  exact w_ireturn rfl (Or.inl rfl) ⟨rfl, rfl⟩
                · exact absurd (by decide) c111
              · exact absurd (by decide) c95
            · exact absurd c62 (by decide)
        · exact absurd (by decide) c38
      · exact absurd (by decide) c19
set_option maxRecDepth 100000 in
set_option maxHeartbeats 1000000 in
theorem c_rpk4 {sc : pm_Sc} {s : MS} {c : CX} {t r : Nat} (h : R s c) (hi : Inv s t) (hr : r < 4) : pu sc 63 [.ref 0, .int (nI r), .int 4] (hx c) (pz (some (.int (v_rep s r 4))) (hx c)) := by
  obtain ⟨cs, a, Y, kn⟩ := c
  have hc : 73 < cs.length := h.1
  show pu sc 63 [.ref 0, .int (nI r), .int 4] (cset cs a Y, kn) _
  refine w_iload_n rfl rfl ?_
  refine w_ifCond_lt rfl rfl (fun c1 => ?_) (fun c1 => ?_)
  · exact absurd c1 (by decide)
  · refine w_iload_n rfl rfl ?_
    refine w_bipush (v := 6) rfl (by decide) ?_
    refine w_if_icmp_gt rfl rfl (fun c7 => ?_) (fun c7 => ?_)
    · exact absurd c7 (by decide)
    · refine w_iconst (v := 1) rfl (by decide) ?_
      refine w_goto rfl rfl ?_
      refine w_istore_n rfl (Nat.le_of_ble_eq_true rfl) ?_
      refine w_iload_n rfl rfl ?_
      refine w_bipush (v := 10) rfl (by decide) ?_
      refine w_if_icmp_lt rfl rfl (fun c19 => ?_) (fun c19 => ?_)
      · refine w_iconst (v := 0) rfl (by decide) ?_
        refine w_istore rfl (Nat.le_of_ble_eq_true rfl) ?_
        refine w_iload_n rfl rfl ?_
        refine w_bipush (v := 30) rfl (by decide) ?_
        refine w_if_icmp_lt rfl rfl (fun c38 => ?_) (fun c38 => ?_)
        · refine w_iconst (v := 0) rfl (by decide) ?_
          refine w_istore rfl (Nat.le_of_ble_eq_true rfl) ?_
          refine w_iload_n rfl rfl ?_
          refine w_static rfl (by decide) rfl ⟨(Nat.le_of_ble_eq_true rfl), (Nat.le_of_ble_eq_true rfl), (Nat.le_of_ble_eq_true rfl)⟩ rfl (Nat.le_of_ble_eq_true rfl) (c_isRep (nI r)) ?_
          rintro _ _ ⟨rfl, rfl⟩
          refine ⟨_, rfl, ?_⟩
          rw [isR4 hr]
          refine w_ifCond_eq rfl rfl (fun c58 => ?_) (fun c58 => ?_)
          · exact absurd c58 (by decide)
          · refine w_iload_n rfl rfl ?_
            refine w_ifCond_ne rfl rfl (fun c62 => ?_) (fun c62 => ?_)
            · refine w_aload_n rfl rfl ?_
              refine w_getfield rfl (cs0 hc) rfl ?_
              refine w_iload_n rfl rfl ?_
              refine w_ca6 (j := r) rfl hc rfl hr ?_
              refine w_astore rfl (Nat.le_of_ble_eq_true rfl) ?_
              refine w_iload rfl rfl ?_
              refine w_ifCond_eq rfl rfl (fun c95 => ?_) (fun c95 => ?_)
              · refine w_iload rfl rfl ?_
                refine w_ifCond_eq rfl rfl (fun c111 => ?_) (fun c111 => ?_)
                · refine w_aload rfl rfl ?_
                  refine w_iload_n rfl rfl ?_
                  refine w_virtual rfl rfl (cs7 hc hr) ⟨(Nat.le_of_ble_eq_true rfl), rfl, (Nat.le_of_ble_eq_true rfl), (Nat.le_of_ble_eq_true rfl)⟩ rfl (Nat.le_of_ble_eq_true rfl) (tr_4 hc h hi hr) ?_
                  rintro _ _ ⟨rfl, rfl⟩
                  refine ⟨_, rfl, ?_⟩
                  exact w_ireturn rfl (Or.inl rfl) ⟨rfl, rfl⟩
                · exact absurd (by decide) c111
              · exact absurd (by decide) c95
            · exact absurd c62 (by decide)
        · exact absurd (by decide) c38
      · exact absurd (by decide) c19
set_option maxRecDepth 100000 in
set_option maxHeartbeats 1000000 in
theorem c_rpk5 {sc : pm_Sc} {s : MS} {c : CX} {t r : Nat} (h : R s c) (hi : Inv s t) (hr : r < 4) : pu sc 63 [.ref 0, .int (nI r), .int 5] (hx c) (pz (some (.int (v_rep s r 5))) (hx c)) := by
  obtain ⟨cs, a, Y, kn⟩ := c
  have hc : 73 < cs.length := h.1
  show pu sc 63 [.ref 0, .int (nI r), .int 5] (cset cs a Y, kn) _
  refine w_iload_n rfl rfl ?_
  refine w_ifCond_lt rfl rfl (fun c1 => ?_) (fun c1 => ?_)
  · exact absurd c1 (by decide)
  · refine w_iload_n rfl rfl ?_
    refine w_bipush (v := 6) rfl (by decide) ?_
    refine w_if_icmp_gt rfl rfl (fun c7 => ?_) (fun c7 => ?_)
    · exact absurd c7 (by decide)
    · refine w_iconst (v := 1) rfl (by decide) ?_
      refine w_goto rfl rfl ?_
      refine w_istore_n rfl (Nat.le_of_ble_eq_true rfl) ?_
      refine w_iload_n rfl rfl ?_
      refine w_bipush (v := 10) rfl (by decide) ?_
      refine w_if_icmp_lt rfl rfl (fun c19 => ?_) (fun c19 => ?_)
      · refine w_iconst (v := 0) rfl (by decide) ?_
        refine w_istore rfl (Nat.le_of_ble_eq_true rfl) ?_
        refine w_iload_n rfl rfl ?_
        refine w_bipush (v := 30) rfl (by decide) ?_
        refine w_if_icmp_lt rfl rfl (fun c38 => ?_) (fun c38 => ?_)
        · refine w_iconst (v := 0) rfl (by decide) ?_
          refine w_istore rfl (Nat.le_of_ble_eq_true rfl) ?_
          refine w_iload_n rfl rfl ?_
          refine w_static rfl (by decide) rfl ⟨(Nat.le_of_ble_eq_true rfl), (Nat.le_of_ble_eq_true rfl), (Nat.le_of_ble_eq_true rfl)⟩ rfl (Nat.le_of_ble_eq_true rfl) (c_isRep (nI r)) ?_
          rintro _ _ ⟨rfl, rfl⟩
          refine ⟨_, rfl, ?_⟩
          rw [isR4 hr]
          refine w_ifCond_eq rfl rfl (fun c58 => ?_) (fun c58 => ?_)
          · exact absurd c58 (by decide)
          · refine w_iload_n rfl rfl ?_
            refine w_ifCond_ne rfl rfl (fun c62 => ?_) (fun c62 => ?_)
            · refine w_aload_n rfl rfl ?_
              refine w_getfield rfl (cs0 hc) rfl ?_
              refine w_iload_n rfl rfl ?_
              refine w_ca6 (j := r) rfl hc rfl hr ?_
              refine w_astore rfl (Nat.le_of_ble_eq_true rfl) ?_
              refine w_iload rfl rfl ?_
              refine w_ifCond_eq rfl rfl (fun c95 => ?_) (fun c95 => ?_)
              · refine w_iload rfl rfl ?_
                refine w_ifCond_eq rfl rfl (fun c111 => ?_) (fun c111 => ?_)
                · refine w_aload rfl rfl ?_
                  refine w_iload_n rfl rfl ?_
                  refine w_virtual rfl rfl (cs7 hc hr) ⟨(Nat.le_of_ble_eq_true rfl), rfl, (Nat.le_of_ble_eq_true rfl), (Nat.le_of_ble_eq_true rfl)⟩ rfl (Nat.le_of_ble_eq_true rfl) (tr_5 hc h hi hr) ?_
                  rintro _ _ ⟨rfl, rfl⟩
                  refine ⟨_, rfl, ?_⟩
                  exact w_ireturn rfl (Or.inl rfl) ⟨rfl, rfl⟩
                · exact absurd (by decide) c111
              · exact absurd (by decide) c95
            · exact absurd c62 (by decide)
        · exact absurd (by decide) c38
      · exact absurd (by decide) c19
set_option maxRecDepth 100000 in
set_option maxHeartbeats 1000000 in
theorem c_rpk6 {sc : pm_Sc} {s : MS} {c : CX} {t r : Nat} (h : R s c) (hi : Inv s t) (hr : r < 4) : pu sc 63 [.ref 0, .int (nI r), .int 6] (hx c) (pz (some (.int (v_rep s r 6))) (hx c)) := by
  obtain ⟨cs, a, Y, kn⟩ := c
  have hc : 73 < cs.length := h.1
  show pu sc 63 [.ref 0, .int (nI r), .int 6] (cset cs a Y, kn) _
  refine w_iload_n rfl rfl ?_
  refine w_ifCond_lt rfl rfl (fun c1 => ?_) (fun c1 => ?_)
  · exact absurd c1 (by decide)
  · refine w_iload_n rfl rfl ?_
    refine w_bipush (v := 6) rfl (by decide) ?_
    refine w_if_icmp_gt rfl rfl (fun c7 => ?_) (fun c7 => ?_)
    · exact absurd c7 (by decide)
    · refine w_iconst (v := 1) rfl (by decide) ?_
      refine w_goto rfl rfl ?_
      refine w_istore_n rfl (Nat.le_of_ble_eq_true rfl) ?_
      refine w_iload_n rfl rfl ?_
      refine w_bipush (v := 10) rfl (by decide) ?_
      refine w_if_icmp_lt rfl rfl (fun c19 => ?_) (fun c19 => ?_)
      · refine w_iconst (v := 0) rfl (by decide) ?_
        refine w_istore rfl (Nat.le_of_ble_eq_true rfl) ?_
        refine w_iload_n rfl rfl ?_
        refine w_bipush (v := 30) rfl (by decide) ?_
        refine w_if_icmp_lt rfl rfl (fun c38 => ?_) (fun c38 => ?_)
        · refine w_iconst (v := 0) rfl (by decide) ?_
          refine w_istore rfl (Nat.le_of_ble_eq_true rfl) ?_
          refine w_iload_n rfl rfl ?_
          refine w_static rfl (by decide) rfl ⟨(Nat.le_of_ble_eq_true rfl), (Nat.le_of_ble_eq_true rfl), (Nat.le_of_ble_eq_true rfl)⟩ rfl (Nat.le_of_ble_eq_true rfl) (c_isRep (nI r)) ?_
          rintro _ _ ⟨rfl, rfl⟩
          refine ⟨_, rfl, ?_⟩
          rw [isR4 hr]
          refine w_ifCond_eq rfl rfl (fun c58 => ?_) (fun c58 => ?_)
          · exact absurd c58 (by decide)
          · refine w_iload_n rfl rfl ?_
            refine w_ifCond_ne rfl rfl (fun c62 => ?_) (fun c62 => ?_)
            · refine w_aload_n rfl rfl ?_
              refine w_getfield rfl (cs0 hc) rfl ?_
              refine w_iload_n rfl rfl ?_
              refine w_ca6 (j := r) rfl hc rfl hr ?_
              refine w_astore rfl (Nat.le_of_ble_eq_true rfl) ?_
              refine w_iload rfl rfl ?_
              refine w_ifCond_eq rfl rfl (fun c95 => ?_) (fun c95 => ?_)
              · refine w_iload rfl rfl ?_
                refine w_ifCond_eq rfl rfl (fun c111 => ?_) (fun c111 => ?_)
                · refine w_aload rfl rfl ?_
                  refine w_iload_n rfl rfl ?_
                  refine w_virtual rfl rfl (cs7 hc hr) ⟨(Nat.le_of_ble_eq_true rfl), rfl, (Nat.le_of_ble_eq_true rfl), (Nat.le_of_ble_eq_true rfl)⟩ rfl (Nat.le_of_ble_eq_true rfl) (tr_6 hc h hi hr) ?_
                  rintro _ _ ⟨rfl, rfl⟩
                  refine ⟨_, rfl, ?_⟩
                  exact w_ireturn rfl (Or.inl rfl) ⟨rfl, rfl⟩
                · exact absurd (by decide) c111
              · exact absurd (by decide) c95
            · exact absurd c62 (by decide)
        · exact absurd (by decide) c38
      · exact absurd (by decide) c19
set_option maxRecDepth 100000 in
set_option maxHeartbeats 1000000 in
theorem c_rpP {sc : pm_Sc} {s : MS} {c : CX} {t r : Nat} (h : R s c) (hi : Inv s t) (hr : r < 4) (k : Nat) (hk : k < 12) : pu sc 63 [.ref 0, .int (nI r), .int (nI (10 + k))] (hx c) (pz (some (.int (if k < lnN s r then m_at (s.2 8 r) (nI k) else -1))) (hx c)) := by
  obtain ⟨cs, a, Y, kn⟩ := c
  have hc : 73 < cs.length := h.1
  have hn : a.1 7 r = nI (lnN s r) := h.hn hi hr
  have h12 : lnN s r ≤ 12 := (hi.r hr).2.1
  have ev : (if k < lnN s r then a.1 50 (12 * r + k) else -1) = (if k < lnN s r then m_at (s.2 8 r) (nI k) else -1) := by
    by_cases e : k < lnN s r
    · rw [if_pos e, if_pos e]; exact (h.2.2.1 r hr).1 k e
    · rw [if_neg e, if_neg e]
  rw [← ev]
  show pu sc 63 [.ref 0, .int (nI r), .int (nI (10 + k))] (cset cs a Y, kn) _
  refine w_iload_n rfl rfl ?_
  refine w_ifCond_lt rfl rfl (fun c1 => ?_) (fun c1 => ?_)
  · exact absurd c1 (nI_pos (by omega))
  · refine w_iload_n rfl rfl ?_
    refine w_bipush (v := 6) rfl (by decide) ?_
    refine w_if_icmp_gt rfl rfl (fun c7 => ?_) (fun c7 => ?_)
    · refine w_iconst (v := 0) rfl (by decide) ?_
      refine w_istore_n rfl (Nat.le_of_ble_eq_true rfl) ?_
      refine w_iload_n rfl rfl ?_
      refine w_bipush (v := 10) rfl (by decide) ?_
      refine w_if_icmp_lt rfl rfl (fun c19 => ?_) (fun c19 => ?_)
      · exact absurd ((nI_ltI (a := 10 + k) (b := 10) (by omega) (by omega)).mp c19) (by omega)
      · refine w_iload_n rfl rfl ?_
        refine w_bipush (v := 22) rfl (by decide) ?_
        refine w_if_icmp_ge rfl rfl (fun c25 => ?_) (fun c25 => ?_)
        · exact absurd c25 (nI_ge (a := 10 + k) (b := 22) (by omega) (by omega))
        · refine w_iconst (v := 1) rfl (by decide) ?_
          refine w_goto rfl rfl ?_
          refine w_istore rfl (Nat.le_of_ble_eq_true rfl) ?_
          refine w_iload_n rfl rfl ?_
          refine w_bipush (v := 30) rfl (by decide) ?_
          refine w_if_icmp_lt rfl rfl (fun c38 => ?_) (fun c38 => ?_)
          · refine w_iconst (v := 0) rfl (by decide) ?_
            refine w_istore rfl (Nat.le_of_ble_eq_true rfl) ?_
            refine w_iload_n rfl rfl ?_
            refine w_static rfl (by decide) rfl ⟨(Nat.le_of_ble_eq_true rfl), (Nat.le_of_ble_eq_true rfl), (Nat.le_of_ble_eq_true rfl)⟩ rfl (Nat.le_of_ble_eq_true rfl) (c_isRep (nI r)) ?_
            rintro _ _ ⟨rfl, rfl⟩
            refine ⟨_, rfl, ?_⟩
            rw [isR4 hr]
            refine w_ifCond_eq rfl rfl (fun c58 => ?_) (fun c58 => ?_)
            · exact absurd c58 (by decide)
            · refine w_iload_n rfl rfl ?_
              refine w_ifCond_ne rfl rfl (fun c62 => ?_) (fun c62 => ?_)
              · exact absurd (by decide) c62
              · refine w_iload rfl rfl ?_
                refine w_ifCond_ne rfl rfl (fun c67 => ?_) (fun c67 => ?_)
                · refine w_aload_n rfl rfl ?_
                  refine w_getfield rfl (cs0 hc) rfl ?_
                  refine w_iload_n rfl rfl ?_
                  refine w_ca6 (j := r) rfl hc rfl hr ?_
                  refine w_astore rfl (Nat.le_of_ble_eq_true rfl) ?_
                  refine w_iload rfl rfl ?_
                  refine w_ifCond_eq rfl rfl (fun c95 => ?_) (fun c95 => ?_)
                  · refine w_iload rfl rfl ?_
                    refine w_ifCond_eq rfl rfl (fun c111 => ?_) (fun c111 => ?_)
                    · exact absurd c111 (by decide)
                    · refine w_aload rfl rfl ?_
                      refine w_getfield rfl (cs7 hc hr) rfl ?_
                      refine w_iload_n rfl rfl ?_
                      refine w_bipush (v := 10) rfl (by decide) ?_
                      refine w_isubN (x := (10 + k)) (y := 10) rfl rfl rfl (by omega) ?_
                      rw [show 10 + k - 10 = k from by omega]
                      refine w_virtual rfl rfl (cs8 hc hr) ⟨(Nat.le_of_ble_eq_true rfl), rfl, (Nat.le_of_ble_eq_true rfl), (Nat.le_of_ble_eq_true rfl)⟩ rfl (Nat.le_of_ble_eq_true rfl) (c_h_at (hisS hc hr hn h12) k (by omega)) ?_
                      rintro _ _ ⟨rfl, rfl⟩
                      refine ⟨_, rfl, ?_⟩
                      refine w_goto rfl rfl ?_
                      exact w_ireturn rfl (Or.inl rfl) ⟨rfl, rfl⟩
                  · exact absurd (by decide) c95
                · exact absurd c67 (by decide)
          · exact absurd (nI_lt (a := 10 + k) (b := 30) (by omega) (by omega)) c38
    · exact absurd (nI_lt (a := 6) (b := 10 + k) (by omega) (by omega)) c7
set_option maxRecDepth 100000 in
set_option maxHeartbeats 1000000 in
theorem c_rpN {sc : pm_Sc} {s : MS} {c : CX} {t r : Nat} (h : R s c) (hi : Inv s t) (hr : r < 4) (k : Nat) (hk : k < 4) : pu sc 63 [.ref 0, .int (nI r), .int (nI (30 + k))] (hx c) (pz (some (.int ((wkA s (s.2 8 r) (lnN s r)).1 k))) (hx c)) := by
  obtain ⟨cs, a, Y, kn⟩ := c
  have hc : 73 < cs.length := h.1
  have ev : a.1 51 (4 * r + k) = (wkA s (s.2 8 r) (lnN s r)).1 k := (h.2.2.1 r hr).2.1 k hk
  rw [← ev]
  show pu sc 63 [.ref 0, .int (nI r), .int (nI (30 + k))] (cset cs a Y, kn) _
  refine w_iload_n rfl rfl ?_
  refine w_ifCond_lt rfl rfl (fun c1 => ?_) (fun c1 => ?_)
  · exact absurd c1 (nI_pos (by omega))
  · refine w_iload_n rfl rfl ?_
    refine w_bipush (v := 6) rfl (by decide) ?_
    refine w_if_icmp_gt rfl rfl (fun c7 => ?_) (fun c7 => ?_)
    · refine w_iconst (v := 0) rfl (by decide) ?_
      refine w_istore_n rfl (Nat.le_of_ble_eq_true rfl) ?_
      refine w_iload_n rfl rfl ?_
      refine w_bipush (v := 10) rfl (by decide) ?_
      refine w_if_icmp_lt rfl rfl (fun c19 => ?_) (fun c19 => ?_)
      · exact absurd ((nI_ltI (a := 30 + k) (b := 10) (by omega) (by omega)).mp c19) (by omega)
      · refine w_iload_n rfl rfl ?_
        refine w_bipush (v := 22) rfl (by decide) ?_
        refine w_if_icmp_ge rfl rfl (fun c25 => ?_) (fun c25 => ?_)
        · refine w_iconst (v := 0) rfl (by decide) ?_
          refine w_istore rfl (Nat.le_of_ble_eq_true rfl) ?_
          refine w_iload_n rfl rfl ?_
          refine w_bipush (v := 30) rfl (by decide) ?_
          refine w_if_icmp_lt rfl rfl (fun c38 => ?_) (fun c38 => ?_)
          · exact absurd ((nI_ltI (a := 30 + k) (b := 30) (by omega) (by omega)).mp c38) (by omega)
          · refine w_iload_n rfl rfl ?_
            refine w_bipush (v := 34) rfl (by decide) ?_
            refine w_if_icmp_ge rfl rfl (fun c44 => ?_) (fun c44 => ?_)
            · exact absurd c44 (nI_ge (a := 30 + k) (b := 34) (by omega) (by omega))
            · refine w_iconst (v := 1) rfl (by decide) ?_
              refine w_goto rfl rfl ?_
              refine w_istore rfl (Nat.le_of_ble_eq_true rfl) ?_
              refine w_iload_n rfl rfl ?_
              refine w_static rfl (by decide) rfl ⟨(Nat.le_of_ble_eq_true rfl), (Nat.le_of_ble_eq_true rfl), (Nat.le_of_ble_eq_true rfl)⟩ rfl (Nat.le_of_ble_eq_true rfl) (c_isRep (nI r)) ?_
              rintro _ _ ⟨rfl, rfl⟩
              refine ⟨_, rfl, ?_⟩
              rw [isR4 hr]
              refine w_ifCond_eq rfl rfl (fun c58 => ?_) (fun c58 => ?_)
              · exact absurd c58 (by decide)
              · refine w_iload_n rfl rfl ?_
                refine w_ifCond_ne rfl rfl (fun c62 => ?_) (fun c62 => ?_)
                · exact absurd (by decide) c62
                · refine w_iload rfl rfl ?_
                  refine w_ifCond_ne rfl rfl (fun c67 => ?_) (fun c67 => ?_)
                  · exact absurd (by decide) c67
                  · refine w_iload rfl rfl ?_
                    refine w_ifCond_ne rfl rfl (fun c72 => ?_) (fun c72 => ?_)
                    · refine w_aload_n rfl rfl ?_
                      refine w_getfield rfl (cs0 hc) rfl ?_
                      refine w_iload_n rfl rfl ?_
                      refine w_ca6 (j := r) rfl hc rfl hr ?_
                      refine w_astore rfl (Nat.le_of_ble_eq_true rfl) ?_
                      refine w_iload rfl rfl ?_
                      refine w_ifCond_eq rfl rfl (fun c95 => ?_) (fun c95 => ?_)
                      · exact absurd c95 (by decide)
                      · refine w_aload rfl rfl ?_
                        refine w_getfield rfl (cs7 hc hr) rfl ?_
                        refine w_iload_n rfl rfl ?_
                        refine w_bipush (v := 30) rfl (by decide) ?_
                        refine w_isubN (x := 30 + k) (y := 30) rfl rfl rfl (by omega) ?_
                        rw [show 30 + k - 30 = k from by omega]
                        refine w_hil (j := k) rfl (cs10 hc hr) rfl ⟨show k < 4 from hk, by decide⟩ ?_
                        exact w_ireturn rfl (Or.inl rfl) ⟨rfl, rfl⟩
                    · exact absurd c72 (by decide)
        · exact absurd (nI_le (a := 22) (b := 30 + k) (by omega) (by omega)) c25
    · exact absurd (nI_lt (a := 6) (b := 30 + k) (by omega) (by omega)) c7
set_option maxRecDepth 100000 in
set_option maxHeartbeats 1000000 in
theorem c_rp1 {sc : pm_Sc} {cs : List pm_C} {a : MS} {Y : PT} {kn : Nat × Nat} (hc : 73 < cs.length) {r : Nat} (hr : r < 4) (w : Int32) (h0 : ¬ (¬ w < 0 ∧ ¬ 6 < w)) (h1 : ¬ (¬ w < 10 ∧ ¬ 22 ≤ w)) (h2 : ¬ (¬ w < 30 ∧ ¬ 34 ≤ w)) : pu sc 63 [.ref 0, .int (nI r), .int w] (cset cs a Y, kn) (px 1 (cset cs a Y, kn)) := by
  refine w_iload_n rfl rfl ?_
  refine w_ifCond_lt rfl rfl (fun c1 => ?_) (fun c1 => ?_)
  · refine w_iconst (v := 0) rfl (by decide) ?_
    refine w_istore_n rfl (Nat.le_of_ble_eq_true rfl) ?_
    refine w_iload_n rfl rfl ?_
    refine w_bipush (v := 10) rfl (by decide) ?_
    refine w_if_icmp_lt rfl rfl (fun c19 => ?_) (fun c19 => ?_)
    · refine w_iconst (v := 0) rfl (by decide) ?_
      refine w_istore rfl (Nat.le_of_ble_eq_true rfl) ?_
      refine w_iload_n rfl rfl ?_
      refine w_bipush (v := 30) rfl (by decide) ?_
      refine w_if_icmp_lt rfl rfl (fun c38 => ?_) (fun c38 => ?_)
      · refine w_iconst (v := 0) rfl (by decide) ?_
        refine w_istore rfl (Nat.le_of_ble_eq_true rfl) ?_
        refine w_iload_n rfl rfl ?_
        refine w_static rfl (by decide) rfl ⟨(Nat.le_of_ble_eq_true rfl), (Nat.le_of_ble_eq_true rfl), (Nat.le_of_ble_eq_true rfl)⟩ rfl (Nat.le_of_ble_eq_true rfl) (c_isRep (nI r)) ?_
        rintro _ _ ⟨rfl, rfl⟩
        refine ⟨_, rfl, ?_⟩
        rw [isR4 hr]
        refine w_ifCond_eq rfl rfl (fun c58 => ?_) (fun c58 => ?_)
        · exact absurd c58 (by decide)
        · refine w_iload_n rfl rfl ?_
          refine w_ifCond_ne rfl rfl (fun c62 => ?_) (fun c62 => ?_)
          · exact absurd (by decide) c62
          · refine w_iload rfl rfl ?_
            refine w_ifCond_ne rfl rfl (fun c67 => ?_) (fun c67 => ?_)
            · exact absurd (by decide) c67
            · refine w_iload rfl rfl ?_
              refine w_ifCond_ne rfl rfl (fun c72 => ?_) (fun c72 => ?_)
              · exact absurd (by decide) c72
              · exact w_throw rfl (by decide) (Nat.le_of_ble_eq_true rfl) ⟨rfl, rfl⟩
      · refine w_iload_n rfl rfl ?_
        refine w_bipush (v := 34) rfl (by decide) ?_
        refine w_if_icmp_ge rfl rfl (fun c44 => ?_) (fun c44 => ?_)
        · refine w_iconst (v := 0) rfl (by decide) ?_
          refine w_istore rfl (Nat.le_of_ble_eq_true rfl) ?_
          refine w_iload_n rfl rfl ?_
          refine w_static rfl (by decide) rfl ⟨(Nat.le_of_ble_eq_true rfl), (Nat.le_of_ble_eq_true rfl), (Nat.le_of_ble_eq_true rfl)⟩ rfl (Nat.le_of_ble_eq_true rfl) (c_isRep (nI r)) ?_
          rintro _ _ ⟨rfl, rfl⟩
          refine ⟨_, rfl, ?_⟩
          rw [isR4 hr]
          refine w_ifCond_eq rfl rfl (fun c58 => ?_) (fun c58 => ?_)
          · exact absurd c58 (by decide)
          · refine w_iload_n rfl rfl ?_
            refine w_ifCond_ne rfl rfl (fun c62 => ?_) (fun c62 => ?_)
            · exact absurd (by decide) c62
            · refine w_iload rfl rfl ?_
              refine w_ifCond_ne rfl rfl (fun c67 => ?_) (fun c67 => ?_)
              · exact absurd (by decide) c67
              · refine w_iload rfl rfl ?_
                refine w_ifCond_ne rfl rfl (fun c72 => ?_) (fun c72 => ?_)
                · exact absurd (by decide) c72
                · exact w_throw rfl (by decide) (Nat.le_of_ble_eq_true rfl) ⟨rfl, rfl⟩
        · exact absurd ⟨c38, c44⟩ h2
    · refine w_iload_n rfl rfl ?_
      refine w_bipush (v := 22) rfl (by decide) ?_
      refine w_if_icmp_ge rfl rfl (fun c25 => ?_) (fun c25 => ?_)
      · refine w_iconst (v := 0) rfl (by decide) ?_
        refine w_istore rfl (Nat.le_of_ble_eq_true rfl) ?_
        refine w_iload_n rfl rfl ?_
        refine w_bipush (v := 30) rfl (by decide) ?_
        refine w_if_icmp_lt rfl rfl (fun c38 => ?_) (fun c38 => ?_)
        · refine w_iconst (v := 0) rfl (by decide) ?_
          refine w_istore rfl (Nat.le_of_ble_eq_true rfl) ?_
          refine w_iload_n rfl rfl ?_
          refine w_static rfl (by decide) rfl ⟨(Nat.le_of_ble_eq_true rfl), (Nat.le_of_ble_eq_true rfl), (Nat.le_of_ble_eq_true rfl)⟩ rfl (Nat.le_of_ble_eq_true rfl) (c_isRep (nI r)) ?_
          rintro _ _ ⟨rfl, rfl⟩
          refine ⟨_, rfl, ?_⟩
          rw [isR4 hr]
          refine w_ifCond_eq rfl rfl (fun c58 => ?_) (fun c58 => ?_)
          · exact absurd c58 (by decide)
          · refine w_iload_n rfl rfl ?_
            refine w_ifCond_ne rfl rfl (fun c62 => ?_) (fun c62 => ?_)
            · exact absurd (by decide) c62
            · refine w_iload rfl rfl ?_
              refine w_ifCond_ne rfl rfl (fun c67 => ?_) (fun c67 => ?_)
              · exact absurd (by decide) c67
              · refine w_iload rfl rfl ?_
                refine w_ifCond_ne rfl rfl (fun c72 => ?_) (fun c72 => ?_)
                · exact absurd (by decide) c72
                · exact w_throw rfl (by decide) (Nat.le_of_ble_eq_true rfl) ⟨rfl, rfl⟩
        · refine w_iload_n rfl rfl ?_
          refine w_bipush (v := 34) rfl (by decide) ?_
          refine w_if_icmp_ge rfl rfl (fun c44 => ?_) (fun c44 => ?_)
          · refine w_iconst (v := 0) rfl (by decide) ?_
            refine w_istore rfl (Nat.le_of_ble_eq_true rfl) ?_
            refine w_iload_n rfl rfl ?_
            refine w_static rfl (by decide) rfl ⟨(Nat.le_of_ble_eq_true rfl), (Nat.le_of_ble_eq_true rfl), (Nat.le_of_ble_eq_true rfl)⟩ rfl (Nat.le_of_ble_eq_true rfl) (c_isRep (nI r)) ?_
            rintro _ _ ⟨rfl, rfl⟩
            refine ⟨_, rfl, ?_⟩
            rw [isR4 hr]
            refine w_ifCond_eq rfl rfl (fun c58 => ?_) (fun c58 => ?_)
            · exact absurd c58 (by decide)
            · refine w_iload_n rfl rfl ?_
              refine w_ifCond_ne rfl rfl (fun c62 => ?_) (fun c62 => ?_)
              · exact absurd (by decide) c62
              · refine w_iload rfl rfl ?_
                refine w_ifCond_ne rfl rfl (fun c67 => ?_) (fun c67 => ?_)
                · exact absurd (by decide) c67
                · refine w_iload rfl rfl ?_
                  refine w_ifCond_ne rfl rfl (fun c72 => ?_) (fun c72 => ?_)
                  · exact absurd (by decide) c72
                  · exact w_throw rfl (by decide) (Nat.le_of_ble_eq_true rfl) ⟨rfl, rfl⟩
          · exact absurd ⟨c38, c44⟩ h2
      · exact absurd ⟨c19, c25⟩ h1
  · refine w_iload_n rfl rfl ?_
    refine w_bipush (v := 6) rfl (by decide) ?_
    refine w_if_icmp_gt rfl rfl (fun c7 => ?_) (fun c7 => ?_)
    · refine w_iconst (v := 0) rfl (by decide) ?_
      refine w_istore_n rfl (Nat.le_of_ble_eq_true rfl) ?_
      refine w_iload_n rfl rfl ?_
      refine w_bipush (v := 10) rfl (by decide) ?_
      refine w_if_icmp_lt rfl rfl (fun c19 => ?_) (fun c19 => ?_)
      · refine w_iconst (v := 0) rfl (by decide) ?_
        refine w_istore rfl (Nat.le_of_ble_eq_true rfl) ?_
        refine w_iload_n rfl rfl ?_
        refine w_bipush (v := 30) rfl (by decide) ?_
        refine w_if_icmp_lt rfl rfl (fun c38 => ?_) (fun c38 => ?_)
        · refine w_iconst (v := 0) rfl (by decide) ?_
          refine w_istore rfl (Nat.le_of_ble_eq_true rfl) ?_
          refine w_iload_n rfl rfl ?_
          refine w_static rfl (by decide) rfl ⟨(Nat.le_of_ble_eq_true rfl), (Nat.le_of_ble_eq_true rfl), (Nat.le_of_ble_eq_true rfl)⟩ rfl (Nat.le_of_ble_eq_true rfl) (c_isRep (nI r)) ?_
          rintro _ _ ⟨rfl, rfl⟩
          refine ⟨_, rfl, ?_⟩
          rw [isR4 hr]
          refine w_ifCond_eq rfl rfl (fun c58 => ?_) (fun c58 => ?_)
          · exact absurd c58 (by decide)
          · refine w_iload_n rfl rfl ?_
            refine w_ifCond_ne rfl rfl (fun c62 => ?_) (fun c62 => ?_)
            · exact absurd (by decide) c62
            · refine w_iload rfl rfl ?_
              refine w_ifCond_ne rfl rfl (fun c67 => ?_) (fun c67 => ?_)
              · exact absurd (by decide) c67
              · refine w_iload rfl rfl ?_
                refine w_ifCond_ne rfl rfl (fun c72 => ?_) (fun c72 => ?_)
                · exact absurd (by decide) c72
                · exact w_throw rfl (by decide) (Nat.le_of_ble_eq_true rfl) ⟨rfl, rfl⟩
        · refine w_iload_n rfl rfl ?_
          refine w_bipush (v := 34) rfl (by decide) ?_
          refine w_if_icmp_ge rfl rfl (fun c44 => ?_) (fun c44 => ?_)
          · refine w_iconst (v := 0) rfl (by decide) ?_
            refine w_istore rfl (Nat.le_of_ble_eq_true rfl) ?_
            refine w_iload_n rfl rfl ?_
            refine w_static rfl (by decide) rfl ⟨(Nat.le_of_ble_eq_true rfl), (Nat.le_of_ble_eq_true rfl), (Nat.le_of_ble_eq_true rfl)⟩ rfl (Nat.le_of_ble_eq_true rfl) (c_isRep (nI r)) ?_
            rintro _ _ ⟨rfl, rfl⟩
            refine ⟨_, rfl, ?_⟩
            rw [isR4 hr]
            refine w_ifCond_eq rfl rfl (fun c58 => ?_) (fun c58 => ?_)
            · exact absurd c58 (by decide)
            · refine w_iload_n rfl rfl ?_
              refine w_ifCond_ne rfl rfl (fun c62 => ?_) (fun c62 => ?_)
              · exact absurd (by decide) c62
              · refine w_iload rfl rfl ?_
                refine w_ifCond_ne rfl rfl (fun c67 => ?_) (fun c67 => ?_)
                · exact absurd (by decide) c67
                · refine w_iload rfl rfl ?_
                  refine w_ifCond_ne rfl rfl (fun c72 => ?_) (fun c72 => ?_)
                  · exact absurd (by decide) c72
                  · exact w_throw rfl (by decide) (Nat.le_of_ble_eq_true rfl) ⟨rfl, rfl⟩
          · exact absurd ⟨c38, c44⟩ h2
      · refine w_iload_n rfl rfl ?_
        refine w_bipush (v := 22) rfl (by decide) ?_
        refine w_if_icmp_ge rfl rfl (fun c25 => ?_) (fun c25 => ?_)
        · refine w_iconst (v := 0) rfl (by decide) ?_
          refine w_istore rfl (Nat.le_of_ble_eq_true rfl) ?_
          refine w_iload_n rfl rfl ?_
          refine w_bipush (v := 30) rfl (by decide) ?_
          refine w_if_icmp_lt rfl rfl (fun c38 => ?_) (fun c38 => ?_)
          · refine w_iconst (v := 0) rfl (by decide) ?_
            refine w_istore rfl (Nat.le_of_ble_eq_true rfl) ?_
            refine w_iload_n rfl rfl ?_
            refine w_static rfl (by decide) rfl ⟨(Nat.le_of_ble_eq_true rfl), (Nat.le_of_ble_eq_true rfl), (Nat.le_of_ble_eq_true rfl)⟩ rfl (Nat.le_of_ble_eq_true rfl) (c_isRep (nI r)) ?_
            rintro _ _ ⟨rfl, rfl⟩
            refine ⟨_, rfl, ?_⟩
            rw [isR4 hr]
            refine w_ifCond_eq rfl rfl (fun c58 => ?_) (fun c58 => ?_)
            · exact absurd c58 (by decide)
            · refine w_iload_n rfl rfl ?_
              refine w_ifCond_ne rfl rfl (fun c62 => ?_) (fun c62 => ?_)
              · exact absurd (by decide) c62
              · refine w_iload rfl rfl ?_
                refine w_ifCond_ne rfl rfl (fun c67 => ?_) (fun c67 => ?_)
                · exact absurd (by decide) c67
                · refine w_iload rfl rfl ?_
                  refine w_ifCond_ne rfl rfl (fun c72 => ?_) (fun c72 => ?_)
                  · exact absurd (by decide) c72
                  · exact w_throw rfl (by decide) (Nat.le_of_ble_eq_true rfl) ⟨rfl, rfl⟩
          · refine w_iload_n rfl rfl ?_
            refine w_bipush (v := 34) rfl (by decide) ?_
            refine w_if_icmp_ge rfl rfl (fun c44 => ?_) (fun c44 => ?_)
            · refine w_iconst (v := 0) rfl (by decide) ?_
              refine w_istore rfl (Nat.le_of_ble_eq_true rfl) ?_
              refine w_iload_n rfl rfl ?_
              refine w_static rfl (by decide) rfl ⟨(Nat.le_of_ble_eq_true rfl), (Nat.le_of_ble_eq_true rfl), (Nat.le_of_ble_eq_true rfl)⟩ rfl (Nat.le_of_ble_eq_true rfl) (c_isRep (nI r)) ?_
              rintro _ _ ⟨rfl, rfl⟩
              refine ⟨_, rfl, ?_⟩
              rw [isR4 hr]
              refine w_ifCond_eq rfl rfl (fun c58 => ?_) (fun c58 => ?_)
              · exact absurd c58 (by decide)
              · refine w_iload_n rfl rfl ?_
                refine w_ifCond_ne rfl rfl (fun c62 => ?_) (fun c62 => ?_)
                · exact absurd (by decide) c62
                · refine w_iload rfl rfl ?_
                  refine w_ifCond_ne rfl rfl (fun c67 => ?_) (fun c67 => ?_)
                  · exact absurd (by decide) c67
                  · refine w_iload rfl rfl ?_
                    refine w_ifCond_ne rfl rfl (fun c72 => ?_) (fun c72 => ?_)
                    · exact absurd (by decide) c72
                    · exact w_throw rfl (by decide) (Nat.le_of_ble_eq_true rfl) ⟨rfl, rfl⟩
            · exact absurd ⟨c38, c44⟩ h2
        · exact absurd ⟨c19, c25⟩ h1
    · exact absurd ⟨c1, c7⟩ h0
set_option maxRecDepth 100000 in
set_option maxHeartbeats 1000000 in
theorem c_rp0 {sc : pm_Sc} {cs : List pm_C} {a : MS} {Y : PT} {kn : Nat × Nat} (hc : 73 < cs.length) (x w : Int32) (hx : ¬ (¬ x < 0 ∧ ¬ 4 ≤ x)) : pu sc 63 [.ref 0, .int x, .int w] (cset cs a Y, kn) (px 1 (cset cs a Y, kn)) := by
  refine w_iload_n rfl rfl ?_
  refine w_ifCond_lt rfl rfl (fun c1 => ?_) (fun c1 => ?_)
  · refine w_iconst (v := 0) rfl (by decide) ?_
    refine w_istore_n rfl (Nat.le_of_ble_eq_true rfl) ?_
    refine w_iload_n rfl rfl ?_
    refine w_bipush (v := 10) rfl (by decide) ?_
    refine w_if_icmp_lt rfl rfl (fun c19 => ?_) (fun c19 => ?_)
    · refine w_iconst (v := 0) rfl (by decide) ?_
      refine w_istore rfl (Nat.le_of_ble_eq_true rfl) ?_
      refine w_iload_n rfl rfl ?_
      refine w_bipush (v := 30) rfl (by decide) ?_
      refine w_if_icmp_lt rfl rfl (fun c38 => ?_) (fun c38 => ?_)
      · refine w_iconst (v := 0) rfl (by decide) ?_
        refine w_istore rfl (Nat.le_of_ble_eq_true rfl) ?_
        refine w_iload_n rfl rfl ?_
        refine w_static rfl (by decide) rfl ⟨(Nat.le_of_ble_eq_true rfl), (Nat.le_of_ble_eq_true rfl), (Nat.le_of_ble_eq_true rfl)⟩ rfl (Nat.le_of_ble_eq_true rfl) (c_isRep x) ?_
        rintro _ _ ⟨rfl, rfl⟩
        refine ⟨_, rfl, ?_⟩
        refine w_ifCond_eq rfl rfl (fun c58 => ?_) (fun c58 => ?_)
        · replace c58 := b01_f c58
          exact w_throw rfl (by decide) (Nat.le_of_ble_eq_true rfl) ⟨rfl, rfl⟩
        · replace c58 := b01_t c58
          exact absurd c58 hx
      · refine w_iload_n rfl rfl ?_
        refine w_bipush (v := 34) rfl (by decide) ?_
        refine w_if_icmp_ge rfl rfl (fun c44 => ?_) (fun c44 => ?_)
        · refine w_iconst (v := 0) rfl (by decide) ?_
          refine w_istore rfl (Nat.le_of_ble_eq_true rfl) ?_
          refine w_iload_n rfl rfl ?_
          refine w_static rfl (by decide) rfl ⟨(Nat.le_of_ble_eq_true rfl), (Nat.le_of_ble_eq_true rfl), (Nat.le_of_ble_eq_true rfl)⟩ rfl (Nat.le_of_ble_eq_true rfl) (c_isRep x) ?_
          rintro _ _ ⟨rfl, rfl⟩
          refine ⟨_, rfl, ?_⟩
          refine w_ifCond_eq rfl rfl (fun c58 => ?_) (fun c58 => ?_)
          · replace c58 := b01_f c58
            exact w_throw rfl (by decide) (Nat.le_of_ble_eq_true rfl) ⟨rfl, rfl⟩
          · replace c58 := b01_t c58
            exact absurd c58 hx
        · refine w_iconst (v := 1) rfl (by decide) ?_
          refine w_goto rfl rfl ?_
          refine w_istore rfl (Nat.le_of_ble_eq_true rfl) ?_
          refine w_iload_n rfl rfl ?_
          refine w_static rfl (by decide) rfl ⟨(Nat.le_of_ble_eq_true rfl), (Nat.le_of_ble_eq_true rfl), (Nat.le_of_ble_eq_true rfl)⟩ rfl (Nat.le_of_ble_eq_true rfl) (c_isRep x) ?_
          rintro _ _ ⟨rfl, rfl⟩
          refine ⟨_, rfl, ?_⟩
          refine w_ifCond_eq rfl rfl (fun c58 => ?_) (fun c58 => ?_)
          · replace c58 := b01_f c58
            exact w_throw rfl (by decide) (Nat.le_of_ble_eq_true rfl) ⟨rfl, rfl⟩
          · replace c58 := b01_t c58
            exact absurd c58 hx
    · refine w_iload_n rfl rfl ?_
      refine w_bipush (v := 22) rfl (by decide) ?_
      refine w_if_icmp_ge rfl rfl (fun c25 => ?_) (fun c25 => ?_)
      · refine w_iconst (v := 0) rfl (by decide) ?_
        refine w_istore rfl (Nat.le_of_ble_eq_true rfl) ?_
        refine w_iload_n rfl rfl ?_
        refine w_bipush (v := 30) rfl (by decide) ?_
        refine w_if_icmp_lt rfl rfl (fun c38 => ?_) (fun c38 => ?_)
        · refine w_iconst (v := 0) rfl (by decide) ?_
          refine w_istore rfl (Nat.le_of_ble_eq_true rfl) ?_
          refine w_iload_n rfl rfl ?_
          refine w_static rfl (by decide) rfl ⟨(Nat.le_of_ble_eq_true rfl), (Nat.le_of_ble_eq_true rfl), (Nat.le_of_ble_eq_true rfl)⟩ rfl (Nat.le_of_ble_eq_true rfl) (c_isRep x) ?_
          rintro _ _ ⟨rfl, rfl⟩
          refine ⟨_, rfl, ?_⟩
          refine w_ifCond_eq rfl rfl (fun c58 => ?_) (fun c58 => ?_)
          · replace c58 := b01_f c58
            exact w_throw rfl (by decide) (Nat.le_of_ble_eq_true rfl) ⟨rfl, rfl⟩
          · replace c58 := b01_t c58
            exact absurd c58 hx
        · refine w_iload_n rfl rfl ?_
          refine w_bipush (v := 34) rfl (by decide) ?_
          refine w_if_icmp_ge rfl rfl (fun c44 => ?_) (fun c44 => ?_)
          · refine w_iconst (v := 0) rfl (by decide) ?_
            refine w_istore rfl (Nat.le_of_ble_eq_true rfl) ?_
            refine w_iload_n rfl rfl ?_
            refine w_static rfl (by decide) rfl ⟨(Nat.le_of_ble_eq_true rfl), (Nat.le_of_ble_eq_true rfl), (Nat.le_of_ble_eq_true rfl)⟩ rfl (Nat.le_of_ble_eq_true rfl) (c_isRep x) ?_
            rintro _ _ ⟨rfl, rfl⟩
            refine ⟨_, rfl, ?_⟩
            refine w_ifCond_eq rfl rfl (fun c58 => ?_) (fun c58 => ?_)
            · replace c58 := b01_f c58
              exact w_throw rfl (by decide) (Nat.le_of_ble_eq_true rfl) ⟨rfl, rfl⟩
            · replace c58 := b01_t c58
              exact absurd c58 hx
          · refine w_iconst (v := 1) rfl (by decide) ?_
            refine w_goto rfl rfl ?_
            refine w_istore rfl (Nat.le_of_ble_eq_true rfl) ?_
            refine w_iload_n rfl rfl ?_
            refine w_static rfl (by decide) rfl ⟨(Nat.le_of_ble_eq_true rfl), (Nat.le_of_ble_eq_true rfl), (Nat.le_of_ble_eq_true rfl)⟩ rfl (Nat.le_of_ble_eq_true rfl) (c_isRep x) ?_
            rintro _ _ ⟨rfl, rfl⟩
            refine ⟨_, rfl, ?_⟩
            refine w_ifCond_eq rfl rfl (fun c58 => ?_) (fun c58 => ?_)
            · replace c58 := b01_f c58
              exact w_throw rfl (by decide) (Nat.le_of_ble_eq_true rfl) ⟨rfl, rfl⟩
            · replace c58 := b01_t c58
              exact absurd c58 hx
      · refine w_iconst (v := 1) rfl (by decide) ?_
        refine w_goto rfl rfl ?_
        refine w_istore rfl (Nat.le_of_ble_eq_true rfl) ?_
        refine w_iload_n rfl rfl ?_
        refine w_bipush (v := 30) rfl (by decide) ?_
        refine w_if_icmp_lt rfl rfl (fun c38 => ?_) (fun c38 => ?_)
        · refine w_iconst (v := 0) rfl (by decide) ?_
          refine w_istore rfl (Nat.le_of_ble_eq_true rfl) ?_
          refine w_iload_n rfl rfl ?_
          refine w_static rfl (by decide) rfl ⟨(Nat.le_of_ble_eq_true rfl), (Nat.le_of_ble_eq_true rfl), (Nat.le_of_ble_eq_true rfl)⟩ rfl (Nat.le_of_ble_eq_true rfl) (c_isRep x) ?_
          rintro _ _ ⟨rfl, rfl⟩
          refine ⟨_, rfl, ?_⟩
          refine w_ifCond_eq rfl rfl (fun c58 => ?_) (fun c58 => ?_)
          · replace c58 := b01_f c58
            exact w_throw rfl (by decide) (Nat.le_of_ble_eq_true rfl) ⟨rfl, rfl⟩
          · replace c58 := b01_t c58
            exact absurd c58 hx
        · refine w_iload_n rfl rfl ?_
          refine w_bipush (v := 34) rfl (by decide) ?_
          refine w_if_icmp_ge rfl rfl (fun c44 => ?_) (fun c44 => ?_)
          · refine w_iconst (v := 0) rfl (by decide) ?_
            refine w_istore rfl (Nat.le_of_ble_eq_true rfl) ?_
            refine w_iload_n rfl rfl ?_
            refine w_static rfl (by decide) rfl ⟨(Nat.le_of_ble_eq_true rfl), (Nat.le_of_ble_eq_true rfl), (Nat.le_of_ble_eq_true rfl)⟩ rfl (Nat.le_of_ble_eq_true rfl) (c_isRep x) ?_
            rintro _ _ ⟨rfl, rfl⟩
            refine ⟨_, rfl, ?_⟩
            refine w_ifCond_eq rfl rfl (fun c58 => ?_) (fun c58 => ?_)
            · replace c58 := b01_f c58
              exact w_throw rfl (by decide) (Nat.le_of_ble_eq_true rfl) ⟨rfl, rfl⟩
            · replace c58 := b01_t c58
              exact absurd c58 hx
          · refine w_iconst (v := 1) rfl (by decide) ?_
            refine w_goto rfl rfl ?_
            refine w_istore rfl (Nat.le_of_ble_eq_true rfl) ?_
            refine w_iload_n rfl rfl ?_
            refine w_static rfl (by decide) rfl ⟨(Nat.le_of_ble_eq_true rfl), (Nat.le_of_ble_eq_true rfl), (Nat.le_of_ble_eq_true rfl)⟩ rfl (Nat.le_of_ble_eq_true rfl) (c_isRep x) ?_
            rintro _ _ ⟨rfl, rfl⟩
            refine ⟨_, rfl, ?_⟩
            refine w_ifCond_eq rfl rfl (fun c58 => ?_) (fun c58 => ?_)
            · replace c58 := b01_f c58
              exact w_throw rfl (by decide) (Nat.le_of_ble_eq_true rfl) ⟨rfl, rfl⟩
            · replace c58 := b01_t c58
              exact absurd c58 hx
  · refine w_iload_n rfl rfl ?_
    refine w_bipush (v := 6) rfl (by decide) ?_
    refine w_if_icmp_gt rfl rfl (fun c7 => ?_) (fun c7 => ?_)
    · refine w_iconst (v := 0) rfl (by decide) ?_
      refine w_istore_n rfl (Nat.le_of_ble_eq_true rfl) ?_
      refine w_iload_n rfl rfl ?_
      refine w_bipush (v := 10) rfl (by decide) ?_
      refine w_if_icmp_lt rfl rfl (fun c19 => ?_) (fun c19 => ?_)
      · refine w_iconst (v := 0) rfl (by decide) ?_
        refine w_istore rfl (Nat.le_of_ble_eq_true rfl) ?_
        refine w_iload_n rfl rfl ?_
        refine w_bipush (v := 30) rfl (by decide) ?_
        refine w_if_icmp_lt rfl rfl (fun c38 => ?_) (fun c38 => ?_)
        · refine w_iconst (v := 0) rfl (by decide) ?_
          refine w_istore rfl (Nat.le_of_ble_eq_true rfl) ?_
          refine w_iload_n rfl rfl ?_
          refine w_static rfl (by decide) rfl ⟨(Nat.le_of_ble_eq_true rfl), (Nat.le_of_ble_eq_true rfl), (Nat.le_of_ble_eq_true rfl)⟩ rfl (Nat.le_of_ble_eq_true rfl) (c_isRep x) ?_
          rintro _ _ ⟨rfl, rfl⟩
          refine ⟨_, rfl, ?_⟩
          refine w_ifCond_eq rfl rfl (fun c58 => ?_) (fun c58 => ?_)
          · replace c58 := b01_f c58
            exact w_throw rfl (by decide) (Nat.le_of_ble_eq_true rfl) ⟨rfl, rfl⟩
          · replace c58 := b01_t c58
            exact absurd c58 hx
        · refine w_iload_n rfl rfl ?_
          refine w_bipush (v := 34) rfl (by decide) ?_
          refine w_if_icmp_ge rfl rfl (fun c44 => ?_) (fun c44 => ?_)
          · refine w_iconst (v := 0) rfl (by decide) ?_
            refine w_istore rfl (Nat.le_of_ble_eq_true rfl) ?_
            refine w_iload_n rfl rfl ?_
            refine w_static rfl (by decide) rfl ⟨(Nat.le_of_ble_eq_true rfl), (Nat.le_of_ble_eq_true rfl), (Nat.le_of_ble_eq_true rfl)⟩ rfl (Nat.le_of_ble_eq_true rfl) (c_isRep x) ?_
            rintro _ _ ⟨rfl, rfl⟩
            refine ⟨_, rfl, ?_⟩
            refine w_ifCond_eq rfl rfl (fun c58 => ?_) (fun c58 => ?_)
            · replace c58 := b01_f c58
              exact w_throw rfl (by decide) (Nat.le_of_ble_eq_true rfl) ⟨rfl, rfl⟩
            · replace c58 := b01_t c58
              exact absurd c58 hx
          · refine w_iconst (v := 1) rfl (by decide) ?_
            refine w_goto rfl rfl ?_
            refine w_istore rfl (Nat.le_of_ble_eq_true rfl) ?_
            refine w_iload_n rfl rfl ?_
            refine w_static rfl (by decide) rfl ⟨(Nat.le_of_ble_eq_true rfl), (Nat.le_of_ble_eq_true rfl), (Nat.le_of_ble_eq_true rfl)⟩ rfl (Nat.le_of_ble_eq_true rfl) (c_isRep x) ?_
            rintro _ _ ⟨rfl, rfl⟩
            refine ⟨_, rfl, ?_⟩
            refine w_ifCond_eq rfl rfl (fun c58 => ?_) (fun c58 => ?_)
            · replace c58 := b01_f c58
              exact w_throw rfl (by decide) (Nat.le_of_ble_eq_true rfl) ⟨rfl, rfl⟩
            · replace c58 := b01_t c58
              exact absurd c58 hx
      · refine w_iload_n rfl rfl ?_
        refine w_bipush (v := 22) rfl (by decide) ?_
        refine w_if_icmp_ge rfl rfl (fun c25 => ?_) (fun c25 => ?_)
        · refine w_iconst (v := 0) rfl (by decide) ?_
          refine w_istore rfl (Nat.le_of_ble_eq_true rfl) ?_
          refine w_iload_n rfl rfl ?_
          refine w_bipush (v := 30) rfl (by decide) ?_
          refine w_if_icmp_lt rfl rfl (fun c38 => ?_) (fun c38 => ?_)
          · refine w_iconst (v := 0) rfl (by decide) ?_
            refine w_istore rfl (Nat.le_of_ble_eq_true rfl) ?_
            refine w_iload_n rfl rfl ?_
            refine w_static rfl (by decide) rfl ⟨(Nat.le_of_ble_eq_true rfl), (Nat.le_of_ble_eq_true rfl), (Nat.le_of_ble_eq_true rfl)⟩ rfl (Nat.le_of_ble_eq_true rfl) (c_isRep x) ?_
            rintro _ _ ⟨rfl, rfl⟩
            refine ⟨_, rfl, ?_⟩
            refine w_ifCond_eq rfl rfl (fun c58 => ?_) (fun c58 => ?_)
            · replace c58 := b01_f c58
              exact w_throw rfl (by decide) (Nat.le_of_ble_eq_true rfl) ⟨rfl, rfl⟩
            · replace c58 := b01_t c58
              exact absurd c58 hx
          · refine w_iload_n rfl rfl ?_
            refine w_bipush (v := 34) rfl (by decide) ?_
            refine w_if_icmp_ge rfl rfl (fun c44 => ?_) (fun c44 => ?_)
            · refine w_iconst (v := 0) rfl (by decide) ?_
              refine w_istore rfl (Nat.le_of_ble_eq_true rfl) ?_
              refine w_iload_n rfl rfl ?_
              refine w_static rfl (by decide) rfl ⟨(Nat.le_of_ble_eq_true rfl), (Nat.le_of_ble_eq_true rfl), (Nat.le_of_ble_eq_true rfl)⟩ rfl (Nat.le_of_ble_eq_true rfl) (c_isRep x) ?_
              rintro _ _ ⟨rfl, rfl⟩
              refine ⟨_, rfl, ?_⟩
              refine w_ifCond_eq rfl rfl (fun c58 => ?_) (fun c58 => ?_)
              · replace c58 := b01_f c58
                exact w_throw rfl (by decide) (Nat.le_of_ble_eq_true rfl) ⟨rfl, rfl⟩
              · replace c58 := b01_t c58
                exact absurd c58 hx
            · refine w_iconst (v := 1) rfl (by decide) ?_
              refine w_goto rfl rfl ?_
              refine w_istore rfl (Nat.le_of_ble_eq_true rfl) ?_
              refine w_iload_n rfl rfl ?_
              refine w_static rfl (by decide) rfl ⟨(Nat.le_of_ble_eq_true rfl), (Nat.le_of_ble_eq_true rfl), (Nat.le_of_ble_eq_true rfl)⟩ rfl (Nat.le_of_ble_eq_true rfl) (c_isRep x) ?_
              rintro _ _ ⟨rfl, rfl⟩
              refine ⟨_, rfl, ?_⟩
              refine w_ifCond_eq rfl rfl (fun c58 => ?_) (fun c58 => ?_)
              · replace c58 := b01_f c58
                exact w_throw rfl (by decide) (Nat.le_of_ble_eq_true rfl) ⟨rfl, rfl⟩
              · replace c58 := b01_t c58
                exact absurd c58 hx
        · refine w_iconst (v := 1) rfl (by decide) ?_
          refine w_goto rfl rfl ?_
          refine w_istore rfl (Nat.le_of_ble_eq_true rfl) ?_
          refine w_iload_n rfl rfl ?_
          refine w_bipush (v := 30) rfl (by decide) ?_
          refine w_if_icmp_lt rfl rfl (fun c38 => ?_) (fun c38 => ?_)
          · refine w_iconst (v := 0) rfl (by decide) ?_
            refine w_istore rfl (Nat.le_of_ble_eq_true rfl) ?_
            refine w_iload_n rfl rfl ?_
            refine w_static rfl (by decide) rfl ⟨(Nat.le_of_ble_eq_true rfl), (Nat.le_of_ble_eq_true rfl), (Nat.le_of_ble_eq_true rfl)⟩ rfl (Nat.le_of_ble_eq_true rfl) (c_isRep x) ?_
            rintro _ _ ⟨rfl, rfl⟩
            refine ⟨_, rfl, ?_⟩
            refine w_ifCond_eq rfl rfl (fun c58 => ?_) (fun c58 => ?_)
            · replace c58 := b01_f c58
              exact w_throw rfl (by decide) (Nat.le_of_ble_eq_true rfl) ⟨rfl, rfl⟩
            · replace c58 := b01_t c58
              exact absurd c58 hx
          · refine w_iload_n rfl rfl ?_
            refine w_bipush (v := 34) rfl (by decide) ?_
            refine w_if_icmp_ge rfl rfl (fun c44 => ?_) (fun c44 => ?_)
            · refine w_iconst (v := 0) rfl (by decide) ?_
              refine w_istore rfl (Nat.le_of_ble_eq_true rfl) ?_
              refine w_iload_n rfl rfl ?_
              refine w_static rfl (by decide) rfl ⟨(Nat.le_of_ble_eq_true rfl), (Nat.le_of_ble_eq_true rfl), (Nat.le_of_ble_eq_true rfl)⟩ rfl (Nat.le_of_ble_eq_true rfl) (c_isRep x) ?_
              rintro _ _ ⟨rfl, rfl⟩
              refine ⟨_, rfl, ?_⟩
              refine w_ifCond_eq rfl rfl (fun c58 => ?_) (fun c58 => ?_)
              · replace c58 := b01_f c58
                exact w_throw rfl (by decide) (Nat.le_of_ble_eq_true rfl) ⟨rfl, rfl⟩
              · replace c58 := b01_t c58
                exact absurd c58 hx
            · refine w_iconst (v := 1) rfl (by decide) ?_
              refine w_goto rfl rfl ?_
              refine w_istore rfl (Nat.le_of_ble_eq_true rfl) ?_
              refine w_iload_n rfl rfl ?_
              refine w_static rfl (by decide) rfl ⟨(Nat.le_of_ble_eq_true rfl), (Nat.le_of_ble_eq_true rfl), (Nat.le_of_ble_eq_true rfl)⟩ rfl (Nat.le_of_ble_eq_true rfl) (c_isRep x) ?_
              rintro _ _ ⟨rfl, rfl⟩
              refine ⟨_, rfl, ?_⟩
              refine w_ifCond_eq rfl rfl (fun c58 => ?_) (fun c58 => ?_)
              · replace c58 := b01_f c58
                exact w_throw rfl (by decide) (Nat.le_of_ble_eq_true rfl) ⟨rfl, rfl⟩
              · replace c58 := b01_t c58
                exact absurd c58 hx
    · refine w_iconst (v := 1) rfl (by decide) ?_
      refine w_goto rfl rfl ?_
      refine w_istore_n rfl (Nat.le_of_ble_eq_true rfl) ?_
      refine w_iload_n rfl rfl ?_
      refine w_bipush (v := 10) rfl (by decide) ?_
      refine w_if_icmp_lt rfl rfl (fun c19 => ?_) (fun c19 => ?_)
      · refine w_iconst (v := 0) rfl (by decide) ?_
        refine w_istore rfl (Nat.le_of_ble_eq_true rfl) ?_
        refine w_iload_n rfl rfl ?_
        refine w_bipush (v := 30) rfl (by decide) ?_
        refine w_if_icmp_lt rfl rfl (fun c38 => ?_) (fun c38 => ?_)
        · refine w_iconst (v := 0) rfl (by decide) ?_
          refine w_istore rfl (Nat.le_of_ble_eq_true rfl) ?_
          refine w_iload_n rfl rfl ?_
          refine w_static rfl (by decide) rfl ⟨(Nat.le_of_ble_eq_true rfl), (Nat.le_of_ble_eq_true rfl), (Nat.le_of_ble_eq_true rfl)⟩ rfl (Nat.le_of_ble_eq_true rfl) (c_isRep x) ?_
          rintro _ _ ⟨rfl, rfl⟩
          refine ⟨_, rfl, ?_⟩
          refine w_ifCond_eq rfl rfl (fun c58 => ?_) (fun c58 => ?_)
          · replace c58 := b01_f c58
            exact w_throw rfl (by decide) (Nat.le_of_ble_eq_true rfl) ⟨rfl, rfl⟩
          · replace c58 := b01_t c58
            exact absurd c58 hx
        · refine w_iload_n rfl rfl ?_
          refine w_bipush (v := 34) rfl (by decide) ?_
          refine w_if_icmp_ge rfl rfl (fun c44 => ?_) (fun c44 => ?_)
          · refine w_iconst (v := 0) rfl (by decide) ?_
            refine w_istore rfl (Nat.le_of_ble_eq_true rfl) ?_
            refine w_iload_n rfl rfl ?_
            refine w_static rfl (by decide) rfl ⟨(Nat.le_of_ble_eq_true rfl), (Nat.le_of_ble_eq_true rfl), (Nat.le_of_ble_eq_true rfl)⟩ rfl (Nat.le_of_ble_eq_true rfl) (c_isRep x) ?_
            rintro _ _ ⟨rfl, rfl⟩
            refine ⟨_, rfl, ?_⟩
            refine w_ifCond_eq rfl rfl (fun c58 => ?_) (fun c58 => ?_)
            · replace c58 := b01_f c58
              exact w_throw rfl (by decide) (Nat.le_of_ble_eq_true rfl) ⟨rfl, rfl⟩
            · replace c58 := b01_t c58
              exact absurd c58 hx
          · refine w_iconst (v := 1) rfl (by decide) ?_
            refine w_goto rfl rfl ?_
            refine w_istore rfl (Nat.le_of_ble_eq_true rfl) ?_
            refine w_iload_n rfl rfl ?_
            refine w_static rfl (by decide) rfl ⟨(Nat.le_of_ble_eq_true rfl), (Nat.le_of_ble_eq_true rfl), (Nat.le_of_ble_eq_true rfl)⟩ rfl (Nat.le_of_ble_eq_true rfl) (c_isRep x) ?_
            rintro _ _ ⟨rfl, rfl⟩
            refine ⟨_, rfl, ?_⟩
            refine w_ifCond_eq rfl rfl (fun c58 => ?_) (fun c58 => ?_)
            · replace c58 := b01_f c58
              exact w_throw rfl (by decide) (Nat.le_of_ble_eq_true rfl) ⟨rfl, rfl⟩
            · replace c58 := b01_t c58
              exact absurd c58 hx
      · refine w_iload_n rfl rfl ?_
        refine w_bipush (v := 22) rfl (by decide) ?_
        refine w_if_icmp_ge rfl rfl (fun c25 => ?_) (fun c25 => ?_)
        · refine w_iconst (v := 0) rfl (by decide) ?_
          refine w_istore rfl (Nat.le_of_ble_eq_true rfl) ?_
          refine w_iload_n rfl rfl ?_
          refine w_bipush (v := 30) rfl (by decide) ?_
          refine w_if_icmp_lt rfl rfl (fun c38 => ?_) (fun c38 => ?_)
          · refine w_iconst (v := 0) rfl (by decide) ?_
            refine w_istore rfl (Nat.le_of_ble_eq_true rfl) ?_
            refine w_iload_n rfl rfl ?_
            refine w_static rfl (by decide) rfl ⟨(Nat.le_of_ble_eq_true rfl), (Nat.le_of_ble_eq_true rfl), (Nat.le_of_ble_eq_true rfl)⟩ rfl (Nat.le_of_ble_eq_true rfl) (c_isRep x) ?_
            rintro _ _ ⟨rfl, rfl⟩
            refine ⟨_, rfl, ?_⟩
            refine w_ifCond_eq rfl rfl (fun c58 => ?_) (fun c58 => ?_)
            · replace c58 := b01_f c58
              exact w_throw rfl (by decide) (Nat.le_of_ble_eq_true rfl) ⟨rfl, rfl⟩
            · replace c58 := b01_t c58
              exact absurd c58 hx
          · refine w_iload_n rfl rfl ?_
            refine w_bipush (v := 34) rfl (by decide) ?_
            refine w_if_icmp_ge rfl rfl (fun c44 => ?_) (fun c44 => ?_)
            · refine w_iconst (v := 0) rfl (by decide) ?_
              refine w_istore rfl (Nat.le_of_ble_eq_true rfl) ?_
              refine w_iload_n rfl rfl ?_
              refine w_static rfl (by decide) rfl ⟨(Nat.le_of_ble_eq_true rfl), (Nat.le_of_ble_eq_true rfl), (Nat.le_of_ble_eq_true rfl)⟩ rfl (Nat.le_of_ble_eq_true rfl) (c_isRep x) ?_
              rintro _ _ ⟨rfl, rfl⟩
              refine ⟨_, rfl, ?_⟩
              refine w_ifCond_eq rfl rfl (fun c58 => ?_) (fun c58 => ?_)
              · replace c58 := b01_f c58
                exact w_throw rfl (by decide) (Nat.le_of_ble_eq_true rfl) ⟨rfl, rfl⟩
              · replace c58 := b01_t c58
                exact absurd c58 hx
            · refine w_iconst (v := 1) rfl (by decide) ?_
              refine w_goto rfl rfl ?_
              refine w_istore rfl (Nat.le_of_ble_eq_true rfl) ?_
              refine w_iload_n rfl rfl ?_
              refine w_static rfl (by decide) rfl ⟨(Nat.le_of_ble_eq_true rfl), (Nat.le_of_ble_eq_true rfl), (Nat.le_of_ble_eq_true rfl)⟩ rfl (Nat.le_of_ble_eq_true rfl) (c_isRep x) ?_
              rintro _ _ ⟨rfl, rfl⟩
              refine ⟨_, rfl, ?_⟩
              refine w_ifCond_eq rfl rfl (fun c58 => ?_) (fun c58 => ?_)
              · replace c58 := b01_f c58
                exact w_throw rfl (by decide) (Nat.le_of_ble_eq_true rfl) ⟨rfl, rfl⟩
              · replace c58 := b01_t c58
                exact absurd c58 hx
        · refine w_iconst (v := 1) rfl (by decide) ?_
          refine w_goto rfl rfl ?_
          refine w_istore rfl (Nat.le_of_ble_eq_true rfl) ?_
          refine w_iload_n rfl rfl ?_
          refine w_bipush (v := 30) rfl (by decide) ?_
          refine w_if_icmp_lt rfl rfl (fun c38 => ?_) (fun c38 => ?_)
          · refine w_iconst (v := 0) rfl (by decide) ?_
            refine w_istore rfl (Nat.le_of_ble_eq_true rfl) ?_
            refine w_iload_n rfl rfl ?_
            refine w_static rfl (by decide) rfl ⟨(Nat.le_of_ble_eq_true rfl), (Nat.le_of_ble_eq_true rfl), (Nat.le_of_ble_eq_true rfl)⟩ rfl (Nat.le_of_ble_eq_true rfl) (c_isRep x) ?_
            rintro _ _ ⟨rfl, rfl⟩
            refine ⟨_, rfl, ?_⟩
            refine w_ifCond_eq rfl rfl (fun c58 => ?_) (fun c58 => ?_)
            · replace c58 := b01_f c58
              exact w_throw rfl (by decide) (Nat.le_of_ble_eq_true rfl) ⟨rfl, rfl⟩
            · replace c58 := b01_t c58
              exact absurd c58 hx
          · refine w_iload_n rfl rfl ?_
            refine w_bipush (v := 34) rfl (by decide) ?_
            refine w_if_icmp_ge rfl rfl (fun c44 => ?_) (fun c44 => ?_)
            · refine w_iconst (v := 0) rfl (by decide) ?_
              refine w_istore rfl (Nat.le_of_ble_eq_true rfl) ?_
              refine w_iload_n rfl rfl ?_
              refine w_static rfl (by decide) rfl ⟨(Nat.le_of_ble_eq_true rfl), (Nat.le_of_ble_eq_true rfl), (Nat.le_of_ble_eq_true rfl)⟩ rfl (Nat.le_of_ble_eq_true rfl) (c_isRep x) ?_
              rintro _ _ ⟨rfl, rfl⟩
              refine ⟨_, rfl, ?_⟩
              refine w_ifCond_eq rfl rfl (fun c58 => ?_) (fun c58 => ?_)
              · replace c58 := b01_f c58
                exact w_throw rfl (by decide) (Nat.le_of_ble_eq_true rfl) ⟨rfl, rfl⟩
              · replace c58 := b01_t c58
                exact absurd c58 hx
            · refine w_iconst (v := 1) rfl (by decide) ?_
              refine w_goto rfl rfl ?_
              refine w_istore rfl (Nat.le_of_ble_eq_true rfl) ?_
              refine w_iload_n rfl rfl ?_
              refine w_static rfl (by decide) rfl ⟨(Nat.le_of_ble_eq_true rfl), (Nat.le_of_ble_eq_true rfl), (Nat.le_of_ble_eq_true rfl)⟩ rfl (Nat.le_of_ble_eq_true rfl) (c_isRep x) ?_
              rintro _ _ ⟨rfl, rfl⟩
              refine ⟨_, rfl, ?_⟩
              refine w_ifCond_eq rfl rfl (fun c58 => ?_) (fun c58 => ?_)
              · replace c58 := b01_f c58
                exact w_throw rfl (by decide) (Nat.le_of_ble_eq_true rfl) ⟨rfl, rfl⟩
              · replace c58 := b01_t c58
                exact absurd c58 hx
