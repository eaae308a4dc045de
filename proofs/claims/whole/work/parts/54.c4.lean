-- deps: 53.rel3
/-! a replica's small methods -/
theorem hisS {cs : List pm_C} {a : MS} {Y : PT} {r n : Nat} (hc : 73 < cs.length) (hr : r < 4) (hn : a.1 7 r = nI n) (h12 : n ≤ 12) : His (cset cs a Y) (8 + 6 * r) (9 + 6 * r) n (a.1 9 r) (fun b => a.1 50 (12 * r + b)) := ⟨by rw [cs8 hc hr]; unfold ob1; rw [hn], cs9 hc hr, h12⟩
theorem w_dis {sc : pm_Sc} {i pc : Nat} {lv : pm_L} {st : List Value} {kn : Nat × Nat} {cs : List pm_C} {a : MS} {Y : PT} {Q : (Option Value ⊕ Nat) → pm_H → Prop} {j n q len : Nat} {x v : Int32} {g : Nat → Int32} (ha : pm_at i pc = some (.iastore, len, [])) (hc : 73 < cs.length) (hq : 30 < q ∧ cs[q]? = some (.inl (0, (List.range n).map fun b => Value.int (g b)))) (hx : x = nI j) (hj : j < n ∧ n < 1000) (kk : pw sc i (pc + 1, lv, st, (cset (cs.set q (.inl (0, (List.range n).map fun b => Value.int (if b = j then v else g b)))) a Y, kn)) Q) : pw sc i (pc, lv, .int v :: .int x :: .ref q :: st, (cset cs a Y, kn)) Q := by
  subst hx
  refine w_iastore ha (h := (cset cs a Y, kn)) ((cset_out (by omega)).trans hq.2) ⟨nI_pos (by omega), by rw [nI_clamp (by omega), List.length_map, List.length_range]; exact hj.1⟩ ?_
  rw [nI_clamp (by omega), map_up n j hj.1]
  have e : (fun b => if b = j then Value.int v else Value.int (g b)) = fun b => Value.int (if b = j then v else g b) := by
    funext b; split <;> rfl
  rw [e]
  show pw sc i (pc + 1, lv, st, ((cset cs a Y).set q _, kn)) Q
  rw [cset_set hc hq.1]; exact kk
def mgC (cs : List pm_C) (n : Nat) (f : Int32) (g : Nat → Int32) : List pm_C := cs ++ [.inr (1, [.ref (cs.length + 1), .int (nI n), .int f])] ++ [.inl (0, (List.range 12).map fun b => Value.int (g b))]
theorem mg_len {cs : List pm_C} {n : Nat} {f : Int32} {g : Nat → Int32} : (mgC cs n f g).length = cs.length + 2 := by
  unfold mgC
  rw [List.length_append, List.length_append]; rfl
theorem mg_o {cs : List pm_C} {n : Nat} {f : Int32} {g : Nat → Int32} : (mgC cs n f g)[cs.length]? = some (.inr (1, [.ref (cs.length + 1), .int (nI n), .int f])) := ga_old ga_new
theorem mg_r {cs : List pm_C} {n : Nat} {f : Int32} {g : Nat → Int32} : (mgC cs n f g)[cs.length + 1]? = some (.inl (0, (List.range 12).map fun b => Value.int (g b))) := by
  have e : (cs ++ [(.inr (1, [.ref (cs.length + 1), .int (nI n), .int f]) : pm_C)]).length = cs.length + 1 := by rw [List.length_append]; rfl
  have h := ga_new (cs := cs ++ [(.inr (1, [.ref (cs.length + 1), .int (nI n), .int f]) : pm_C)]) (c := .inl (0, (List.range 12).map fun b => Value.int (g b)))
  rw [e] at h; exact h
theorem mg_so {cs : List pm_C} {n n' : Nat} {f f' : Int32} {g : Nat → Int32} : (mgC cs n f g).set cs.length (.inr (1, [.ref (cs.length + 1), .int (nI n'), .int f'])) = mgC cs n' f' g := set_app2
theorem mg_sr {cs : List pm_C} {n : Nat} {f : Int32} {g g' : Nat → Int32} : (mgC cs n f g).set (cs.length + 1) (.inl (0, (List.range 12).map fun b => Value.int (g' b))) = mgC cs n f g' := by
  have e : (cs ++ [(.inr (1, [.ref (cs.length + 1), .int (nI n), .int f]) : pm_C)]).length = cs.length + 1 := by rw [List.length_append]; rfl
  have h := set_app (cs := cs ++ [(.inr (1, [.ref (cs.length + 1), .int (nI n), .int f]) : pm_C)]) (x := .inl (0, (List.range 12).map fun b => Value.int (g b))) (z := .inl (0, (List.range 12).map fun b => Value.int (g' b)))
  rw [e] at h; exact h
theorem mg_hc {cs : List pm_C} {n : Nat} {f : Int32} {g : Nat → Int32} (hc : 73 < cs.length) : 73 < (mgC cs n f g).length := by rw [mg_len]; omega
theorem mg_his {cs : List pm_C} {a : MS} {Y : PT} {n : Nat} {f : Int32} {g : Nat → Int32} (hc : 73 < cs.length) (hn : n ≤ 12) : His (cset (mgC cs n f g) a Y) cs.length (cs.length + 1) n f g := ⟨(cset_out (by omega)).trans mg_o, (cset_out (by omega)).trans mg_r, hn⟩
theorem mg_hisx {cs : List pm_C} {n : Nat} {f : Int32} {g : Nat → Int32} {x : Int64} (hc : 73 < cs.length) (hn : n ≤ 12) (hg : ∀ k, k < n → g k = m_at x (nI k)) : HisX (mgC cs n f g) cs.length n f x := ⟨by omega, cs.length + 1, g, by omega, ⟨mg_o, mg_r, hn⟩, hg⟩
set_option maxRecDepth 100000 in
set_option maxHeartbeats 400000 in
theorem c_h_add {sc : pm_Sc} {cs : List pm_C} {a : MS} {Y : PT} {kn : Nat × Nat} (hc : 73 < cs.length)  {r : Nat} (hr : r < 4) {n : Nat} (hn : a.1 7 r = nI n) (h12 : n < 12) (v : Int32) : pu sc 8 [.ref (8 + 6 * r), .int v] (cset cs a Y, kn) (pz none (cset cs (up (up a 50 (12 * r + n) v) 7 r (nI (n + 1))) Y, kn)) := by
  refine w_aload_n rfl rfl ?_
  refine w_getfield rfl (cs8 hc hr) rfl ?_
  refine w_bipush (v := 12) rfl (by decide) ?_
  refine w_if_icmp_ge rfl rfl (fun c6 => ?_) (fun c6 => ?_)
  · exact absurd c6 (by rw [hn]; exact nI_ge (a := n) (b := 12) h12 (by omega))
  · refine w_aload_n rfl rfl ?_
    refine w_getfield rfl (cs8 hc hr) rfl ?_
    refine w_aload_n rfl rfl ?_
    refine w_getfield rfl (cs8 hc hr) rfl ?_
    refine w_iload_n rfl rfl ?_
    refine w_cs9 (j := n) rfl hc hr hn h12 ?_
    refine w_aload_n rfl rfl ?_
    refine w_dup rfl rfl ?_
    refine w_getfield rfl (cs8 hc hr) rfl ?_
    refine w_iconst (v := 1) rfl (by decide) ?_
    refine w_iaddN (x := n) (y := 1) rfl hn rfl ?_
    refine w_cpH (f := 7) rfl hc hr (by decide) rfl ?_
    exact w_return rfl rfl ⟨(by first | rfl | (simp only [c6, if_true, if_false, and_true, true_and, and_false, false_and, or_true, true_or, or_false, false_or, not_true_eq_false, not_false_eq_true, ite_self]; done) | (simp only [c6, if_true, if_false, and_true, true_and, and_false, false_and, or_true, true_or, or_false, false_or, not_true_eq_false, not_false_eq_true, ite_self]; rfl)), (by first | rfl | (simp only [c6, if_true, if_false, and_true, true_and, and_false, false_and, or_true, true_or, or_false, false_or, not_true_eq_false, not_false_eq_true, ite_self]; done) | (simp only [c6, if_true, if_false, and_true, true_and, and_false, false_and, or_true, true_or, or_false, false_or, not_true_eq_false, not_false_eq_true, ite_self]; rfl))⟩
set_option maxRecDepth 100000 in
set_option maxHeartbeats 400000 in
theorem c_h_addM {sc : pm_Sc} {cs : List pm_C} {a : MS} {Y : PT} {kn : Nat × Nat} (hc : 73 < cs.length) {n : Nat} {f : Int32} {g : Nat → Int32} (h12 : n < 12) (v : Int32) : pu sc 8 [.ref cs.length, .int v] (cset (mgC cs n f g) a Y, kn) (pz none (cset (mgC cs (n + 1) f (fun b => if b = n then v else g b)) a Y, kn)) := by
  refine w_aload_n rfl rfl ?_
  refine w_getfield rfl ((cset_out (Nat.not_le_of_gt (hc30 hc))).trans mg_o) rfl ?_
  refine w_bipush (v := 12) rfl (by decide) ?_
  refine w_if_icmp_ge rfl rfl (fun c6 => ?_) (fun c6 => ?_)
  · exact absurd c6 (nI_ge (a := n) (b := 12) h12 (by omega))
  · refine w_aload_n rfl rfl ?_
    refine w_getfield rfl ((cset_out (Nat.not_le_of_gt (hc30 hc))).trans mg_o) rfl ?_
    refine w_aload_n rfl rfl ?_
    refine w_getfield rfl ((cset_out (Nat.not_le_of_gt (hc30 hc))).trans mg_o) rfl ?_
    refine w_iload_n rfl rfl ?_
    refine w_dis (j := n) rfl (mg_hc hc) ⟨by omega, mg_r⟩ rfl ⟨h12, by omega⟩ ?_
    rw [mg_sr]
    refine w_aload_n rfl rfl ?_
    refine w_dup rfl rfl ?_
    refine w_getfield rfl ((cset_out (Nat.not_le_of_gt (hc30 hc))).trans mg_o) rfl ?_
    refine w_iconst (v := 1) rfl (by decide) ?_
    refine w_iaddN (x := n) (y := 1) rfl rfl rfl ?_
    refine w_dp rfl (mg_hc hc) ⟨hc30 hc, mg_o⟩ (Nat.le_of_ble_eq_true rfl) rfl ?_
    show pw sc 8 (_, _, _, (cset ((mgC cs n f _).set cs.length (.inr (1, [.ref (cs.length + 1), .int (nI (n + 1)), .int f]))) a Y, kn)) _
    rw [mg_so]
    exact w_return rfl rfl ⟨(by first | rfl | (simp only [c6, if_true, if_false, and_true, true_and, and_false, false_and, or_true, true_or, or_false, false_or, not_true_eq_false, not_false_eq_true, ite_self]; done) | (simp only [c6, if_true, if_false, and_true, true_and, and_false, false_and, or_true, true_or, or_false, false_or, not_true_eq_false, not_false_eq_true, ite_self]; rfl)), (by first | rfl | (simp only [c6, if_true, if_false, and_true, true_and, and_false, false_and, or_true, true_or, or_false, false_or, not_true_eq_false, not_false_eq_true, ite_self]; done) | (simp only [c6, if_true, if_false, and_true, true_and, and_false, false_and, or_true, true_or, or_false, false_or, not_true_eq_false, not_false_eq_true, ite_self]; rfl))⟩
set_option maxRecDepth 100000 in
set_option maxHeartbeats 400000 in
theorem c_doOn {sc : pm_Sc} {cs : List pm_C} {a : MS} {Y : PT} {kn : Nat × Nat} (hc : 73 < cs.length) {r p y : Nat} (hr : r < 4) (h30 : 30 < p) {o am : Int32} {xs : List Value} (hp : cs[p]? = some (.inr (6, .int o :: .int (nI y) :: .int am :: xs))) (hy : y < 4) : pu sc 47 [.ref p, .ref (10 + 6 * r)] (cset cs a Y, kn) (pz (some (.int (doR o am (a.1 51 (4 * r + y))))) (cset cs (up a 51 (4 * r + y) (doV o am (a.1 51 (4 * r + y)))) Y, kn)) := by
  refine w_aload_n rfl rfl ?_
  refine w_aload_n rfl rfl ?_
  refine w_getfield rfl ((cset_out (Nat.not_le_of_gt h30)).trans hp) rfl ?_
  refine w_hil (j := y) rfl (cs10 hc hr) rfl ⟨show y < 4 from by omega, by decide⟩ ?_
  refine w_istore_n rfl (Nat.le_of_ble_eq_true rfl) ?_
  refine w_aload_n rfl rfl ?_
  refine w_getfield rfl ((cset_out (Nat.not_le_of_gt h30)).trans hp) rfl ?_
  refine w_ifCond_ne rfl rfl (fun c11 => ?_) (fun c11 => ?_)
  · refine w_aload_n rfl rfl ?_
    refine w_getfield rfl ((cset_out (Nat.not_le_of_gt h30)).trans hp) rfl ?_
    refine w_iconst (v := 1) rfl (by decide) ?_
    refine w_if_icmp_ne rfl rfl (fun c31 => ?_) (fun c31 => ?_)
    · refine w_aload_n rfl rfl ?_
      refine w_aload_n rfl rfl ?_
      refine w_getfield rfl ((cset_out (Nat.not_le_of_gt h30)).trans hp) rfl ?_
      refine w_hil (j := y) rfl (cs10 hc hr) rfl ⟨show y < 4 from by omega, by decide⟩ ?_
      exact w_ireturn rfl (Or.inl rfl) ⟨by rw [doR, if_neg c11, if_neg c31], by rw [doV, if_neg c11, if_neg c31, up_self]⟩
    · refine w_aload_n rfl rfl ?_
      refine w_aload_n rfl rfl ?_
      refine w_getfield rfl ((cset_out (Nat.not_le_of_gt h30)).trans hp) rfl ?_
      refine w_iload_n rfl rfl ?_
      refine w_aload_n rfl rfl ?_
      refine w_getfield rfl ((cset_out (Nat.not_le_of_gt h30)).trans hp) rfl ?_
      refine w_iadd rfl ?_
      refine w_cs10 (j := y) rfl hc hr rfl (by omega) ?_
      refine w_aload_n rfl rfl ?_
      refine w_aload_n rfl rfl ?_
      refine w_getfield rfl ((cset_out (Nat.not_le_of_gt h30)).trans hp) rfl ?_
      refine w_hil (j := y) rfl (cs10 hc hr) rfl ⟨show y < 4 from by omega, by decide⟩ ?_
      exact w_ireturn rfl (Or.inl rfl) ⟨by rw [doR, if_neg c11, if_pos c31, up_i], by rw [doV, if_neg c11, if_pos c31]⟩
  · refine w_aload_n rfl rfl ?_
    refine w_aload_n rfl rfl ?_
    refine w_getfield rfl ((cset_out (Nat.not_le_of_gt h30)).trans hp) rfl ?_
    refine w_aload_n rfl rfl ?_
    refine w_getfield rfl ((cset_out (Nat.not_le_of_gt h30)).trans hp) rfl ?_
    refine w_cs10 (j := y) rfl hc hr rfl (by omega) ?_
    refine w_iload_n rfl rfl ?_
    exact w_ireturn rfl (Or.inl rfl) ⟨by rw [doR, if_pos c11], by rw [doV, if_pos c11]⟩
set_option maxRecDepth 100000 in
set_option maxHeartbeats 400000 in
theorem c_doNext {sc : pm_Sc} {cs : List pm_C} {a : MS} {Y : PT} {kn : Nat × Nat} (hc : 73 < cs.length)  {r : Nat} (hr : r < 4) {n : Nat} (hn : a.1 7 r = nI n) (h12 : n < 12) {q p y : Nat} (hq : q < 12) (hY : Y 1 q = some p) (h30 : 30 < p) {o am : Int32} {xs : List Value} (hp : cs[p]? = some (.inr (6, .int o :: .int (nI y) :: .int am :: xs))) (hy : y < 4) : pu sc 43 [.ref (7 + 6 * r), .int (nI q)] (cset cs a Y, kn) (pz none (cset cs (nxtA a r n q y o am) Y, kn)) := by
  refine w_iload_n rfl rfl ?_
  refine w_ifCond_lt rfl rfl (fun c1 => ?_) (fun c1 => ?_)
  · exact absurd c1 (nI_pos (by omega))
  · refine w_iload_n rfl rfl ?_
    refine w_bipush (v := 12) rfl (by decide) ?_
    refine w_if_icmp_ge rfl rfl (fun c7 => ?_) (fun c7 => ?_)
    · exact absurd c7 (nI_ge (a := q) (b := 12) hq (by omega))
    · refine w_aload_n rfl rfl ?_
      refine w_getfield rfl (cs7 hc hr) rfl ?_
      refine w_iload_n rfl rfl ?_
      refine w_hal (j := q) rfl (cs1 hc) ⟨by decide, by decide⟩ rfl ⟨show q < 12 from hq, by decide⟩ hY ?_
      refine w_goto rfl rfl ?_
      refine w_astore_n rfl (Nat.le_of_ble_eq_true rfl) ?_
      refine w_aload_n rfl rfl ?_
      refine w_ifnull rfl rfl ?_
      refine w_aload_n rfl rfl ?_
      refine w_getfield rfl (cs7 hc hr) rfl ?_
      refine w_getfield rfl (cs8 hc hr) rfl ?_
      refine w_bipush (v := 12) rfl (by decide) ?_
      refine w_if_icmp_ge rfl rfl (fun c34 => ?_) (fun c34 => ?_)
      · exact absurd c34 (by rw [hn]; exact nI_ge (a := n) (b := 12) h12 (by omega))
      · refine w_aload_n rfl rfl ?_
        refine w_getfield rfl (cs7 hc hr) rfl ?_
        refine w_aload_n rfl rfl ?_
        refine w_getfield rfl (cs7 hc hr) rfl ?_
        refine w_getfield rfl (cs8 hc hr) rfl ?_
        refine w_aload_n rfl rfl ?_
        refine w_aload_n rfl rfl ?_
        refine w_getfield rfl (cs7 hc hr) rfl ?_
        refine w_virtual rfl rfl ((cset_out (Nat.not_le_of_gt h30)).trans hp) ⟨(Nat.le_of_ble_eq_true rfl), rfl, (Nat.le_of_ble_eq_true rfl), (Nat.le_of_ble_eq_true rfl)⟩ rfl (Nat.le_of_ble_eq_true rfl) (c_doOn hc hr h30 hp hy) ?_
        rintro _ _ ⟨rfl, rfl⟩
        refine ⟨_, rfl, ?_⟩
        refine w_cs11 (j := n) rfl hc hr hn h12 ?_
        refine w_aload_n rfl rfl ?_
        refine w_getfield rfl (cs7 hc hr) rfl ?_
        refine w_iload_n rfl rfl ?_
        refine w_virtual rfl rfl (cs8 hc hr) ⟨(Nat.le_of_ble_eq_true rfl), rfl, (Nat.le_of_ble_eq_true rfl), (Nat.le_of_ble_eq_true rfl)⟩ rfl (Nat.le_of_ble_eq_true rfl) (c_h_add (a := up (up a 51 (4 * r + y) (doV o am (a.1 51 (4 * r + y)))) 52 (12 * r + n) (doR o am (a.1 51 (4 * r + y)))) hc hr (n := n) hn h12 (nI q)) ?_
        rintro _ _ ⟨rfl, rfl⟩
        refine ⟨_, rfl, ?_⟩
        refine w_aload_n rfl rfl ?_
        refine w_dup rfl rfl ?_
        refine w_getfield rfl (cs7 hc hr) rfl ?_
        refine w_iconst (v := 1) rfl (by decide) ?_
        refine w_iload_n rfl rfl ?_
        refine w_ishl rfl ?_
        refine w_iconst (v := (-1)) rfl (by decide) ?_
        refine w_ixor rfl ?_
        refine w_iand rfl ?_
        refine w_cpR (f := 11) rfl hc hr (by decide) rfl ?_
        exact w_return rfl rfl ⟨rfl, rfl⟩
set_option maxRecDepth 100000 in
set_option maxHeartbeats 400000 in
theorem c_reply {sc : pm_Sc} {cs : List pm_C} {a : MS} {Y : PT} {kn : Nat × Nat} (hc : 73 < cs.length)  {r : Nat} (hr : r < 4) {n : Nat} (hn : a.1 7 r = nI n) {p : Nat} (h1 : 1 ≤ p) (h2 : p ≤ n) (h12 : n ≤ 12) {m : Nat} (hm : a.1 17 0 = nI m) (h6 : m ≤ 600) : pu sc 45 [.ref (7 + 6 * r), .int (nI p)] (cset cs a Y, kn) (pz none (hx (rplC (cs, a, Y, kn) r p))) := by
  refine w_iload_n rfl rfl ?_
  refine w_iconst (v := 1) rfl (by decide) ?_
  refine w_if_icmp_lt rfl rfl (fun c2 => ?_) (fun c2 => ?_)
  · exact absurd ((nI_ltI (a := p) (b := 1) (by omega) (by omega)).mp c2) (by omega)
  · refine w_iload_n rfl rfl ?_
    refine w_aload_n rfl rfl ?_
    refine w_getfield rfl (cs7 hc hr) rfl ?_
    refine w_getfield rfl (cs8 hc hr) rfl ?_
    refine w_if_icmp_le rfl rfl (fun c13 => ?_) (fun c13 => ?_)
    · refine w_aload_n rfl rfl ?_
      refine w_getfield rfl (cs7 hc hr) rfl ?_
      refine w_iload_n rfl rfl ?_
      refine w_iconst (v := 1) rfl (by decide) ?_
      refine w_isubN (x := p) (y := 1) rfl rfl rfl (by omega) ?_
      refine w_virtual rfl rfl (cs8 hc hr) ⟨(Nat.le_of_ble_eq_true rfl), rfl, (Nat.le_of_ble_eq_true rfl), (Nat.le_of_ble_eq_true rfl)⟩ rfl (Nat.le_of_ble_eq_true rfl) (c_h_at (hisS hc hr hn h12) (p - 1) (by omega)) ?_
      rintro _ _ ⟨rfl, rfl⟩
      refine ⟨_, rfl, ?_⟩
      rw [if_pos (by omega)]
      refine w_istore_n rfl (Nat.le_of_ble_eq_true rfl) ?_
      refine w_aload_n rfl rfl ?_
      refine w_getfield rfl (cs7 hc hr) rfl ?_
      refine w_iload_n rfl rfl ?_
      refine w_iconst (v := 1) rfl (by decide) ?_
      refine w_isubN (x := p) (y := 1) rfl rfl rfl (by omega) ?_
      refine w_hil (j := (p - 1)) rfl (cs11 hc hr) rfl ⟨show (p - 1) < 12 from by omega, by decide⟩ ?_
      refine w_istore_n rfl (Nat.le_of_ble_eq_true rfl) ?_
      refine w_aload_n rfl rfl ?_
      refine w_getfield rfl (cs7 hc hr) rfl ?_
      refine w_aload_n rfl rfl ?_
      refine w_getfield rfl (cs7 hc hr) rfl ?_
      refine w_iconst (v := 4) rfl (by decide) ?_
      refine w_cnew rfl hc (Nat.le_of_ble_eq_true rfl) ?_
      refine w_dup rfl rfl ?_
      refine w_iconst (v := 2) rfl (by decide) ?_
      refine w_aload_n rfl rfl ?_
      refine w_getfield rfl (cs7 (hcA hc) hr) rfl ?_
      refine w_iload_n rfl rfl ?_
      refine w_iload_n rfl rfl ?_
      refine w_aload_n rfl rfl ?_
      refine w_getfield rfl (cs7 (hcA hc) hr) rfl ?_
      refine w_iload_n rfl rfl ?_
      refine w_virtual rfl rfl (cs8 (hcA hc) hr) ⟨(Nat.le_of_ble_eq_true rfl), rfl, (Nat.le_of_ble_eq_true rfl), (Nat.le_of_ble_eq_true rfl)⟩ rfl (Nat.le_of_ble_eq_true rfl) (c_h_dig (hisS (hcA hc) hr hn h12) p (by omega)) ?_
      rintro _ _ ⟨rfl, rfl⟩
      refine ⟨_, rfl, ?_⟩
      rw [Nat.min_eq_left h2]
      refine w_iload_n rfl rfl ?_
      refine w_aconst_null rfl ?_
      refine w_special rfl (by decide) rfl ⟨(Nat.le_of_ble_eq_true rfl), (Nat.le_of_ble_eq_true rfl), (Nat.le_of_ble_eq_true rfl)⟩ rfl (Nat.le_of_ble_eq_true rfl) (c_let_initN (hcA hc) (hc30 hc) ga_new _ _ _ _ _ _) ?_
      rintro _ _ ⟨rfl, rfl⟩
      refine ⟨_, rfl, ?_⟩
      rw [set_app]
      refine w_virtual rfl rfl (cs2 (hcA hc)) ⟨(Nat.le_of_ble_eq_true rfl), rfl, (Nat.le_of_ble_eq_true rfl), (Nat.le_of_ble_eq_true rfl)⟩ rfl (Nat.le_of_ble_eq_true rfl) (c_send (addC (cs, a, Y, kn) (rplL (cs, a, Y, kn) r p) 7) (hcA hc) (nI r) 4 cs.length hm h6) ?_
      rintro _ _ ⟨rfl, rfl⟩
      refine ⟨_, rfl, ?_⟩
      exact w_return rfl rfl ⟨rfl, rfl⟩
    · exact absurd (by rw [hn]; exact nI_le h2 (by omega)) c13
set_option maxRecDepth 100000 in
set_option maxHeartbeats 400000 in
theorem c_orderOf {sc : pm_Sc} {cs : List pm_C} {a : MS} {Y : PT} {kn : Nat × Nat} (hc : 73 < cs.length)  {r : Nat} (hr : r < 4) {n : Nat} (hn : a.1 7 r = nI n) {p : Nat} (h1 : 1 ≤ p) (h2 : p ≤ n) (h12 : n ≤ 12)  : pu sc 44 [.ref (7 + 6 * r), .int (nI p)] (cset cs a Y, kn) (pz (some (.ref cs.length)) (hx (addC (cs, a, Y, kn) (ordL (cs, a, Y, kn) r p) 7))) := by
  refine w_cnew rfl hc (Nat.le_of_ble_eq_true rfl) ?_
  refine w_dup rfl rfl ?_
  refine w_iconst (v := 1) rfl (by decide) ?_
  refine w_aload_n rfl rfl ?_
  refine w_getfield rfl (cs7 (hcA hc) hr) rfl ?_
  refine w_aload_n rfl rfl ?_
  refine w_getfield rfl (cs7 (hcA hc) hr) rfl ?_
  refine w_iload_n rfl rfl ?_
  refine w_iconst (v := 1) rfl (by decide) ?_
  refine w_isubN (x := p) (y := 1) rfl rfl rfl (by omega) ?_
  refine w_virtual rfl rfl (cs8 (hcA hc) hr) ⟨(Nat.le_of_ble_eq_true rfl), rfl, (Nat.le_of_ble_eq_true rfl), (Nat.le_of_ble_eq_true rfl)⟩ rfl (Nat.le_of_ble_eq_true rfl) (c_h_at (hisS (hcA hc) hr hn h12) (p - 1) (by omega)) ?_
  rintro _ _ ⟨rfl, rfl⟩
  refine ⟨_, rfl, ?_⟩
  rw [if_pos (by omega)]
  refine w_iload_n rfl rfl ?_
  refine w_aload_n rfl rfl ?_
  refine w_getfield rfl (cs7 (hcA hc) hr) rfl ?_
  refine w_iload_n rfl rfl ?_
  refine w_virtual rfl rfl (cs8 (hcA hc) hr) ⟨(Nat.le_of_ble_eq_true rfl), rfl, (Nat.le_of_ble_eq_true rfl), (Nat.le_of_ble_eq_true rfl)⟩ rfl (Nat.le_of_ble_eq_true rfl) (c_h_dig (hisS (hcA hc) hr hn h12) p (by omega)) ?_
  rintro _ _ ⟨rfl, rfl⟩
  refine ⟨_, rfl, ?_⟩
  rw [Nat.min_eq_left h2]
  refine w_iconst (v := 0) rfl (by decide) ?_
  refine w_aconst_null rfl ?_
  refine w_special rfl (by decide) rfl ⟨(Nat.le_of_ble_eq_true rfl), (Nat.le_of_ble_eq_true rfl), (Nat.le_of_ble_eq_true rfl)⟩ rfl (Nat.le_of_ble_eq_true rfl) (c_let_initN (hcA hc) (hc30 hc) ga_new _ _ _ _ _ _) ?_
  rintro _ _ ⟨rfl, rfl⟩
  refine ⟨_, rfl, ?_⟩
  rw [set_app]
  exact w_areturn rfl rfl ⟨rfl, rfl⟩
def fitL (a : MS) (r n : Nat) (q : Int32) : pm_C := letC 1 (a.1 6 r) q (nI (n + 1)) (31 * dgG (fun b => a.1 50 (12 * r + b)) n + q + 1) 0 none
set_option maxRecDepth 100000 in
set_option maxHeartbeats 400000 in
theorem c_fit {sc : pm_Sc} {cs : List pm_C} {a : MS} {Y : PT} {kn : Nat × Nat} (hc : 73 < cs.length)  {r : Nat} (hr : r < 4) {n : Nat} (hn : a.1 7 r = nI n) (h12 : n ≤ 12) (q : Int32) : pu sc 26 [.ref (7 + 6 * r), .int q] (cset cs a Y, kn) (pz (some (.ref cs.length)) (hx (addC (cs, a, Y, kn) (fitL a r n q) 7))) := by
  refine w_aload_n rfl rfl ?_
  refine w_getfield rfl (cs7 hc hr) rfl ?_
  refine w_aload_n rfl rfl ?_
  refine w_getfield rfl (cs7 hc hr) rfl ?_
  refine w_getfield rfl (cs8 hc hr) rfl ?_
  rw [hn]
  refine w_virtual rfl rfl (cs8 hc hr) ⟨(Nat.le_of_ble_eq_true rfl), rfl, (Nat.le_of_ble_eq_true rfl), (Nat.le_of_ble_eq_true rfl)⟩ rfl (Nat.le_of_ble_eq_true rfl) (c_h_dig (hisS hc hr hn h12) n (by omega)) ?_
  rintro _ _ ⟨rfl, rfl⟩
  refine ⟨_, rfl, ?_⟩
  rw [Nat.min_self]
  refine w_iload_n rfl rfl ?_
  refine w_static rfl (by decide) rfl ⟨(Nat.le_of_ble_eq_true rfl), (Nat.le_of_ble_eq_true rfl), (Nat.le_of_ble_eq_true rfl)⟩ rfl (Nat.le_of_ble_eq_true rfl) (c_dw _ _) ?_
  rintro _ _ ⟨rfl, rfl⟩
  refine ⟨_, rfl, ?_⟩
  refine w_istore_n rfl (Nat.le_of_ble_eq_true rfl) ?_
  refine w_cnew rfl hc (Nat.le_of_ble_eq_true rfl) ?_
  refine w_dup rfl rfl ?_
  refine w_iconst (v := 1) rfl (by decide) ?_
  refine w_aload_n rfl rfl ?_
  refine w_getfield rfl (cs7 (hcA hc) hr) rfl ?_
  refine w_iload_n rfl rfl ?_
  refine w_aload_n rfl rfl ?_
  refine w_getfield rfl (cs7 (hcA hc) hr) rfl ?_
  refine w_getfield rfl (cs8 (hcA hc) hr) rfl ?_
  refine w_iconst (v := 1) rfl (by decide) ?_
  refine w_iaddN (x := n) (y := 1) rfl hn rfl ?_
  refine w_iload_n rfl rfl ?_
  refine w_iconst (v := 0) rfl (by decide) ?_
  refine w_aconst_null rfl ?_
  refine w_special rfl (by decide) rfl ⟨(Nat.le_of_ble_eq_true rfl), (Nat.le_of_ble_eq_true rfl), (Nat.le_of_ble_eq_true rfl)⟩ rfl (Nat.le_of_ble_eq_true rfl) (c_let_initN (hcA hc) (hc30 hc) ga_new _ _ _ _ _ _) ?_
  rintro _ _ ⟨rfl, rfl⟩
  refine ⟨_, rfl, ?_⟩
  rw [set_app]
  exact w_areturn rfl rfl ⟨rfl, rfl⟩
theorem cpy0 {g : Nat → Int32} {n : Nat} (hn : n ≤ 12) : pm_cpy ((List.range 12).map fun b => Value.int (g b)) ((List.range 12).map fun _ => Value.int 0) 0 0 n = (List.range 12).map fun b => Value.int (if b < n then g b else 0) := by
  unfold pm_cpy
  rw [List.length_map, List.length_range]
  apply List.map_congr_left
  intro k hk
  have hk : k < 12 := by simpa using hk
  by_cases e : k < n
  · rw [if_pos ⟨by omega, by omega⟩, if_pos e]
    rw [show 0 + (k - 0) = k by omega, List.getD_eq_getElem?_getD, get_rm hk]; rfl
  · rw [if_neg (by omega), if_neg e, List.getD_eq_getElem?_getD, get_rm hk]; rfl
set_option maxRecDepth 100000 in
set_option maxHeartbeats 400000 in
theorem c_copy {sc : pm_Sc} {cs : List pm_C} {a : MS} {Y : PT} {kn : Nat × Nat} (hc : 73 < cs.length)  {r : Nat} (hr : r < 4) {n : Nat} (hn : a.1 7 r = nI n) (h12 : n ≤ 12) : pu sc 13 [.ref (8 + 6 * r)] (cset cs a Y, kn) (pz (some (.ref cs.length)) (cset (mgC cs n (a.1 9 r) (fun b => if b < n then a.1 50 (12 * r + b) else 0)) a Y, kn.1 + 2, kn.2 + 15)) := by
  refine w_cnew rfl hc (Nat.le_of_ble_eq_true rfl) ?_
  refine w_dup rfl rfl ?_
  refine w_special rfl (by decide) rfl ⟨(Nat.le_of_ble_eq_true rfl), (Nat.le_of_ble_eq_true rfl), (Nat.le_of_ble_eq_true rfl)⟩ rfl (Nat.le_of_ble_eq_true rfl) (c_his_init (hcA hc) (hc30 hc) ga_new) ?_
  rintro _ _ ⟨rfl, rfl⟩
  refine ⟨_, rfl, ?_⟩
  rw [set_app2, List.length_append]
  show pw sc 13 (_, _, _, (cset (mgC cs 0 0 (fun _ => 0)) a Y, kn.1 + 2, kn.2 + 15)) _
  refine w_astore_n rfl (Nat.le_of_ble_eq_true rfl) ?_
  refine w_aload_n rfl rfl ?_
  refine w_getfield rfl (cs8 (mg_hc hc) hr) rfl ?_
  refine w_iconst (v := 0) rfl (by decide) ?_
  refine w_aload_n rfl rfl ?_
  refine w_getfield rfl ((cset_out (Nat.not_le_of_gt (hc30 hc))).trans mg_o) rfl ?_
  refine w_iconst (v := 0) rfl (by decide) ?_
  refine w_aload_n rfl rfl ?_
  refine w_getfield rfl (cs8 (mg_hc hc) hr) rfl ?_
  refine w_copy rfl (cs9 (mg_hc hc) hr) ((cset_out (Nat.not_le_of_gt (Nat.lt_succ_of_lt (hc30 hc)))).trans mg_r) ⟨(Nat.le_of_ble_eq_true rfl), (Nat.le_of_ble_eq_true rfl), by decide, by decide, by rw [hn]; exact nI_pos (by omega), by rw [hn, nI_clamp (by omega), List.length_map, List.length_range]; exact Nat.le_trans (Nat.le_of_eq (Nat.zero_add n)) h12, by rw [hn, nI_clamp (by omega), List.length_map, List.length_range]; exact Nat.le_trans (Nat.le_of_eq (Nat.zero_add n)) h12⟩ ?_
  rw [hn, nI_clamp (by omega)]
  show pw sc 13 (_, _, _, ((cset (mgC cs 0 0 (fun _ => 0)) a Y).set (cs.length + 1) (.inl (0, pm_cpy _ _ 0 0 n)), _)) _
  rw [cpy0 h12, cset_set (mg_hc hc) (Nat.lt_succ_of_lt (hc30 hc)), mg_sr]
  refine w_aload_n rfl rfl ?_
  refine w_aload_n rfl rfl ?_
  refine w_getfield rfl (cs8 (mg_hc hc) hr) rfl ?_
  rw [hn]
  refine w_dp rfl (mg_hc hc) ⟨hc30 hc, mg_o⟩ (Nat.le_of_ble_eq_true rfl) rfl ?_
  show pw sc 13 (_, _, _, (cset ((mgC cs 0 0 _).set cs.length (.inr (1, [.ref (cs.length + 1), .int (nI n), .int 0]))) a Y, _)) _
  rw [mg_so]
  refine w_aload_n rfl rfl ?_
  refine w_aload_n rfl rfl ?_
  refine w_getfield rfl (cs8 (mg_hc hc) hr) rfl ?_
  refine w_dp rfl (mg_hc hc) ⟨hc30 hc, mg_o⟩ (Nat.le_of_ble_eq_true rfl) rfl ?_
  show pw sc 13 (_, _, _, (cset ((mgC cs n 0 _).set cs.length (.inr (1, [.ref (cs.length + 1), .int (nI n), .int (a.1 9 r)]))) a Y, _)) _
  rw [mg_so]
  refine w_aload_n rfl rfl ?_
  exact w_areturn rfl rfl ⟨rfl, rfl⟩
