-- deps: 42.c2
/-! letters, messages, the post -/
theorem set_app {cs : List pm_C} {x z : pm_C} : (cs ++ [x]).set cs.length z = cs ++ [z] := by
  rw [List.set_append_right _ _ (Nat.le_refl _), Nat.sub_self]; rfl
theorem set_app2 {cs : List pm_C} {x y z : pm_C} : (cs ++ [x] ++ [y]).set cs.length z = cs ++ [z] ++ [y] := by
  rw [List.set_append_left _ _ (by rw [List.length_append]; exact Nat.lt_succ_self _), set_app]
theorem set_lt {cs : List pm_C} {x z : pm_C} {p : Nat} (h : p < cs.length) : (cs ++ [x]).set p z = cs.set p z ++ [x] := List.set_append_left _ _ h
theorem w_cnarr {sc : pm_Sc} {i pc : Nat} {lv : pm_L} {st : List Value} {kn : Nat × Nat} {cs : List pm_C} {a : MS} {Y : PT} {Q : (Option Value ⊕ Nat) → pm_H → Prop} {at' : ArrayType} {t len m : Nat} {n : Int32} (ha : pm_at i pc = some (.newarray at', len, [t])) (hc : 73 < cs.length) (hn : ((at' = .int ∧ t = 0) ∨ (at' = .long ∧ t = 1) ∨ (at' = .boolean ∧ t = 2)) ∧ ¬ n < 0 ∧ n.toNatClampNeg ≤ 1000) (hm : n.toNatClampNeg = m) (kk : pw sc i (pc + 2, lv, .ref cs.length :: st, (cset (cs ++ [.inl (t, List.replicate m (pm_dv t))]) a Y, kn.1 + 1, kn.2 + m)) Q) : pw sc i (pc, lv, .int n :: st, (cset cs a Y, kn)) Q := by
  subst hm
  refine w_newarray ha hn ?_
  show pw sc i (pc + 2, lv, .ref (cset cs a Y).length :: st, (cset cs a Y ++ [_], kn.1 + 1, kn.2 + _)) Q
  rw [cset_length, cset_app hc]; exact kk
theorem w_canarr {sc : pm_Sc} {i pc : Nat} {lv : pm_L} {st : List Value} {kn : Nat × Nat} {cs : List pm_C} {a : MS} {Y : PT} {Q : (Option Value ⊕ Nat) → pm_H → Prop} {l t len m : Nat} {n : Int32} (ha : pm_at i pc = some (.anewarray l, len, [t])) (hc : 73 < cs.length) (hn : 3 ≤ t ∧ t ≤ 6 ∧ ¬ n < 0 ∧ n.toNatClampNeg ≤ 1000) (hm : n.toNatClampNeg = m) (kk : pw sc i (pc + 3, lv, .ref cs.length :: st, (cset (cs ++ [.inl (t, List.replicate m .null)]) a Y, kn.1 + 1, kn.2 + m)) Q) : pw sc i (pc, lv, .int n :: st, (cset cs a Y, kn)) Q := by
  subst hm
  refine w_anewarray ha hn ?_
  show pw sc i (pc + 3, lv, .ref (cset cs a Y).length :: st, (cset cs a Y ++ [_], kn.1 + 1, kn.2 + _)) Q
  rw [cset_length, cset_app hc]; exact kk
def zrow : pm_C := .inl (0, (List.range 12).map fun _ => Value.int 0)
set_option maxRecDepth 100000 in
set_option maxHeartbeats 400000 in
theorem c_let_initN {sc : pm_Sc} {cs : List pm_C} {a : MS} {Y : PT} {kn : Nat × Nat} (hc : 73 < cs.length) {p : Nat} (h30 : 30 < p) (hp : cs[p]? = some (.inr (2, pm_df 2))) (k v q l d e : Int32) : pu sc 15 [.ref p, .int k, .int v, .int q, .int l, .int d, .int e, .null] (cset cs a Y, kn) (pz none (cset (cs.set p (.inr (2, [.int k, .int v, .int q, .int l, .int d, .int e, .null]))) a Y, kn)) := by
  refine w_aload_n rfl rfl ?_
  refine w_objinit rfl ⟨(Nat.le_of_ble_eq_true rfl), (Nat.le_of_ble_eq_true rfl)⟩ ?_
  refine w_aload_n rfl rfl ?_
  refine w_iload_n rfl rfl ?_
  refine w_dp rfl hc ⟨h30, hp⟩ (Nat.le_of_ble_eq_true rfl) rfl ?_
  refine w_aload_n rfl rfl ?_
  refine w_iload_n rfl rfl ?_
  refine w_dp rfl (hcS hc) ⟨h30, (gs_self hp)⟩ (Nat.le_of_ble_eq_true rfl) rfl ?_
  refine w_aload_n rfl rfl ?_
  refine w_iload_n rfl rfl ?_
  refine w_dp rfl (hcS (hcS hc)) ⟨h30, (gs_self (gs_self hp))⟩ (Nat.le_of_ble_eq_true rfl) rfl ?_
  refine w_aload_n rfl rfl ?_
  refine w_iload rfl rfl ?_
  refine w_dp rfl (hcS (hcS (hcS hc))) ⟨h30, (gs_self (gs_self (gs_self hp)))⟩ (Nat.le_of_ble_eq_true rfl) rfl ?_
  refine w_aload_n rfl rfl ?_
  refine w_iload rfl rfl ?_
  refine w_dp rfl (hcS (hcS (hcS (hcS hc)))) ⟨h30, (gs_self (gs_self (gs_self (gs_self hp))))⟩ (Nat.le_of_ble_eq_true rfl) rfl ?_
  refine w_aload_n rfl rfl ?_
  refine w_iload rfl rfl ?_
  refine w_dp rfl (hcS (hcS (hcS (hcS (hcS hc))))) ⟨h30, (gs_self (gs_self (gs_self (gs_self (gs_self hp)))))⟩ (Nat.le_of_ble_eq_true rfl) rfl ?_
  refine w_aload_n rfl rfl ?_
  refine w_aloadN rfl rfl ?_
  refine w_dp rfl (hcS (hcS (hcS (hcS (hcS (hcS hc)))))) ⟨h30, (gs_self (gs_self (gs_self (gs_self (gs_self (gs_self hp))))))⟩ (Nat.le_of_ble_eq_true rfl) rfl ?_
  exact w_return rfl rfl ⟨rfl, by rw [List.set_set, List.set_set, List.set_set, List.set_set, List.set_set, List.set_set]; rfl⟩
set_option maxRecDepth 100000 in
set_option maxHeartbeats 400000 in
theorem c_let_initR {sc : pm_Sc} {cs : List pm_C} {a : MS} {Y : PT} {kn : Nat × Nat} (hc : 73 < cs.length) {p : Nat} (h30 : 30 < p) (hp : cs[p]? = some (.inr (2, pm_df 2))) (k v q l d e : Int32) (y : Nat) : pu sc 15 [.ref p, .int k, .int v, .int q, .int l, .int d, .int e, .ref y] (cset cs a Y, kn) (pz none (cset (cs.set p (.inr (2, [.int k, .int v, .int q, .int l, .int d, .int e, .ref y]))) a Y, kn)) := by
  refine w_aload_n rfl rfl ?_
  refine w_objinit rfl ⟨(Nat.le_of_ble_eq_true rfl), (Nat.le_of_ble_eq_true rfl)⟩ ?_
  refine w_aload_n rfl rfl ?_
  refine w_iload_n rfl rfl ?_
  refine w_dp rfl hc ⟨h30, hp⟩ (Nat.le_of_ble_eq_true rfl) rfl ?_
  refine w_aload_n rfl rfl ?_
  refine w_iload_n rfl rfl ?_
  refine w_dp rfl (hcS hc) ⟨h30, (gs_self hp)⟩ (Nat.le_of_ble_eq_true rfl) rfl ?_
  refine w_aload_n rfl rfl ?_
  refine w_iload_n rfl rfl ?_
  refine w_dp rfl (hcS (hcS hc)) ⟨h30, (gs_self (gs_self hp))⟩ (Nat.le_of_ble_eq_true rfl) rfl ?_
  refine w_aload_n rfl rfl ?_
  refine w_iload rfl rfl ?_
  refine w_dp rfl (hcS (hcS (hcS hc))) ⟨h30, (gs_self (gs_self (gs_self hp)))⟩ (Nat.le_of_ble_eq_true rfl) rfl ?_
  refine w_aload_n rfl rfl ?_
  refine w_iload rfl rfl ?_
  refine w_dp rfl (hcS (hcS (hcS (hcS hc)))) ⟨h30, (gs_self (gs_self (gs_self (gs_self hp))))⟩ (Nat.le_of_ble_eq_true rfl) rfl ?_
  refine w_aload_n rfl rfl ?_
  refine w_iload rfl rfl ?_
  refine w_dp rfl (hcS (hcS (hcS (hcS (hcS hc))))) ⟨h30, (gs_self (gs_self (gs_self (gs_self (gs_self hp)))))⟩ (Nat.le_of_ble_eq_true rfl) rfl ?_
  refine w_aload_n rfl rfl ?_
  refine w_aload rfl rfl ?_
  refine w_dp rfl (hcS (hcS (hcS (hcS (hcS (hcS hc)))))) ⟨h30, (gs_self (gs_self (gs_self (gs_self (gs_self (gs_self hp))))))⟩ (Nat.le_of_ble_eq_true rfl) rfl ?_
  exact w_return rfl rfl ⟨rfl, by rw [List.set_set, List.set_set, List.set_set, List.set_set, List.set_set, List.set_set]; rfl⟩
set_option maxRecDepth 100000 in
set_option maxHeartbeats 400000 in
theorem c_msg_init {sc : pm_Sc} {cs : List pm_C} {a : MS} {Y : PT} {kn : Nat × Nat} (hc : 73 < cs.length) {p : Nat} (h30 : 30 < p) (hp : cs[p]? = some (.inr (3, pm_df 3))) (fr to : Int32) (l : Nat) : pu sc 18 [.ref p, .int fr, .int to, .ref l] (cset cs a Y, kn) (pz none (cset (cs.set p (.inr (3, [.int fr, .int to, .ref l, .int 0]))) a Y, kn)) := by
  refine w_aload_n rfl rfl ?_
  refine w_objinit rfl ⟨(Nat.le_of_ble_eq_true rfl), (Nat.le_of_ble_eq_true rfl)⟩ ?_
  refine w_aload_n rfl rfl ?_
  refine w_iconst (v := 0) rfl (by decide) ?_
  refine w_dp rfl hc ⟨h30, hp⟩ (Nat.le_of_ble_eq_true rfl) rfl ?_
  refine w_aload_n rfl rfl ?_
  refine w_iload_n rfl rfl ?_
  refine w_dp rfl (hcS hc) ⟨h30, (gs_self hp)⟩ (Nat.le_of_ble_eq_true rfl) rfl ?_
  refine w_aload_n rfl rfl ?_
  refine w_iload_n rfl rfl ?_
  refine w_dp rfl (hcS (hcS hc)) ⟨h30, (gs_self (gs_self hp))⟩ (Nat.le_of_ble_eq_true rfl) rfl ?_
  refine w_aload_n rfl rfl ?_
  refine w_aload_n rfl rfl ?_
  refine w_dp rfl (hcS (hcS (hcS hc))) ⟨h30, (gs_self (gs_self (gs_self hp)))⟩ (Nat.le_of_ble_eq_true rfl) rfl ?_
  exact w_return rfl rfl ⟨rfl, by rw [List.set_set, List.set_set, List.set_set]; rfl⟩
set_option maxRecDepth 100000 in
set_option maxHeartbeats 400000 in
theorem c_his_init {sc : pm_Sc} {cs : List pm_C} {a : MS} {Y : PT} {kn : Nat × Nat} (hc : 73 < cs.length) {p : Nat} (h30 : 30 < p) (hp : cs[p]? = some (.inr (1, pm_df 1))) : pu sc 7 [.ref p] (cset cs a Y, kn) (pz none (cset ((cs ++ [zrow]).set p (.inr (1, [.ref cs.length, .int 0, .int 0]))) a Y, kn.1 + 1, kn.2 + 12)) := by
  refine w_aload_n rfl rfl ?_
  refine w_objinit rfl ⟨(Nat.le_of_ble_eq_true rfl), (Nat.le_of_ble_eq_true rfl)⟩ ?_
  refine w_aload_n rfl rfl ?_
  refine w_bipush (v := 12) rfl (by decide) ?_
  refine w_cnarr (m := 12) rfl hc (by decide) (by decide) ?_
  refine w_dp rfl (hcA hc) ⟨h30, (ga_old hp)⟩ (Nat.le_of_ble_eq_true rfl) rfl ?_
  refine w_aload_n rfl rfl ?_
  refine w_iconst (v := 0) rfl (by decide) ?_
  refine w_dp rfl (hcS (hcA hc)) ⟨h30, (gs_self (ga_old hp))⟩ (Nat.le_of_ble_eq_true rfl) rfl ?_
  refine w_aload_n rfl rfl ?_
  refine w_iconst (v := 0) rfl (by decide) ?_
  refine w_dp rfl (hcS (hcS (hcA hc))) ⟨h30, (gs_self (gs_self (ga_old hp)))⟩ (Nat.le_of_ble_eq_true rfl) rfl ?_
  exact w_return rfl rfl ⟨rfl, by rw [List.set_set, List.set_set]; rfl⟩
set_option maxRecDepth 100000 in
set_option maxHeartbeats 400000 in
theorem c_spt {sc : pm_Sc} {h : pm_H} {p q : Nat} {k v r l d e k2 v2 r2 l2 d2 e2 : Int32} {y y2 : Value} (hp : h.1[p]? = some (.inr (2, [.int k, .int v, .int r, .int l, .int d, .int e, y]))) (hq : h.1[q]? = some (.inr (2, [.int k2, .int v2, .int r2, .int l2, .int d2, .int e2, y2]))) : pu sc 16 [.ref p, .ref q] h (pz (some (.int (b01 (v = v2 ∧ l = l2 ∧ d = d2)))) h) := by
  refine w_aload_n rfl rfl ?_
  refine w_getfield rfl hp rfl ?_
  refine w_aload_n rfl rfl ?_
  refine w_getfield rfl hq rfl ?_
  refine w_if_icmp_ne rfl rfl (fun c8 => ?_) (fun c8 => ?_)
  · refine w_iconst (v := 0) rfl (by decide) ?_
    exact w_ireturn rfl (by first | exact Or.inl rfl | exact Or.inr ⟨rfl, Or.inl rfl⟩ | exact Or.inr ⟨rfl, Or.inr rfl⟩ | exact Or.inr ⟨rfl, by assumption⟩) ⟨(by first | (simp only [b01, c8, if_true, if_false, and_true, true_and, and_false, false_and, or_true, true_or, or_false, false_or, not_true_eq_false, not_false_eq_true, ite_self]; done) | (simp only [b01, c8, if_true, if_false, and_true, true_and, and_false, false_and, or_true, true_or, or_false, false_or, not_true_eq_false, not_false_eq_true, ite_self]; rfl) | rfl), (by first | (simp only [b01, c8, if_true, if_false, and_true, true_and, and_false, false_and, or_true, true_or, or_false, false_or, not_true_eq_false, not_false_eq_true, ite_self]; done) | (simp only [b01, c8, if_true, if_false, and_true, true_and, and_false, false_and, or_true, true_or, or_false, false_or, not_true_eq_false, not_false_eq_true, ite_self]; rfl) | rfl)⟩
  · refine w_aload_n rfl rfl ?_
    refine w_getfield rfl hp rfl ?_
    refine w_aload_n rfl rfl ?_
    refine w_getfield rfl hq rfl ?_
    refine w_if_icmp_ne rfl rfl (fun c19 => ?_) (fun c19 => ?_)
    · refine w_iconst (v := 0) rfl (by decide) ?_
      exact w_ireturn rfl (by first | exact Or.inl rfl | exact Or.inr ⟨rfl, Or.inl rfl⟩ | exact Or.inr ⟨rfl, Or.inr rfl⟩ | exact Or.inr ⟨rfl, by assumption⟩) ⟨(by first | (simp only [b01, (eq_true c8), c19, if_true, if_false, and_true, true_and, and_false, false_and, or_true, true_or, or_false, false_or, not_true_eq_false, not_false_eq_true, ite_self]; done) | (simp only [b01, (eq_true c8), c19, if_true, if_false, and_true, true_and, and_false, false_and, or_true, true_or, or_false, false_or, not_true_eq_false, not_false_eq_true, ite_self]; rfl) | rfl), (by first | (simp only [b01, (eq_true c8), c19, if_true, if_false, and_true, true_and, and_false, false_and, or_true, true_or, or_false, false_or, not_true_eq_false, not_false_eq_true, ite_self]; done) | (simp only [b01, (eq_true c8), c19, if_true, if_false, and_true, true_and, and_false, false_and, or_true, true_or, or_false, false_or, not_true_eq_false, not_false_eq_true, ite_self]; rfl) | rfl)⟩
    · refine w_aload_n rfl rfl ?_
      refine w_getfield rfl hp rfl ?_
      refine w_aload_n rfl rfl ?_
      refine w_getfield rfl hq rfl ?_
      refine w_if_icmp_ne rfl rfl (fun c30 => ?_) (fun c30 => ?_)
      · refine w_iconst (v := 0) rfl (by decide) ?_
        exact w_ireturn rfl (by first | exact Or.inl rfl | exact Or.inr ⟨rfl, Or.inl rfl⟩ | exact Or.inr ⟨rfl, Or.inr rfl⟩ | exact Or.inr ⟨rfl, by assumption⟩) ⟨(by first | (simp only [b01, (eq_true c8), (eq_true c19), c30, if_true, if_false, and_true, true_and, and_false, false_and, or_true, true_or, or_false, false_or, not_true_eq_false, not_false_eq_true, ite_self]; done) | (simp only [b01, (eq_true c8), (eq_true c19), c30, if_true, if_false, and_true, true_and, and_false, false_and, or_true, true_or, or_false, false_or, not_true_eq_false, not_false_eq_true, ite_self]; rfl) | rfl), (by first | (simp only [b01, (eq_true c8), (eq_true c19), c30, if_true, if_false, and_true, true_and, and_false, false_and, or_true, true_or, or_false, false_or, not_true_eq_false, not_false_eq_true, ite_self]; done) | (simp only [b01, (eq_true c8), (eq_true c19), c30, if_true, if_false, and_true, true_and, and_false, false_and, or_true, true_or, or_false, false_or, not_true_eq_false, not_false_eq_true, ite_self]; rfl) | rfl)⟩
      · refine w_iconst (v := 1) rfl (by decide) ?_
        refine w_goto rfl rfl ?_
        exact w_ireturn rfl (by first | exact Or.inl rfl | exact Or.inr ⟨rfl, Or.inl rfl⟩ | exact Or.inr ⟨rfl, Or.inr rfl⟩ | exact Or.inr ⟨rfl, by assumption⟩) ⟨(by first | (simp only [b01, (eq_true c8), (eq_true c19), (eq_true c30), if_true, if_false, and_true, true_and, and_false, false_and, or_true, true_or, or_false, false_or, not_true_eq_false, not_false_eq_true, ite_self]; done) | (simp only [b01, (eq_true c8), (eq_true c19), (eq_true c30), if_true, if_false, and_true, true_and, and_false, false_and, or_true, true_or, or_false, false_or, not_true_eq_false, not_false_eq_true, ite_self]; rfl) | rfl), (by first | (simp only [b01, (eq_true c8), (eq_true c19), (eq_true c30), if_true, if_false, and_true, true_and, and_false, false_and, or_true, true_or, or_false, false_or, not_true_eq_false, not_false_eq_true, ite_self]; done) | (simp only [b01, (eq_true c8), (eq_true c19), (eq_true c30), if_true, if_false, and_true, true_and, and_false, false_and, or_true, true_or, or_false, false_or, not_true_eq_false, not_false_eq_true, ite_self]; rfl) | rfl)⟩
set_option maxRecDepth 100000 in
set_option maxHeartbeats 400000 in
theorem c_srp {sc : pm_Sc} {h : pm_H} {p q : Nat} {k v r l d e k2 v2 r2 l2 d2 e2 : Int32} {y y2 : Value} (hp : h.1[p]? = some (.inr (2, [.int k, .int v, .int r, .int l, .int d, .int e, y]))) (hq : h.1[q]? = some (.inr (2, [.int k2, .int v2, .int r2, .int l2, .int d2, .int e2, y2]))) : pu sc 17 [.ref p, .ref q] h (pz (some (.int (b01 ((v = v2 ∧ l = l2 ∧ d = d2) ∧ r = r2 ∧ e = e2)))) h) := by
  refine w_aload_n rfl rfl ?_
  refine w_aload_n rfl rfl ?_
  refine w_virtual rfl rfl hp ⟨(Nat.le_of_ble_eq_true rfl), rfl, (Nat.le_of_ble_eq_true rfl), (Nat.le_of_ble_eq_true rfl)⟩ rfl (Nat.le_of_ble_eq_true rfl) (c_spt hp hq) ?_
  rintro _ _ ⟨rfl, rfl⟩
  refine ⟨_, rfl, ?_⟩
  refine w_ifCond_eq rfl rfl (fun c5 => ?_) (fun c5 => ?_)
  · replace c5 := b01_f c5
    refine w_iconst (v := 0) rfl (by decide) ?_
    exact w_ireturn rfl (by first | exact Or.inl rfl | exact Or.inr ⟨rfl, Or.inl rfl⟩ | exact Or.inr ⟨rfl, Or.inr rfl⟩ | exact Or.inr ⟨rfl, by assumption⟩) ⟨(by first | (simp only [b01, c5, if_true, if_false, and_true, true_and, and_false, false_and, or_true, true_or, or_false, false_or, not_true_eq_false, not_false_eq_true, ite_self]; done) | (simp only [b01, c5, if_true, if_false, and_true, true_and, and_false, false_and, or_true, true_or, or_false, false_or, not_true_eq_false, not_false_eq_true, ite_self]; rfl) | rfl), (by first | (simp only [b01, c5, if_true, if_false, and_true, true_and, and_false, false_and, or_true, true_or, or_false, false_or, not_true_eq_false, not_false_eq_true, ite_self]; done) | (simp only [b01, c5, if_true, if_false, and_true, true_and, and_false, false_and, or_true, true_or, or_false, false_or, not_true_eq_false, not_false_eq_true, ite_self]; rfl) | rfl)⟩
  · replace c5 := b01_t c5
    refine w_aload_n rfl rfl ?_
    refine w_getfield rfl hp rfl ?_
    refine w_aload_n rfl rfl ?_
    refine w_getfield rfl hq rfl ?_
    refine w_if_icmp_ne rfl rfl (fun c16 => ?_) (fun c16 => ?_)
    · refine w_iconst (v := 0) rfl (by decide) ?_
      exact w_ireturn rfl (by first | exact Or.inl rfl | exact Or.inr ⟨rfl, Or.inl rfl⟩ | exact Or.inr ⟨rfl, Or.inr rfl⟩ | exact Or.inr ⟨rfl, by assumption⟩) ⟨(by first | (simp only [b01, c5, c16, if_true, if_false, and_true, true_and, and_false, false_and, or_true, true_or, or_false, false_or, not_true_eq_false, not_false_eq_true, ite_self]; done) | (simp only [b01, c5, c16, if_true, if_false, and_true, true_and, and_false, false_and, or_true, true_or, or_false, false_or, not_true_eq_false, not_false_eq_true, ite_self]; rfl) | rfl), (by first | (simp only [b01, c5, c16, if_true, if_false, and_true, true_and, and_false, false_and, or_true, true_or, or_false, false_or, not_true_eq_false, not_false_eq_true, ite_self]; done) | (simp only [b01, c5, c16, if_true, if_false, and_true, true_and, and_false, false_and, or_true, true_or, or_false, false_or, not_true_eq_false, not_false_eq_true, ite_self]; rfl) | rfl)⟩
    · refine w_aload_n rfl rfl ?_
      refine w_getfield rfl hp rfl ?_
      refine w_aload_n rfl rfl ?_
      refine w_getfield rfl hq rfl ?_
      refine w_if_icmp_ne rfl rfl (fun c27 => ?_) (fun c27 => ?_)
      · refine w_iconst (v := 0) rfl (by decide) ?_
        exact w_ireturn rfl (by first | exact Or.inl rfl | exact Or.inr ⟨rfl, Or.inl rfl⟩ | exact Or.inr ⟨rfl, Or.inr rfl⟩ | exact Or.inr ⟨rfl, by assumption⟩) ⟨(by first | (simp only [b01, c5, (eq_true c16), c27, if_true, if_false, and_true, true_and, and_false, false_and, or_true, true_or, or_false, false_or, not_true_eq_false, not_false_eq_true, ite_self]; done) | (simp only [b01, c5, (eq_true c16), c27, if_true, if_false, and_true, true_and, and_false, false_and, or_true, true_or, or_false, false_or, not_true_eq_false, not_false_eq_true, ite_self]; rfl) | rfl), (by first | (simp only [b01, c5, (eq_true c16), c27, if_true, if_false, and_true, true_and, and_false, false_and, or_true, true_or, or_false, false_or, not_true_eq_false, not_false_eq_true, ite_self]; done) | (simp only [b01, c5, (eq_true c16), c27, if_true, if_false, and_true, true_and, and_false, false_and, or_true, true_or, or_false, false_or, not_true_eq_false, not_false_eq_true, ite_self]; rfl) | rfl)⟩
      · refine w_iconst (v := 1) rfl (by decide) ?_
        refine w_goto rfl rfl ?_
        exact w_ireturn rfl (by first | exact Or.inl rfl | exact Or.inr ⟨rfl, Or.inl rfl⟩ | exact Or.inr ⟨rfl, Or.inr rfl⟩ | exact Or.inr ⟨rfl, by assumption⟩) ⟨(by first | (simp only [b01, c5, (eq_true c16), (eq_true c27), if_true, if_false, and_true, true_and, and_false, false_and, or_true, true_or, or_false, false_or, not_true_eq_false, not_false_eq_true, ite_self]; done) | (simp only [b01, c5, (eq_true c16), (eq_true c27), if_true, if_false, and_true, true_and, and_false, false_and, or_true, true_or, or_false, false_or, not_true_eq_false, not_false_eq_true, ite_self]; rfl) | rfl), (by first | (simp only [b01, c5, (eq_true c16), (eq_true c27), if_true, if_false, and_true, true_and, and_false, false_and, or_true, true_or, or_false, false_or, not_true_eq_false, not_false_eq_true, ite_self]; done) | (simp only [b01, c5, (eq_true c16), (eq_true c27), if_true, if_false, and_true, true_and, and_false, false_and, or_true, true_or, or_false, false_or, not_true_eq_false, not_false_eq_true, ite_self]; rfl) | rfl)⟩
abbrev CX : Type := List pm_C × MS × PT × Nat × Nat
def hx (c : CX) : pm_H := (cset c.1 c.2.1 c.2.2.1, c.2.2.2)
def letC (k v q l d e : Int32) (y : Option Nat) : pm_C := .inr (2, [.int k, .int v, .int q, .int l, .int d, .int e, pv y])
def msgC (fr to : Int32) (l : Nat) : pm_C := .inr (3, [.int fr, .int to, .ref l, .int 0])
def sndC (c : CX) (fr to : Int32) (l : Nat) : CX := if c.2.1.1 17 0 = 600 then c else (c.1 ++ [msgC fr to l], up c.2.1 17 0 (nI (mN c.2.1 + 1)), uy c.2.2.1 3 (mN c.2.1) (some c.1.length), c.2.2.2.1 + 1, c.2.2.2.2 + 4)
def allC (c : CX) (fr : Int32) (l : Nat) : Nat → CX
  | 0 => c
  | t + 1 => if nI t = fr then allC c fr l t else sndC (allC c fr l t) fr (nI t) l
set_option maxRecDepth 100000 in
set_option maxHeartbeats 400000 in
theorem c_send0 {sc : pm_Sc} {cs : List pm_C} {a : MS} {Y : PT} {kn : Nat × Nat} (hc : 73 < cs.length) (fr to : Int32) (l : Nat) (h6 : a.1 17 0 = 600) : pu sc 21 [.ref 2, .int fr, .int to, .ref l] (cset cs a Y, kn) (pz none (cset cs a Y, kn)) := by
  refine w_aload_n rfl rfl ?_
  refine w_getfield rfl (cs2 hc) rfl ?_
  refine w_sipush (v := 600) rfl (by decide) ?_
  refine w_if_icmp_ge rfl rfl (fun c7 => ?_) (fun c7 => ?_)
  · exact w_return rfl rfl ⟨(by first | rfl | (simp only [c7, if_true, if_false, and_true, true_and, and_false, false_and, or_true, true_or, or_false, false_or, not_true_eq_false, not_false_eq_true, ite_self]; done) | (simp only [c7, if_true, if_false, and_true, true_and, and_false, false_and, or_true, true_or, or_false, false_or, not_true_eq_false, not_false_eq_true, ite_self]; rfl)), (by first | rfl | (simp only [c7, if_true, if_false, and_true, true_and, and_false, false_and, or_true, true_or, or_false, false_or, not_true_eq_false, not_false_eq_true, ite_self]; done) | (simp only [c7, if_true, if_false, and_true, true_and, and_false, false_and, or_true, true_or, or_false, false_or, not_true_eq_false, not_false_eq_true, ite_self]; rfl))⟩
  · exact absurd (by rw [h6]; decide) c7
set_option maxRecDepth 100000 in
set_option maxHeartbeats 400000 in
theorem c_send1 {sc : pm_Sc} {cs : List pm_C} {a : MS} {Y : PT} {kn : Nat × Nat} (hc : 73 < cs.length) (fr to : Int32) (l : Nat) {m : Nat} (hm : a.1 17 0 = nI m) (h6 : m < 600) : pu sc 21 [.ref 2, .int fr, .int to, .ref l] (cset cs a Y, kn) (pz none (cset (cs ++ [msgC fr to l]) (up a 17 0 (nI (m + 1))) (uy Y 3 m (some cs.length)), kn.1 + 1, kn.2 + 4)) := by
  refine w_aload_n rfl rfl ?_
  refine w_getfield rfl (cs2 hc) rfl ?_
  refine w_sipush (v := 600) rfl (by decide) ?_
  refine w_if_icmp_ge rfl rfl (fun c7 => ?_) (fun c7 => ?_)
  · exact absurd c7 (by rw [hm]; exact nI_ge (a := m) (b := 600) h6 (by omega))
  · refine w_aload_n rfl rfl ?_
    refine w_getfield rfl (cs2 hc) rfl ?_
    refine w_aload_n rfl rfl ?_
    refine w_getfield rfl (cs2 hc) rfl ?_
    refine w_cnew rfl hc (Nat.le_of_ble_eq_true rfl) ?_
    refine w_dup rfl rfl ?_
    refine w_iload_n rfl rfl ?_
    refine w_iload_n rfl rfl ?_
    refine w_aload_n rfl rfl ?_
    refine w_special rfl (by decide) rfl ⟨(Nat.le_of_ble_eq_true rfl), (Nat.le_of_ble_eq_true rfl), (Nat.le_of_ble_eq_true rfl)⟩ rfl (Nat.le_of_ble_eq_true rfl) (c_msg_init (hcA hc) (hc30 hc) ga_new fr to l) ?_
    rintro _ _ ⟨rfl, rfl⟩
    refine ⟨_, rfl, ?_⟩
    rw [set_app]
    have e3 : (cs ++ [(.inr (3, [.int fr, .int to, .ref l, .int 0]) : pm_C)])[cs.length]? = some (.inr (3, [.int fr, .int to, .ref l, .int 0])) := ga_new
    refine w_cs3 (j := m) rfl (hcA hc) ((cset_out (Nat.not_le_of_gt (hc30 hc))).trans e3) rfl hm (by omega) ?_
    refine w_aload_n rfl rfl ?_
    refine w_dup rfl rfl ?_
    refine w_getfield rfl (cs2 (hcA hc)) rfl ?_
    refine w_iconst (v := 1) rfl (by decide) ?_
    refine w_iaddN (x := m) (y := 1) rfl hm rfl ?_
    refine w_cpP rfl (hcA hc) ?_
    exact w_return rfl rfl ⟨(by first | rfl | (simp only [c7, if_true, if_false, and_true, true_and, and_false, false_and, or_true, true_or, or_false, false_or, not_true_eq_false, not_false_eq_true, ite_self]; done) | (simp only [c7, if_true, if_false, and_true, true_and, and_false, false_and, or_true, true_or, or_false, false_or, not_true_eq_false, not_false_eq_true, ite_self]; rfl)), (by first | rfl | (simp only [c7, if_true, if_false, and_true, true_and, and_false, false_and, or_true, true_or, or_false, false_or, not_true_eq_false, not_false_eq_true, ite_self]; done) | (simp only [c7, if_true, if_false, and_true, true_and, and_false, false_and, or_true, true_or, or_false, false_or, not_true_eq_false, not_false_eq_true, ite_self]; rfl))⟩
theorem c_send {sc : pm_Sc} (c : CX) (hc : 73 < c.1.length) (fr to : Int32) (l : Nat) {m : Nat} (hm : c.2.1.1 17 0 = nI m) (h6 : m ≤ 600) : pu sc 21 [.ref 2, .int fr, .int to, .ref l] (hx c) (pz none (hx (sndC c fr to l))) := by
  unfold sndC
  by_cases e : m = 600
  · subst e
    rw [if_pos (by rw [hm]; rfl)]
    exact c_send0 hc fr to l (by rw [hm]; rfl)
  · rw [if_neg (not600 hm (by omega)), mN_eq hm h6]
    exact c_send1 hc fr to l hm (by omega)
theorem sndC_m {c : CX} (fr to : Int32) (l : Nat) {m : Nat} (hm : c.2.1.1 17 0 = nI m) (h6 : m ≤ 600) (hc : 73 < c.1.length) : 73 < (sndC c fr to l).1.length ∧ ∃ m', m' ≤ 600 ∧ (sndC c fr to l).2.1.1 17 0 = nI m' := by
  unfold sndC
  by_cases e : m = 600
  · subst e
    rw [if_pos (by rw [hm]; rfl)]
    exact ⟨hc, 600, h6, hm⟩
  · rw [if_neg (not600 hm (by omega)), mN_eq hm h6]
    exact ⟨hcA hc, m + 1, by omega, rfl⟩
theorem allC_m {c : CX} (fr : Int32) (l : Nat) {m : Nat} (hm : c.2.1.1 17 0 = nI m) (h6 : m ≤ 600) (hc : 73 < c.1.length) : ∀ t, 73 < (allC c fr l t).1.length ∧ ∃ m', m' ≤ 600 ∧ (allC c fr l t).2.1.1 17 0 = nI m'
  | 0 => ⟨hc, m, h6, hm⟩
  | t + 1 => by
    obtain ⟨h1, m', h2, h3⟩ := allC_m fr l hm h6 hc t
    rw [allC]; split
    · exact ⟨h1, m', h2, h3⟩
    · exact sndC_m fr (nI t) l h3 h2 h1
set_option maxRecDepth 100000 in
set_option maxHeartbeats 400000 in
theorem l_all {sc : pm_Sc} (c : CX) (hc : 73 < c.1.length) (fr : Int32) (l : Nat) {m : Nat} (hm : c.2.1.1 17 0 = nI m) (h6 : m ≤ 600) : ∀ (d k : Nat) (lv : pm_L), k + d = 4 → pm_ld lv 0 = some (.ref 2) → pm_ld lv 1 = some (.int fr) → pm_ld lv 2 = some (.ref l) → pm_ld lv 3 = some (.int (nI k)) → pw sc 22 (2, lv, [], hx (allC c fr l k)) (pz none (hx (allC c fr l 4))) := by
  intro d
  induction d with
  | zero =>
    intro k lv hk g0 g1 g2 g3
    obtain rfl : 4 = k := by omega
    refine w_iload_n rfl g3 ?_
    refine w_iconst (v := 4) rfl (by decide) ?_
    refine w_if_icmp_ge rfl rfl (fun c4 => ?_) (fun c4 => ?_)
    · exact w_return rfl rfl ⟨(by first | rfl | (simp only [c4, if_true, if_false, and_true, true_and, and_false, false_and, or_true, true_or, or_false, false_or, not_true_eq_false, not_false_eq_true, ite_self]; done) | (simp only [c4, if_true, if_false, and_true, true_and, and_false, false_and, or_true, true_or, or_false, false_or, not_true_eq_false, not_false_eq_true, ite_self]; rfl)), (by first | rfl | (simp only [c4, if_true, if_false, and_true, true_and, and_false, false_and, or_true, true_or, or_false, false_or, not_true_eq_false, not_false_eq_true, ite_self]; done) | (simp only [c4, if_true, if_false, and_true, true_and, and_false, false_and, or_true, true_or, or_false, false_or, not_true_eq_false, not_false_eq_true, ite_self]; rfl))⟩
    · exact absurd (by decide) c4
  | succ d ih =>
    intro k lv hk g0 g1 g2 g3
    obtain ⟨h1, m', h2, h3⟩ := allC_m fr l hm h6 hc k
    refine w_iload_n rfl g3 ?_
    refine w_iconst (v := 4) rfl (by decide) ?_
    refine w_if_icmp_ge rfl rfl (fun c4 => ?_) (fun c4 => ?_)
    · exact absurd c4 (nI_ge (a := k) (b := 4) (by omega) (by omega))
    · refine w_iload_n rfl g3 ?_
      refine w_iload_n rfl g1 ?_
      refine w_if_icmp_eq rfl rfl (fun c9 => ?_) (fun c9 => ?_)
      · refine w_iincN (j := k) rfl rfl g3 (Nat.le_of_ble_eq_true rfl) ?_
        refine w_goto rfl rfl ?_
        have e : allC c fr l (k + 1) = (if nI k = fr then allC c fr l k else sndC (allC c fr l k) fr (nI k) l) := rfl
        rw [if_pos c9] at e
        have ih2 := ih (k + 1)
        rw [e] at ih2
        exact ih2 _ (by omega) (ld_s1 (by decide) g0 (fun _ => rfl)) (ld_s1 (by decide) g1 (fun _ => rfl)) (ld_s1 (by decide) g2 (fun _ => rfl)) ld_self
      · refine w_aload_n rfl g0 ?_
        refine w_iload_n rfl g1 ?_
        refine w_iload_n rfl g3 ?_
        refine w_aload_n rfl g2 ?_
        refine w_virtual rfl rfl (cs2 h1) ⟨(Nat.le_of_ble_eq_true rfl), rfl, (Nat.le_of_ble_eq_true rfl), (Nat.le_of_ble_eq_true rfl)⟩ rfl (Nat.le_of_ble_eq_true rfl) (c_send (allC c fr l k) h1 fr (nI k) l h3 h2) ?_
        rintro _ _ ⟨rfl, rfl⟩
        refine ⟨_, rfl, ?_⟩
        refine w_iincN (j := k) rfl rfl g3 (Nat.le_of_ble_eq_true rfl) ?_
        refine w_goto rfl rfl ?_
        have e : allC c fr l (k + 1) = (if nI k = fr then allC c fr l k else sndC (allC c fr l k) fr (nI k) l) := rfl
        rw [if_neg c9] at e
        have ih2 := ih (k + 1)
        rw [e] at ih2
        exact ih2 _ (by omega) (ld_s1 (by decide) g0 (fun _ => rfl)) (ld_s1 (by decide) g1 (fun _ => rfl)) (ld_s1 (by decide) g2 (fun _ => rfl)) ld_self
set_option maxRecDepth 100000 in
set_option maxHeartbeats 400000 in
theorem c_all {sc : pm_Sc} (c : CX) (hc : 73 < c.1.length) (fr : Int32) (l : Nat) {m : Nat} (hm : c.2.1.1 17 0 = nI m) (h6 : m ≤ 600) : pu sc 22 [.ref 2, .int fr, .ref l] (hx c) (pz none (hx (allC c fr l 4))) := by
  refine w_iconst (v := 0) rfl (by decide) ?_
  refine w_istore_n rfl (Nat.le_of_ble_eq_true rfl) ?_
  exact l_all c hc fr l hm h6 4 0 _ (by omega) rfl rfl rfl rfl
set_option maxRecDepth 100000 in
set_option maxHeartbeats 400000 in
theorem c_pfind0 {sc : pm_Sc} {cs : List pm_C} {a : MS} {Y : PT} {kn : Nat × Nat} (hc : 73 < cs.length) (x : Int32) (h : x < 0 ∨ a.1 17 0 ≤ x) : pu sc 23 [.ref 2, .int x] (cset cs a Y, kn) (pz (some .null) (cset cs a Y, kn)) := by
  refine w_iload_n rfl rfl ?_
  refine w_ifCond_lt rfl rfl (fun c1 => ?_) (fun c1 => ?_)
  · refine w_aconst_null rfl ?_
    first | exact w_areturn rfl rfl ⟨rfl, rfl⟩ | exact w_areturnN rfl rfl ⟨rfl, rfl⟩
  · refine w_iload_n rfl rfl ?_
    refine w_aload_n rfl rfl ?_
    refine w_getfield rfl (cs2 hc) rfl ?_
    refine w_if_icmp_ge rfl rfl (fun c9 => ?_) (fun c9 => ?_)
    · refine w_aconst_null rfl ?_
      first | exact w_areturn rfl rfl ⟨rfl, rfl⟩ | exact w_areturnN rfl rfl ⟨rfl, rfl⟩
    · exact absurd h (fun z => z.elim c1 c9)
set_option maxRecDepth 100000 in
set_option maxHeartbeats 400000 in
theorem c_pfind1 {sc : pm_Sc} {cs : List pm_C} {a : MS} {Y : PT} {kn : Nat × Nat} (hc : 73 < cs.length) (j : Nat) {m p : Nat} (hm : a.1 17 0 = nI m) (h6 : m ≤ 600) (hj : j < m) (hp : Y 3 j = some p) : pu sc 23 [.ref 2, .int (nI j)] (cset cs a Y, kn) (pz (some (.ref p)) (cset cs a Y, kn)) := by
  refine w_iload_n rfl rfl ?_
  refine w_ifCond_lt rfl rfl (fun c1 => ?_) (fun c1 => ?_)
  · exact absurd c1 (nI_pos (by omega))
  · refine w_iload_n rfl rfl ?_
    refine w_aload_n rfl rfl ?_
    refine w_getfield rfl (cs2 hc) rfl ?_
    refine w_if_icmp_ge rfl rfl (fun c9 => ?_) (fun c9 => ?_)
    · exact absurd c9 (by rw [hm]; exact nI_ge hj (by omega))
    · refine w_aload_n rfl rfl ?_
      refine w_getfield rfl (cs2 hc) rfl ?_
      refine w_iload_n rfl rfl ?_
      refine w_hal (j := j) rfl (cs3 hc) ⟨by decide, by decide⟩ rfl ⟨show j < 600 from by omega, by decide⟩ hp ?_
      refine w_goto rfl rfl ?_
      first | exact w_areturn rfl rfl ⟨rfl, rfl⟩ | exact w_areturnN rfl rfl ⟨rfl, rfl⟩
set_option maxRecDepth 100000 in
set_option maxHeartbeats 400000 in
theorem c_askFor {sc : pm_Sc} {cs : List pm_C} {a : MS} {Y : PT} {kn : Nat × Nat} (hc : 73 < cs.length) (q : Int32) : pu sc 71 [.int q] (cset cs a Y, kn) (pz (some (.ref cs.length)) (cset (cs ++ [letC 0 0 q 0 0 0 none]) a Y, kn.1 + 1, kn.2 + 7)) := by
  refine w_cnew rfl hc (Nat.le_of_ble_eq_true rfl) ?_
  refine w_dup rfl rfl ?_
  refine w_iconst (v := 0) rfl (by decide) ?_
  refine w_iconst (v := 0) rfl (by decide) ?_
  refine w_iload_n rfl rfl ?_
  refine w_iconst (v := 0) rfl (by decide) ?_
  refine w_iconst (v := 0) rfl (by decide) ?_
  refine w_iconst (v := 0) rfl (by decide) ?_
  refine w_aconst_null rfl ?_
  refine w_special rfl (by decide) rfl ⟨(Nat.le_of_ble_eq_true rfl), (Nat.le_of_ble_eq_true rfl), (Nat.le_of_ble_eq_true rfl)⟩ rfl (Nat.le_of_ble_eq_true rfl) (c_let_initN (hcA hc) (hc30 hc) ga_new 0 0 q 0 0 0) ?_
  rintro _ _ ⟨rfl, rfl⟩
  refine ⟨_, rfl, ?_⟩
  rw [set_app]
  first | exact w_areturn rfl rfl ⟨rfl, rfl⟩ | exact w_areturnN rfl rfl ⟨rfl, rfl⟩
