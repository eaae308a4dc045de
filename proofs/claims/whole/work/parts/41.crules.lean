-- deps: 40.cbase 32.m1
/-! rows over the standing cells -/
section CW
variable {sc : pm_Sc} {i : Nat} {pc : Nat} {lv : pm_L} {st : List Value} {kn : Nat × Nat} {cs : List pm_C} {a : MS} {Y : PT} {Q : (Option Value ⊕ Nat) → pm_H → Prop}
theorem get_rm {f : Nat → Value} {n j : Nat} (hj : j < n) : ((List.range n).map f)[j]? = some (f j) := by
  rw [List.getElem?_map, List.getElem?_range hj]; rfl
theorem w_hil {h : pm_H} {p n j len : Nat} {g : Nat → Int32} {x : Int32} (ha : pm_at i pc = some (.iaload, len, [])) (hp : h.1[p]? = some (.inl (0, (List.range n).map fun b => Value.int (g b)))) (hx : x = nI j) (hj : j < n ∧ n < 1000) (kk : pw sc i (pc + 1, lv, .int (g j) :: st, h) Q) : pw sc i (pc, lv, .int x :: .ref p :: st, h) Q := by
  subst hx
  exact w_iaload ha hp (nI_pos (by omega)) (by rw [nI_clamp (by omega)]; exact get_rm hj.1) kk
theorem w_hal {h : pm_H} {p t n j len q : Nat} {g : Nat → Option Nat} {x : Int32} (ha : pm_at i pc = some (.aaload, len, [])) (hp : h.1[p]? = some (.inl (t, (List.range n).map fun b => pv (g b)))) (ht : 3 ≤ t ∧ t ≤ 6) (hx : x = nI j) (hj : j < n ∧ n < 1000) (hg : g j = some q) (kk : pw sc i (pc + 1, lv, .ref q :: st, h) Q) : pw sc i (pc, lv, .int x :: .ref p :: st, h) Q := by
  subst hx
  exact w_aaload ha hp (by rintro (z | z | z) <;> first | exact nI_pos (by omega) z | omega) (by rw [nI_clamp (by omega), get_rm hj.1, hg]; rfl) kk
theorem w_halN {h : pm_H} {p t n j len : Nat} {g : Nat → Option Nat} {x : Int32} (ha : pm_at i pc = some (.aaload, len, [])) (hp : h.1[p]? = some (.inl (t, (List.range n).map fun b => pv (g b)))) (ht : 3 ≤ t ∧ t ≤ 6) (hx : x = nI j) (hj : j < n ∧ n < 1000) (hg : g j = none) (kk : pw sc i (pc + 1, lv, .null :: st, h) Q) : pw sc i (pc, lv, .int x :: .ref p :: st, h) Q := by
  subst hx
  exact w_aaloadN ha hp (by rintro (z | z | z) <;> first | exact nI_pos (by omega) z | omega) (by rw [nI_clamp (by omega), get_rm hj.1, hg]; rfl) kk
theorem w_ca6 {j len : Nat} {x : Int32} (ha : pm_at i pc = some (.aaload, len, [])) (hc : 73 < cs.length) (hx : x = nI j) (hj : j < 4) (kk : pw sc i (pc + 1, lv, .ref (7 + 6 * j) :: st, (cset cs a Y, kn)) Q) : pw sc i (pc, lv, .int x :: .ref 6 :: st, (cset cs a Y, kn)) Q := by
  subst hx
  exact w_aaload ha (cs6 hc) (by rintro (z | z | z) <;> first | exact nI_pos (by omega) z | omega) (by rw [nI_clamp (by omega), get_rm hj]) kk
theorem w_cpP {n lk len : Nat} {v : Int32} (ha : pm_at i pc = some (.putfield n, len, [4, 1, lk])) (hc : 73 < cs.length) (kk : pw sc i (pc + 3, lv, st, (cset cs (up a 17 0 v) Y, kn)) Q) : pw sc i (pc, lv, .int v :: .ref 2 :: st, (cset cs a Y, kn)) Q := by
  refine w_putfield ha (cs2 hc) (by show 1 < 2; omega) rfl ?_
  show pw sc i (pc + 3, lv, st, ((cset cs a Y).set 2 (.inr (4, (ob4 a).set 1 (.int v))), kn)) Q
  rw [cs2_up hc]; exact kk
theorem w_cpC {n k f lk len : Nat} {v : Int32} (ha : pm_at i pc = some (.putfield n, len, [0, k, lk])) (hc : 73 < cs.length) (hk : (k = 3 ∧ f = 2) ∨ (k = 4 ∧ f = 29)) (hf : pm_fit (pm_ty 0 k) (.int v) = true) (kk : pw sc i (pc + 3, lv, st, (cset cs (up a f 0 v) Y, kn)) Q) : pw sc i (pc, lv, .int v :: .ref 4 :: st, (cset cs a Y, kn)) Q := by
  refine w_putfield ha (cs4 hc) (by show k < 5; omega) hf ?_
  show pw sc i (pc + 3, lv, st, ((cset cs a Y).set 4 (.inr (0, (ob0 a).set k (.int v))), kn)) Q
  rw [cs4_up hc hk]; exact kk
theorem w_cpR {n k f lk len r : Nat} {v : Int32} (ha : pm_at i pc = some (.putfield n, len, [5, k, lk])) (hc : 73 < cs.length) (hr : r < 4) (hk : (k = 7 ∧ f = 6) ∨ (k = 8 ∧ f = 10) ∨ (k = 9 ∧ f = 11) ∨ (k = 10 ∧ f = 12)) (hf : pm_fit (pm_ty 5 k) (.int v) = true) (kk : pw sc i (pc + 3, lv, st, (cset cs (up a f r v) Y, kn)) Q) : pw sc i (pc, lv, .int v :: .ref (7 + 6 * r) :: st, (cset cs a Y, kn)) Q := by
  refine w_putfield ha (cs7 hc hr) (by show k < 11; omega) hf ?_
  show pw sc i (pc + 3, lv, st, ((cset cs a Y).set (7 + 6 * r) (.inr (5, (ob5 a r).set k (.int v))), kn)) Q
  rw [cs7_up hc hr hk]; exact kk
theorem w_cpH {n k f lk len r : Nat} {v : Int32} (ha : pm_at i pc = some (.putfield n, len, [1, k, lk])) (hc : 73 < cs.length) (hr : r < 4) (hk : (k = 1 ∧ f = 7) ∨ (k = 2 ∧ f = 9)) (hf : pm_fit (pm_ty 1 k) (.int v) = true) (kk : pw sc i (pc + 3, lv, st, (cset cs (up a f r v) Y, kn)) Q) : pw sc i (pc, lv, .int v :: .ref (8 + 6 * r) :: st, (cset cs a Y, kn)) Q := by
  refine w_putfield ha (cs8 hc hr) (by show k < 3; omega) hf ?_
  show pw sc i (pc + 3, lv, st, ((cset cs a Y).set (8 + 6 * r) (.inr (1, (ob1 a r).set k (.int v))), kn)) Q
  rw [cs8_up hc hr hk]; exact kk
theorem w_cnew {n ci len : Nat} (ha : pm_at i pc = some (.new n, len, [ci])) (hc : 73 < cs.length) (hi : ci < 9) (kk : pw sc i (pc + 3, lv, .ref cs.length :: st, (cset (cs ++ [.inr (ci, pm_df ci)]) a Y, kn.1 + 1, kn.2 + (pm_df ci).length)) Q) : pw sc i (pc, lv, st, (cset cs a Y, kn)) Q := by
  refine w_new ha hi ?_
  show pw sc i (pc + 3, lv, .ref (cset cs a Y).length :: st, (cset cs a Y ++ [.inr (ci, pm_df ci)], kn.1 + 1, kn.2 + (pm_df ci).length)) Q
  rw [cset_length, cset_app hc]; exact kk
theorem w_dp {n ci k lk p len : Nat} {fs : List Value} {v : Value} (ha : pm_at i pc = some (.putfield n, len, [ci, k, lk])) (hc : 73 < cs.length) (hp : 30 < p ∧ cs[p]? = some (.inr (ci, fs))) (hl : k < fs.length) (hf : pm_fit (pm_ty ci k) v = true) (kk : pw sc i (pc + 3, lv, st, (cset (cs.set p (.inr (ci, fs.set k v))) a Y, kn)) Q) : pw sc i (pc, lv, v :: .ref p :: st, (cset cs a Y, kn)) Q := by
  refine w_putfield ha (h := (cset cs a Y, kn)) ((cset_out (by omega)).trans hp.2) hl hf ?_
  show pw sc i (pc + 3, lv, st, ((cset cs a Y).set p (.inr (ci, fs.set k v)), kn)) Q
  rw [cset_set hc hp.1]; exact kk

theorem w_cs1 {j q c len : Nat} {fs : List Value} {x : Int32} (ha : pm_at i pc = some (.aastore, len, [])) (hc : 73 < cs.length) (hq : (cset cs a Y)[q]? = some (.inr (c, fs))) (hce : c = pm_el 6) (hx : x = nI j) (hj : j < 12) (kk : pw sc i (pc + 1, lv, st, (cset cs a (uy Y 1 (j) (some q)), kn)) Q) : pw sc i (pc, lv, .ref q :: .int x :: .ref 1 :: st, (cset cs a Y, kn)) Q := by
  subst hx
  refine w_aastore ha (cs1 hc) hq ⟨nI_pos (by omega), by rw [nI_clamp (by omega), List.length_map, List.length_range]; exact hj, by omega, by omega, hce⟩ ?_
  rw [nI_clamp (by omega)]
  have e := cs1_up (x := some q) (a := a) (Y := Y) hc hj
  have e2 : pv (some q) = Value.ref q := rfl
  rw [e2] at e
  show pw sc i (pc + 1, lv, st, ((cset cs a Y).set 1 _, kn)) Q
  rw [e]; exact kk
theorem w_cs3 {j q c len : Nat} {fs : List Value} {x : Int32} (ha : pm_at i pc = some (.aastore, len, [])) (hc : 73 < cs.length) (hq : (cset cs a Y)[q]? = some (.inr (c, fs))) (hce : c = pm_el 4) (hx : x = nI j) (hj : j < 600) (kk : pw sc i (pc + 1, lv, st, (cset cs a (uy Y 3 (j) (some q)), kn)) Q) : pw sc i (pc, lv, .ref q :: .int x :: .ref 3 :: st, (cset cs a Y, kn)) Q := by
  subst hx
  refine w_aastore ha (cs3 hc) hq ⟨nI_pos (by omega), by rw [nI_clamp (by omega), List.length_map, List.length_range]; exact hj, by omega, by omega, hce⟩ ?_
  rw [nI_clamp (by omega)]
  have e := cs3_up (x := some q) (a := a) (Y := Y) hc hj
  have e2 : pv (some q) = Value.ref q := rfl
  rw [e2] at e
  show pw sc i (pc + 1, lv, st, ((cset cs a Y).set 3 _, kn)) Q
  rw [e]; exact kk
theorem w_cs5 {j q c len : Nat} {fs : List Value} {x : Int32} (ha : pm_at i pc = some (.aastore, len, [])) (hc : 73 < cs.length) (hq : (cset cs a Y)[q]? = some (.inr (c, fs))) (hce : c = pm_el 3) (hx : x = nI j) (hj : j < 4) (kk : pw sc i (pc + 1, lv, st, (cset cs a (uy Y 5 (j) (some q)), kn)) Q) : pw sc i (pc, lv, .ref q :: .int x :: .ref 5 :: st, (cset cs a Y, kn)) Q := by
  subst hx
  refine w_aastore ha (cs5 hc) hq ⟨nI_pos (by omega), by rw [nI_clamp (by omega), List.length_map, List.length_range]; exact hj, by omega, by omega, hce⟩ ?_
  rw [nI_clamp (by omega)]
  have e := cs5_up (x := some q) (a := a) (Y := Y) hc hj
  have e2 : pv (some q) = Value.ref q := rfl
  rw [e2] at e
  show pw sc i (pc + 1, lv, st, ((cset cs a Y).set 5 _, kn)) Q
  rw [e]; exact kk
theorem w_cs12 {r j q c len : Nat} {fs : List Value} {x : Int32} (ha : pm_at i pc = some (.aastore, len, [])) (hc : 73 < cs.length) (hr : r < 4) (hq : (cset cs a Y)[q]? = some (.inr (c, fs))) (hce : c = pm_el 3) (hx : x = nI j) (hj : j < 4) (kk : pw sc i (pc + 1, lv, st, (cset cs a (uy Y 12 (4 * r + j) (some q)), kn)) Q) : pw sc i (pc, lv, .ref q :: .int x :: .ref (12 + 6 * r) :: st, (cset cs a Y, kn)) Q := by
  subst hx
  refine w_aastore ha (cs12 hc hr) hq ⟨nI_pos (by omega), by rw [nI_clamp (by omega), List.length_map, List.length_range]; exact hj, by omega, by omega, hce⟩ ?_
  rw [nI_clamp (by omega)]
  have e := cs12_up (x := some q) (a := a) (Y := Y) hc hr hj
  have e2 : pv (some q) = Value.ref q := rfl
  rw [e2] at e
  show pw sc i (pc + 1, lv, st, ((cset cs a Y).set (12 + 6 * r) _, kn)) Q
  rw [e]; exact kk
theorem w_cs9 {r j len : Nat} {x v : Int32} (ha : pm_at i pc = some (.iastore, len, [])) (hc : 73 < cs.length) (hr : r < 4) (hx : x = nI j) (hj : j < 12) (kk : pw sc i (pc + 1, lv, st, (cset cs (up a 50 (12 * r + j) v) Y, kn)) Q) : pw sc i (pc, lv, .int v :: .int x :: .ref (9 + 6 * r) :: st, (cset cs a Y, kn)) Q := by
  subst hx
  refine w_iastore ha (cs9 hc hr) ⟨nI_pos (by omega), by rw [nI_clamp (by omega), List.length_map, List.length_range]; exact hj⟩ ?_
  rw [nI_clamp (by omega)]
  show pw sc i (pc + 1, lv, st, ((cset cs a Y).set (9 + 6 * r) _, kn)) Q
  rw [cs9_up hc hr hj]; exact kk
theorem w_cs10 {r j len : Nat} {x v : Int32} (ha : pm_at i pc = some (.iastore, len, [])) (hc : 73 < cs.length) (hr : r < 4) (hx : x = nI j) (hj : j < 4) (kk : pw sc i (pc + 1, lv, st, (cset cs (up a 51 (4 * r + j) v) Y, kn)) Q) : pw sc i (pc, lv, .int v :: .int x :: .ref (10 + 6 * r) :: st, (cset cs a Y, kn)) Q := by
  subst hx
  refine w_iastore ha (cs10 hc hr) ⟨nI_pos (by omega), by rw [nI_clamp (by omega), List.length_map, List.length_range]; exact hj⟩ ?_
  rw [nI_clamp (by omega)]
  show pw sc i (pc + 1, lv, st, ((cset cs a Y).set (10 + 6 * r) _, kn)) Q
  rw [cs10_up hc hr hj]; exact kk
theorem w_cs11 {r j len : Nat} {x v : Int32} (ha : pm_at i pc = some (.iastore, len, [])) (hc : 73 < cs.length) (hr : r < 4) (hx : x = nI j) (hj : j < 12) (kk : pw sc i (pc + 1, lv, st, (cset cs (up a 52 (12 * r + j) v) Y, kn)) Q) : pw sc i (pc, lv, .int v :: .int x :: .ref (11 + 6 * r) :: st, (cset cs a Y, kn)) Q := by
  subst hx
  refine w_iastore ha (cs11 hc hr) ⟨nI_pos (by omega), by rw [nI_clamp (by omega), List.length_map, List.length_range]; exact hj⟩ ?_
  rw [nI_clamp (by omega)]
  show pw sc i (pc + 1, lv, st, ((cset cs a Y).set (11 + 6 * r) _, kn)) Q
  rw [cs11_up hc hr hj]; exact kk
end CW
