-- deps: 64.c14
/-! program and reference in one heap -/
def Wm (s : MS) (cs : List pm_C) : Prop := ∀ a, 31 ≤ a → a ≤ 72 → cs[a]? = some (mcell s a)
def outC (v : Int64) : pm_C := .inl (1, [.long v])
theorem mc_in {s : MS} {c : CX} (hc : 73 < c.1.length) (hw : Wm s c.1) : hx c = (mset (cset c.1 c.2.1 c.2.2.1) s, c.2.2.2) := by
  have e : cset c.1 c.2.1 c.2.2.1 = mset (cset c.1 c.2.1 c.2.2.1) s := mset_ext (by rw [cset_length]; omega) rfl (fun a h1 h2 => (cset_out (by omega)).trans (hw a h1 h2)) (fun a _ => rfl)
  show (cset c.1 c.2.1 c.2.2.1, c.2.2.2) = _
  rw [← e]
theorem mc_out {cs : List pm_C} {a : MS} {Y : PT} {s : MS} {kn : Nat × Nat} (hc : 73 < cs.length) : (mset (cset cs a Y) s, kn) = hx (mset cs s, a, Y, kn) := by
  have e : mset (cset cs a Y) s = cset (mset cs s) a Y := by
    refine cset_ext (by rw [mset_length]; exact hc) (by rw [mset_length, mset_length, cset_length]) (fun p h => ?_) (fun p h => ?_)
    · rw [mset_out (by omega), cset_in hc h]
    · by_cases z : 31 ≤ p ∧ p ≤ 72
      · rw [mset_in (by rw [cset_length]; omega) z.1 z.2, mset_in (by omega) z.1 z.2]
      · rw [mset_out z, mset_out z, cset_out h]
  show _ = (cset (mset cs s) a Y, kn)
  rw [e]
def msX (c : CX) (s : MS) : CX := (mset c.1 s, c.2.1, c.2.2.1, c.2.2.2)
def ouX (c : CX) (v : Int64) : CX := (c.1.set 73 (outC v), c.2.1, c.2.2.1, c.2.2.2)
def exX (c : CX) : CX := (c.1, c.2.1, c.2.2.1, c.2.2.2.1 + 1, c.2.2.2.2 + 6)
theorem R.msX {s s' : MS} {c : CX} (h : R s c) : R s (msX c s') := h.keep (by rw [mset_length]; exact h.1) (fun P p x h1 _ h3 => by rw [mset_out (by omega)]; exact h3)
theorem R.ouX {s : MS} {c : CX} (v : Int64) (h : R s c) : R s (ouX c v) := h.keep (hcS h.1) (fun P => KC.low (by omega))
theorem R.exX {s : MS} {c : CX} (h : R s c) : R s (exX c) := h.keep h.1 (fun P => KC.rf _)
theorem Wm.msX {s : MS} {c : CX} (hc : 73 < c.1.length) : Wm s (msX c s).1 := fun a h1 h2 => mset_in (by omega) h1 h2
theorem Wm.ouX {s : MS} {c : CX} {v : Int64} (h : Wm s c.1) : Wm s (ouX c v).1 := fun a h1 h2 => (gs_ne (by omega)).trans (h a h1 h2)
theorem Wm.ext {s : MS} {c c' : CX} {b : Nat} (h : Wm s c.1) (e : Ext c c' b) : Wm s c'.1 := fun a h1 h2 => (e.1 a h1 (by omega)).trans (h a h1 h2)
theorem out_msX {s : MS} {c : CX} {v : Int64} (h : c.1[73]? = some (outC v)) : (msX c s).1[73]? = some (outC v) := (mset_out (by omega)).trans h
theorem out_ouX {c : CX} {v : Int64} (hc : 73 < c.1.length) : (ouX c v).1[73]? = some (outC v) := by
  show (c.1.set 73 (outC v))[73]? = _
  rw [List.getElem?_set, if_pos rfl, if_pos hc]
theorem wm31 {s : MS} {c : CX} (h : Wm s c.1) : (hx c).1[31]? = some (.inr (8, mobj s)) := (cset_out (by omega)).trans (h 31 (by omega) (by omega))
/-- the reference's run, in the common heap -/
theorem m_run {sc : pm_Sc} {m : Nat} {args : List Value} {s s' : MS} {c : CX} {v : Option Value} (hc : 73 < c.1.length) (hw : Wm s c.1) (hM : ∀ {cs : List pm_C} {kn : Nat × Nat}, 72 < cs.length → pu sc m args (mset cs s, kn) (pz v (mset cs s', kn))) : pu sc m args (hx c) (pz v (hx (msX c s'))) := by
  rw [mc_in hc hw]
  have e : hx (msX c s') = (mset (cset c.1 c.2.1 c.2.2.1) s', c.2.2.2) := (mc_out hc).symm
  rw [e]
  exact hM (by rw [cset_length]; omega)
theorem w_lout {sc : pm_Sc} {i pc : Nat} {lv : pm_L} {st : List Value} {c : CX} {Q : (Option Value ⊕ Nat) → pm_H → Prop} {len : Nat} {v v0 : Int64} (ha : pm_at i pc = some (.lastore, len, [])) (hc : 73 < c.1.length) (ho : c.1[73]? = some (outC v0)) (kk : pw sc i (pc + 1, lv, st, hx (ouX c v)) Q) : pw sc i (pc, lv, .long v :: .int 0 :: .ref 73 :: st, hx c) Q := by
  refine w_lastore ha (h := hx c) ((cset_out (by omega)).trans ho) ⟨by decide, by show Int32.toNatClampNeg 0 < 1; decide⟩ ?_
  have e : (cset c.1 c.2.1 c.2.2.1).set 73 (outC v) = cset (c.1.set 73 (outC v)) c.2.1 c.2.2.1 := cset_set hc (by omega)
  show pw sc i (pc + 1, lv, st, ((cset c.1 c.2.1 c.2.2.1).set 73 (outC v), c.2.2.2)) Q
  rw [e]; exact kk
set_option maxRecDepth 100000 in
set_option maxHeartbeats 1000000 in
theorem wx_issue {sc : pm_Sc} {c : CX} (h : 73 < c.1.length) (x0 : Int32) (x1 : Int32) (x2 : Int32) (hj : pu sc 55 [.ref 0, .int x0, .int x1, .int x2] (hx c) (px 1 (hx c))) : pu sc 127 [.ref 0, .int x0, .int x1, .int x2, .ref 73] (hx c) (pz (some (.int 1)) (hx (exX c))) := by
  refine w_aload rfl rfl ?_
  refine w_iconst (v := 0) rfl (by decide) ?_
  refine w_aload_n rfl rfl ?_
  refine w_iload_n rfl rfl ?_
  refine w_iload_n rfl rfl ?_
  refine w_iload_n rfl rfl ?_
  refine w_virtualX rfl rfl (cs0 h) ⟨(Nat.le_of_ble_eq_true rfl), rfl, (Nat.le_of_ble_eq_true rfl), (Nat.le_of_ble_eq_true rfl)⟩ rfl (Nat.le_of_ble_eq_true rfl) hj ?_
  rintro _ _ ⟨rfl, rfl⟩
  refine Or.inr ⟨1, _, rfl, rfl, ?_⟩
  refine w_iconst (v := 1) rfl (by decide) ?_
  exact w_ireturn rfl (Or.inl rfl) ⟨rfl, rfl⟩
set_option maxRecDepth 100000 in
set_option maxHeartbeats 1000000 in
theorem wx_issue2 {sc : pm_Sc} {c : CX} (h : 73 < c.1.length) (x0 : Int32) (x1 : Int32) (x2 : Int32) (hj : pu sc 55 [.ref 0, .int x0, .int x1, .int x2] (hx c) (px 2 (hx c))) : pu sc 127 [.ref 0, .int x0, .int x1, .int x2, .ref 73] (hx c) (pz (some (.int 2)) (hx (exX c))) := by
  refine w_aload rfl rfl ?_
  refine w_iconst (v := 0) rfl (by decide) ?_
  refine w_aload_n rfl rfl ?_
  refine w_iload_n rfl rfl ?_
  refine w_iload_n rfl rfl ?_
  refine w_iload_n rfl rfl ?_
  refine w_virtualX rfl rfl (cs0 h) ⟨(Nat.le_of_ble_eq_true rfl), rfl, (Nat.le_of_ble_eq_true rfl), (Nat.le_of_ble_eq_true rfl)⟩ rfl (Nat.le_of_ble_eq_true rfl) hj ?_
  rintro _ _ ⟨rfl, rfl⟩
  refine Or.inr ⟨2, _, rfl, rfl, ?_⟩
  refine w_iconst (v := 2) rfl (by decide) ?_
  exact w_ireturn rfl (Or.inl rfl) ⟨rfl, rfl⟩
set_option maxRecDepth 100000 in
set_option maxHeartbeats 1000000 in
theorem wn_issue {sc : pm_Sc} {c c' : CX} {r : Int32} {v0 : Int64} (h : 73 < c.1.length) (h' : 73 < c'.1.length) (ho : c'.1[73]? = some (outC v0)) (x0 : Int32) (x1 : Int32) (x2 : Int32) (hj : pu sc 55 [.ref 0, .int x0, .int x1, .int x2] (hx c) (pz (some (.int r)) (hx c'))) : pu sc 127 [.ref 0, .int x0, .int x1, .int x2, .ref 73] (hx c) (pz (some (.int 0)) (hx (ouX c' r.toInt64))) := by
  refine w_aload rfl rfl ?_
  refine w_iconst (v := 0) rfl (by decide) ?_
  refine w_aload_n rfl rfl ?_
  refine w_iload_n rfl rfl ?_
  refine w_iload_n rfl rfl ?_
  refine w_iload_n rfl rfl ?_
  refine w_virtualX rfl rfl (cs0 h) ⟨(Nat.le_of_ble_eq_true rfl), rfl, (Nat.le_of_ble_eq_true rfl), (Nat.le_of_ble_eq_true rfl)⟩ rfl (Nat.le_of_ble_eq_true rfl) hj ?_
  rintro _ _ ⟨rfl, rfl⟩
  refine Or.inl ⟨_, rfl, ?_⟩
  refine w_i2l rfl ?_
  refine w_lout rfl h' ho ?_
  refine w_goto rfl rfl ?_
  refine w_iconst (v := 0) rfl (by decide) ?_
  exact w_ireturn rfl (Or.inl rfl) ⟨rfl, rfl⟩
set_option maxRecDepth 100000 in
set_option maxHeartbeats 1000000 in
theorem wx_retry {sc : pm_Sc} {c : CX} (h : 73 < c.1.length) (x0 : Int32) (hj : pu sc 56 [.ref 0, .int x0] (hx c) (px 3 (hx c))) : pu sc 128 [.ref 0, .int x0, .ref 73] (hx c) (pz (some (.int 1)) (hx (exX c))) := by
  refine w_aload_n rfl rfl ?_
  refine w_iconst (v := 0) rfl (by decide) ?_
  refine w_aload_n rfl rfl ?_
  refine w_iload_n rfl rfl ?_
  refine w_virtualX rfl rfl (cs0 h) ⟨(Nat.le_of_ble_eq_true rfl), rfl, (Nat.le_of_ble_eq_true rfl), (Nat.le_of_ble_eq_true rfl)⟩ rfl (Nat.le_of_ble_eq_true rfl) hj ?_
  rintro _ _ ⟨rfl, rfl⟩
  refine Or.inr ⟨3, _, rfl, rfl, ?_⟩
  refine w_iconst (v := 1) rfl (by decide) ?_
  exact w_ireturn rfl (Or.inl rfl) ⟨rfl, rfl⟩
set_option maxRecDepth 100000 in
set_option maxHeartbeats 1000000 in
theorem wn_retry {sc : pm_Sc} {c c' : CX} {r : Int32} {v0 : Int64} (h : 73 < c.1.length) (h' : 73 < c'.1.length) (ho : c'.1[73]? = some (outC v0)) (x0 : Int32) (hj : pu sc 56 [.ref 0, .int x0] (hx c) (pz (some (.int r)) (hx c'))) : pu sc 128 [.ref 0, .int x0, .ref 73] (hx c) (pz (some (.int 0)) (hx (ouX c' r.toInt64))) := by
  refine w_aload_n rfl rfl ?_
  refine w_iconst (v := 0) rfl (by decide) ?_
  refine w_aload_n rfl rfl ?_
  refine w_iload_n rfl rfl ?_
  refine w_virtualX rfl rfl (cs0 h) ⟨(Nat.le_of_ble_eq_true rfl), rfl, (Nat.le_of_ble_eq_true rfl), (Nat.le_of_ble_eq_true rfl)⟩ rfl (Nat.le_of_ble_eq_true rfl) hj ?_
  rintro _ _ ⟨rfl, rfl⟩
  refine Or.inl ⟨_, rfl, ?_⟩
  refine w_i2l rfl ?_
  refine w_lout rfl h' ho ?_
  refine w_goto rfl rfl ?_
  refine w_iconst (v := 0) rfl (by decide) ?_
  exact w_ireturn rfl (Or.inl rfl) ⟨rfl, rfl⟩
set_option maxRecDepth 100000 in
set_option maxHeartbeats 1000000 in
theorem wx_flood {sc : pm_Sc} {c : CX} (h : 73 < c.1.length) (x0 : Int32) (hj : pu sc 58 [.ref 0, .int x0] (hx c) (px 1 (hx c))) : pu sc 129 [.ref 0, .int x0, .ref 73] (hx c) (pz (some (.int 1)) (hx (exX c))) := by
  refine w_aload_n rfl rfl ?_
  refine w_iconst (v := 0) rfl (by decide) ?_
  refine w_aload_n rfl rfl ?_
  refine w_iload_n rfl rfl ?_
  refine w_virtualX rfl rfl (cs0 h) ⟨(Nat.le_of_ble_eq_true rfl), rfl, (Nat.le_of_ble_eq_true rfl), (Nat.le_of_ble_eq_true rfl)⟩ rfl (Nat.le_of_ble_eq_true rfl) hj ?_
  rintro _ _ ⟨rfl, rfl⟩
  refine Or.inr ⟨1, _, rfl, rfl, ?_⟩
  refine w_iconst (v := 1) rfl (by decide) ?_
  exact w_ireturn rfl (Or.inl rfl) ⟨rfl, rfl⟩
set_option maxRecDepth 100000 in
set_option maxHeartbeats 1000000 in
theorem wn_flood {sc : pm_Sc} {c c' : CX} {r : Int32} {v0 : Int64} (h : 73 < c.1.length) (h' : 73 < c'.1.length) (ho : c'.1[73]? = some (outC v0)) (x0 : Int32) (hj : pu sc 58 [.ref 0, .int x0] (hx c) (pz (some (.int r)) (hx c'))) : pu sc 129 [.ref 0, .int x0, .ref 73] (hx c) (pz (some (.int 0)) (hx (ouX c' r.toInt64))) := by
  refine w_aload_n rfl rfl ?_
  refine w_iconst (v := 0) rfl (by decide) ?_
  refine w_aload_n rfl rfl ?_
  refine w_iload_n rfl rfl ?_
  refine w_virtualX rfl rfl (cs0 h) ⟨(Nat.le_of_ble_eq_true rfl), rfl, (Nat.le_of_ble_eq_true rfl), (Nat.le_of_ble_eq_true rfl)⟩ rfl (Nat.le_of_ble_eq_true rfl) hj ?_
  rintro _ _ ⟨rfl, rfl⟩
  refine Or.inl ⟨_, rfl, ?_⟩
  refine w_i2l rfl ?_
  refine w_lout rfl h' ho ?_
  refine w_goto rfl rfl ?_
  refine w_iconst (v := 0) rfl (by decide) ?_
  exact w_ireturn rfl (Or.inl rfl) ⟨rfl, rfl⟩
set_option maxRecDepth 100000 in
set_option maxHeartbeats 1000000 in
theorem wx_patience {sc : pm_Sc} {c : CX} (h : 73 < c.1.length) (x0 : Int32) (hj : pu sc 60 [.ref 0, .int x0] (hx c) (px 1 (hx c))) : pu sc 130 [.ref 0, .int x0, .ref 73] (hx c) (pz (some (.int 1)) (hx (exX c))) := by
  refine w_aload_n rfl rfl ?_
  refine w_iconst (v := 0) rfl (by decide) ?_
  refine w_aload_n rfl rfl ?_
  refine w_iload_n rfl rfl ?_
  refine w_virtualX rfl rfl (cs0 h) ⟨(Nat.le_of_ble_eq_true rfl), rfl, (Nat.le_of_ble_eq_true rfl), (Nat.le_of_ble_eq_true rfl)⟩ rfl (Nat.le_of_ble_eq_true rfl) hj ?_
  rintro _ _ ⟨rfl, rfl⟩
  refine Or.inr ⟨1, _, rfl, rfl, ?_⟩
  refine w_iconst (v := 1) rfl (by decide) ?_
  exact w_ireturn rfl (Or.inl rfl) ⟨rfl, rfl⟩
set_option maxRecDepth 100000 in
set_option maxHeartbeats 1000000 in
theorem wn_patience0 {sc : pm_Sc} {c c' : CX} {r : Int32} {v0 : Int64} (h : 73 < c.1.length) (h' : 73 < c'.1.length) (ho : c'.1[73]? = some (outC v0)) (hv : r = 0) (x0 : Int32) (hj : pu sc 60 [.ref 0, .int x0] (hx c) (pz (some (.int r)) (hx c'))) : pu sc 130 [.ref 0, .int x0, .ref 73] (hx c) (pz (some (.int 0)) (hx (ouX c' 0))) := by
  refine w_aload_n rfl rfl ?_
  refine w_iconst (v := 0) rfl (by decide) ?_
  refine w_aload_n rfl rfl ?_
  refine w_iload_n rfl rfl ?_
  refine w_virtualX rfl rfl (cs0 h) ⟨(Nat.le_of_ble_eq_true rfl), rfl, (Nat.le_of_ble_eq_true rfl), (Nat.le_of_ble_eq_true rfl)⟩ rfl (Nat.le_of_ble_eq_true rfl) hj ?_
  rintro _ _ ⟨rfl, rfl⟩
  refine Or.inl ⟨_, rfl, ?_⟩
  refine w_ifCond_eq rfl rfl (fun c7 => ?_) (fun c7 => ?_)
  · refine w_lconst (v := 0) rfl (by decide) ?_
    refine w_lout rfl h' ho ?_
    refine w_goto rfl rfl ?_
    refine w_iconst (v := 0) rfl (by decide) ?_
    exact w_ireturn rfl (Or.inl rfl) ⟨rfl, rfl⟩
  · exact absurd hv c7
set_option maxRecDepth 100000 in
set_option maxHeartbeats 1000000 in
theorem wn_patience1 {sc : pm_Sc} {c c' : CX} {r : Int32} {v0 : Int64} (h : 73 < c.1.length) (h' : 73 < c'.1.length) (ho : c'.1[73]? = some (outC v0)) (hv : ¬ r = 0) (x0 : Int32) (hj : pu sc 60 [.ref 0, .int x0] (hx c) (pz (some (.int r)) (hx c'))) : pu sc 130 [.ref 0, .int x0, .ref 73] (hx c) (pz (some (.int 0)) (hx (ouX c' 1))) := by
  refine w_aload_n rfl rfl ?_
  refine w_iconst (v := 0) rfl (by decide) ?_
  refine w_aload_n rfl rfl ?_
  refine w_iload_n rfl rfl ?_
  refine w_virtualX rfl rfl (cs0 h) ⟨(Nat.le_of_ble_eq_true rfl), rfl, (Nat.le_of_ble_eq_true rfl), (Nat.le_of_ble_eq_true rfl)⟩ rfl (Nat.le_of_ble_eq_true rfl) hj ?_
  rintro _ _ ⟨rfl, rfl⟩
  refine Or.inl ⟨_, rfl, ?_⟩
  refine w_ifCond_eq rfl rfl (fun c7 => ?_) (fun c7 => ?_)
  · exact absurd c7 hv
  · refine w_lconst (v := 1) rfl (by decide) ?_
    refine w_goto rfl rfl ?_
    refine w_lout rfl h' ho ?_
    refine w_goto rfl rfl ?_
    refine w_iconst (v := 0) rfl (by decide) ?_
    exact w_ireturn rfl (Or.inl rfl) ⟨rfl, rfl⟩
set_option maxRecDepth 100000 in
set_option maxHeartbeats 1000000 in
theorem wx_lie {sc : pm_Sc} {c : CX} (h : 73 < c.1.length) (x0 : Int32) (x1 : Int32) (hj : pu sc 61 [.ref 0, .int x0, .int x1] (hx c) (px 1 (hx c))) : pu sc 131 [.ref 0, .int x0, .int x1, .ref 73] (hx c) (pz (some (.int 1)) (hx (exX c))) := by
  refine w_aload_n rfl rfl ?_
  refine w_iconst (v := 0) rfl (by decide) ?_
  refine w_aload_n rfl rfl ?_
  refine w_iload_n rfl rfl ?_
  refine w_iload_n rfl rfl ?_
  refine w_virtualX rfl rfl (cs0 h) ⟨(Nat.le_of_ble_eq_true rfl), rfl, (Nat.le_of_ble_eq_true rfl), (Nat.le_of_ble_eq_true rfl)⟩ rfl (Nat.le_of_ble_eq_true rfl) hj ?_
  rintro _ _ ⟨rfl, rfl⟩
  refine Or.inr ⟨1, _, rfl, rfl, ?_⟩
  refine w_iconst (v := 1) rfl (by decide) ?_
  exact w_ireturn rfl (Or.inl rfl) ⟨rfl, rfl⟩
set_option maxRecDepth 100000 in
set_option maxHeartbeats 1000000 in
theorem wn_lie0 {sc : pm_Sc} {c c' : CX} {r : Int32} {v0 : Int64} (h : 73 < c.1.length) (h' : 73 < c'.1.length) (ho : c'.1[73]? = some (outC v0)) (hv : r = 0) (x0 : Int32) (x1 : Int32) (hj : pu sc 61 [.ref 0, .int x0, .int x1] (hx c) (pz (some (.int r)) (hx c'))) : pu sc 131 [.ref 0, .int x0, .int x1, .ref 73] (hx c) (pz (some (.int 0)) (hx (ouX c' 0))) := by
  refine w_aload_n rfl rfl ?_
  refine w_iconst (v := 0) rfl (by decide) ?_
  refine w_aload_n rfl rfl ?_
  refine w_iload_n rfl rfl ?_
  refine w_iload_n rfl rfl ?_
  refine w_virtualX rfl rfl (cs0 h) ⟨(Nat.le_of_ble_eq_true rfl), rfl, (Nat.le_of_ble_eq_true rfl), (Nat.le_of_ble_eq_true rfl)⟩ rfl (Nat.le_of_ble_eq_true rfl) hj ?_
  rintro _ _ ⟨rfl, rfl⟩
  refine Or.inl ⟨_, rfl, ?_⟩
  refine w_ifCond_eq rfl rfl (fun c8 => ?_) (fun c8 => ?_)
  · refine w_lconst (v := 0) rfl (by decide) ?_
    refine w_lout rfl h' ho ?_
    refine w_goto rfl rfl ?_
    refine w_iconst (v := 0) rfl (by decide) ?_
    exact w_ireturn rfl (Or.inl rfl) ⟨rfl, rfl⟩
  · exact absurd hv c8
set_option maxRecDepth 100000 in
set_option maxHeartbeats 1000000 in
theorem wn_lie1 {sc : pm_Sc} {c c' : CX} {r : Int32} {v0 : Int64} (h : 73 < c.1.length) (h' : 73 < c'.1.length) (ho : c'.1[73]? = some (outC v0)) (hv : ¬ r = 0) (x0 : Int32) (x1 : Int32) (hj : pu sc 61 [.ref 0, .int x0, .int x1] (hx c) (pz (some (.int r)) (hx c'))) : pu sc 131 [.ref 0, .int x0, .int x1, .ref 73] (hx c) (pz (some (.int 0)) (hx (ouX c' 1))) := by
  refine w_aload_n rfl rfl ?_
  refine w_iconst (v := 0) rfl (by decide) ?_
  refine w_aload_n rfl rfl ?_
  refine w_iload_n rfl rfl ?_
  refine w_iload_n rfl rfl ?_
  refine w_virtualX rfl rfl (cs0 h) ⟨(Nat.le_of_ble_eq_true rfl), rfl, (Nat.le_of_ble_eq_true rfl), (Nat.le_of_ble_eq_true rfl)⟩ rfl (Nat.le_of_ble_eq_true rfl) hj ?_
  rintro _ _ ⟨rfl, rfl⟩
  refine Or.inl ⟨_, rfl, ?_⟩
  refine w_ifCond_eq rfl rfl (fun c8 => ?_) (fun c8 => ?_)
  · exact absurd c8 hv
  · refine w_lconst (v := 1) rfl (by decide) ?_
    refine w_goto rfl rfl ?_
    refine w_lout rfl h' ho ?_
    refine w_goto rfl rfl ?_
    refine w_iconst (v := 0) rfl (by decide) ?_
    exact w_ireturn rfl (Or.inl rfl) ⟨rfl, rfl⟩
set_option maxRecDepth 100000 in
set_option maxHeartbeats 1000000 in
theorem wx_echo {sc : pm_Sc} {c : CX} (h : 73 < c.1.length) (x0 : Int32) (x1 : Int32) (hj : pu sc 62 [.ref 0, .int x0, .int x1] (hx c) (px 1 (hx c))) : pu sc 132 [.ref 0, .int x0, .int x1, .ref 73] (hx c) (pz (some (.int 1)) (hx (exX c))) := by
  refine w_aload_n rfl rfl ?_
  refine w_iconst (v := 0) rfl (by decide) ?_
  refine w_aload_n rfl rfl ?_
  refine w_iload_n rfl rfl ?_
  refine w_iload_n rfl rfl ?_
  refine w_virtualX rfl rfl (cs0 h) ⟨(Nat.le_of_ble_eq_true rfl), rfl, (Nat.le_of_ble_eq_true rfl), (Nat.le_of_ble_eq_true rfl)⟩ rfl (Nat.le_of_ble_eq_true rfl) hj ?_
  rintro _ _ ⟨rfl, rfl⟩
  refine Or.inr ⟨1, _, rfl, rfl, ?_⟩
  refine w_iconst (v := 1) rfl (by decide) ?_
  exact w_ireturn rfl (Or.inl rfl) ⟨rfl, rfl⟩
set_option maxRecDepth 100000 in
set_option maxHeartbeats 1000000 in
theorem wn_echo0 {sc : pm_Sc} {c c' : CX} {r : Int32} {v0 : Int64} (h : 73 < c.1.length) (h' : 73 < c'.1.length) (ho : c'.1[73]? = some (outC v0)) (hv : r = 0) (x0 : Int32) (x1 : Int32) (hj : pu sc 62 [.ref 0, .int x0, .int x1] (hx c) (pz (some (.int r)) (hx c'))) : pu sc 132 [.ref 0, .int x0, .int x1, .ref 73] (hx c) (pz (some (.int 0)) (hx (ouX c' 0))) := by
  refine w_aload_n rfl rfl ?_
  refine w_iconst (v := 0) rfl (by decide) ?_
  refine w_aload_n rfl rfl ?_
  refine w_iload_n rfl rfl ?_
  refine w_iload_n rfl rfl ?_
  refine w_virtualX rfl rfl (cs0 h) ⟨(Nat.le_of_ble_eq_true rfl), rfl, (Nat.le_of_ble_eq_true rfl), (Nat.le_of_ble_eq_true rfl)⟩ rfl (Nat.le_of_ble_eq_true rfl) hj ?_
  rintro _ _ ⟨rfl, rfl⟩
  refine Or.inl ⟨_, rfl, ?_⟩
  refine w_ifCond_eq rfl rfl (fun c8 => ?_) (fun c8 => ?_)
  · refine w_lconst (v := 0) rfl (by decide) ?_
    refine w_lout rfl h' ho ?_
    refine w_goto rfl rfl ?_
    refine w_iconst (v := 0) rfl (by decide) ?_
    exact w_ireturn rfl (Or.inl rfl) ⟨rfl, rfl⟩
  · exact absurd hv c8
set_option maxRecDepth 100000 in
set_option maxHeartbeats 1000000 in
theorem wn_echo1 {sc : pm_Sc} {c c' : CX} {r : Int32} {v0 : Int64} (h : 73 < c.1.length) (h' : 73 < c'.1.length) (ho : c'.1[73]? = some (outC v0)) (hv : ¬ r = 0) (x0 : Int32) (x1 : Int32) (hj : pu sc 62 [.ref 0, .int x0, .int x1] (hx c) (pz (some (.int r)) (hx c'))) : pu sc 132 [.ref 0, .int x0, .int x1, .ref 73] (hx c) (pz (some (.int 0)) (hx (ouX c' 1))) := by
  refine w_aload_n rfl rfl ?_
  refine w_iconst (v := 0) rfl (by decide) ?_
  refine w_aload_n rfl rfl ?_
  refine w_iload_n rfl rfl ?_
  refine w_iload_n rfl rfl ?_
  refine w_virtualX rfl rfl (cs0 h) ⟨(Nat.le_of_ble_eq_true rfl), rfl, (Nat.le_of_ble_eq_true rfl), (Nat.le_of_ble_eq_true rfl)⟩ rfl (Nat.le_of_ble_eq_true rfl) hj ?_
  rintro _ _ ⟨rfl, rfl⟩
  refine Or.inl ⟨_, rfl, ?_⟩
  refine w_ifCond_eq rfl rfl (fun c8 => ?_) (fun c8 => ?_)
  · exact absurd c8 hv
  · refine w_lconst (v := 1) rfl (by decide) ?_
    refine w_goto rfl rfl ?_
    refine w_lout rfl h' ho ?_
    refine w_goto rfl rfl ?_
    refine w_iconst (v := 0) rfl (by decide) ?_
    exact w_ireturn rfl (Or.inl rfl) ⟨rfl, rfl⟩
set_option maxRecDepth 100000 in
set_option maxHeartbeats 1000000 in
theorem wx_replica {sc : pm_Sc} {c : CX} (h : 73 < c.1.length) (x0 : Int32) (x1 : Int32) (hj : pu sc 63 [.ref 0, .int x0, .int x1] (hx c) (px 1 (hx c))) : pu sc 133 [.ref 0, .int x0, .int x1, .ref 73] (hx c) (pz (some (.int 1)) (hx (exX c))) := by
  refine w_aload_n rfl rfl ?_
  refine w_iconst (v := 0) rfl (by decide) ?_
  refine w_aload_n rfl rfl ?_
  refine w_iload_n rfl rfl ?_
  refine w_iload_n rfl rfl ?_
  refine w_virtualX rfl rfl (cs0 h) ⟨(Nat.le_of_ble_eq_true rfl), rfl, (Nat.le_of_ble_eq_true rfl), (Nat.le_of_ble_eq_true rfl)⟩ rfl (Nat.le_of_ble_eq_true rfl) hj ?_
  rintro _ _ ⟨rfl, rfl⟩
  refine Or.inr ⟨1, _, rfl, rfl, ?_⟩
  refine w_iconst (v := 1) rfl (by decide) ?_
  exact w_ireturn rfl (Or.inl rfl) ⟨rfl, rfl⟩
set_option maxRecDepth 100000 in
set_option maxHeartbeats 1000000 in
theorem wn_replica {sc : pm_Sc} {c c' : CX} {r : Int32} {v0 : Int64} (h : 73 < c.1.length) (h' : 73 < c'.1.length) (ho : c'.1[73]? = some (outC v0)) (x0 : Int32) (x1 : Int32) (hj : pu sc 63 [.ref 0, .int x0, .int x1] (hx c) (pz (some (.int r)) (hx c'))) : pu sc 133 [.ref 0, .int x0, .int x1, .ref 73] (hx c) (pz (some (.int 0)) (hx (ouX c' r.toInt64))) := by
  refine w_aload_n rfl rfl ?_
  refine w_iconst (v := 0) rfl (by decide) ?_
  refine w_aload_n rfl rfl ?_
  refine w_iload_n rfl rfl ?_
  refine w_iload_n rfl rfl ?_
  refine w_virtualX rfl rfl (cs0 h) ⟨(Nat.le_of_ble_eq_true rfl), rfl, (Nat.le_of_ble_eq_true rfl), (Nat.le_of_ble_eq_true rfl)⟩ rfl (Nat.le_of_ble_eq_true rfl) hj ?_
  rintro _ _ ⟨rfl, rfl⟩
  refine Or.inl ⟨_, rfl, ?_⟩
  refine w_i2l rfl ?_
  refine w_lout rfl h' ho ?_
  refine w_goto rfl rfl ?_
  refine w_iconst (v := 0) rfl (by decide) ?_
  exact w_ireturn rfl (Or.inl rfl) ⟨rfl, rfl⟩
set_option maxRecDepth 100000 in
set_option maxHeartbeats 1000000 in
theorem wx_message {sc : pm_Sc} {c : CX} (h : 73 < c.1.length) (x0 : Int32) (x1 : Int32) (hj : pu sc 65 [.ref 0, .int x0, .int x1] (hx c) (px 3 (hx c))) : pu sc 134 [.ref 0, .int x0, .int x1, .ref 73] (hx c) (pz (some (.int 1)) (hx (exX c))) := by
  refine w_aload_n rfl rfl ?_
  refine w_iconst (v := 0) rfl (by decide) ?_
  refine w_aload_n rfl rfl ?_
  refine w_iload_n rfl rfl ?_
  refine w_iload_n rfl rfl ?_
  refine w_virtualX rfl rfl (cs0 h) ⟨(Nat.le_of_ble_eq_true rfl), rfl, (Nat.le_of_ble_eq_true rfl), (Nat.le_of_ble_eq_true rfl)⟩ rfl (Nat.le_of_ble_eq_true rfl) hj ?_
  rintro _ _ ⟨rfl, rfl⟩
  refine Or.inr ⟨3, _, rfl, rfl, ?_⟩
  refine w_iconst (v := 1) rfl (by decide) ?_
  exact w_ireturn rfl (Or.inl rfl) ⟨rfl, rfl⟩
set_option maxRecDepth 100000 in
set_option maxHeartbeats 1000000 in
theorem wn_message {sc : pm_Sc} {c c' : CX} {r : Int32} {v0 : Int64} (h : 73 < c.1.length) (h' : 73 < c'.1.length) (ho : c'.1[73]? = some (outC v0)) (x0 : Int32) (x1 : Int32) (hj : pu sc 65 [.ref 0, .int x0, .int x1] (hx c) (pz (some (.int r)) (hx c'))) : pu sc 134 [.ref 0, .int x0, .int x1, .ref 73] (hx c) (pz (some (.int 0)) (hx (ouX c' r.toInt64))) := by
  refine w_aload_n rfl rfl ?_
  refine w_iconst (v := 0) rfl (by decide) ?_
  refine w_aload_n rfl rfl ?_
  refine w_iload_n rfl rfl ?_
  refine w_iload_n rfl rfl ?_
  refine w_virtualX rfl rfl (cs0 h) ⟨(Nat.le_of_ble_eq_true rfl), rfl, (Nat.le_of_ble_eq_true rfl), (Nat.le_of_ble_eq_true rfl)⟩ rfl (Nat.le_of_ble_eq_true rfl) hj ?_
  rintro _ _ ⟨rfl, rfl⟩
  refine Or.inl ⟨_, rfl, ?_⟩
  refine w_i2l rfl ?_
  refine w_lout rfl h' ho ?_
  refine w_goto rfl rfl ?_
  refine w_iconst (v := 0) rfl (by decide) ?_
  exact w_ireturn rfl (Or.inl rfl) ⟨rfl, rfl⟩
set_option maxRecDepth 100000 in
set_option maxHeartbeats 1000000 in
theorem wx_request {sc : pm_Sc} {c : CX} (h : 73 < c.1.length) (x0 : Int32) (x1 : Int32) (hj : pu sc 66 [.ref 0, .int x0, .int x1] (hx c) (px 3 (hx c))) : pu sc 135 [.ref 0, .int x0, .int x1, .ref 73] (hx c) (pz (some (.int 1)) (hx (exX c))) := by
  refine w_aload_n rfl rfl ?_
  refine w_iconst (v := 0) rfl (by decide) ?_
  refine w_aload_n rfl rfl ?_
  refine w_iload_n rfl rfl ?_
  refine w_iload_n rfl rfl ?_
  refine w_virtualX rfl rfl (cs0 h) ⟨(Nat.le_of_ble_eq_true rfl), rfl, (Nat.le_of_ble_eq_true rfl), (Nat.le_of_ble_eq_true rfl)⟩ rfl (Nat.le_of_ble_eq_true rfl) hj ?_
  rintro _ _ ⟨rfl, rfl⟩
  refine Or.inr ⟨3, _, rfl, rfl, ?_⟩
  refine w_iconst (v := 1) rfl (by decide) ?_
  exact w_ireturn rfl (Or.inl rfl) ⟨rfl, rfl⟩
set_option maxRecDepth 100000 in
set_option maxHeartbeats 1000000 in
theorem wn_request {sc : pm_Sc} {c c' : CX} {r : Int32} {v0 : Int64} (h : 73 < c.1.length) (h' : 73 < c'.1.length) (ho : c'.1[73]? = some (outC v0)) (x0 : Int32) (x1 : Int32) (hj : pu sc 66 [.ref 0, .int x0, .int x1] (hx c) (pz (some (.int r)) (hx c'))) : pu sc 135 [.ref 0, .int x0, .int x1, .ref 73] (hx c) (pz (some (.int 0)) (hx (ouX c' r.toInt64))) := by
  refine w_aload_n rfl rfl ?_
  refine w_iconst (v := 0) rfl (by decide) ?_
  refine w_aload_n rfl rfl ?_
  refine w_iload_n rfl rfl ?_
  refine w_iload_n rfl rfl ?_
  refine w_virtualX rfl rfl (cs0 h) ⟨(Nat.le_of_ble_eq_true rfl), rfl, (Nat.le_of_ble_eq_true rfl), (Nat.le_of_ble_eq_true rfl)⟩ rfl (Nat.le_of_ble_eq_true rfl) hj ?_
  rintro _ _ ⟨rfl, rfl⟩
  refine Or.inl ⟨_, rfl, ?_⟩
  refine w_i2l rfl ?_
  refine w_lout rfl h' ho ?_
  refine w_goto rfl rfl ?_
  refine w_iconst (v := 0) rfl (by decide) ?_
  exact w_ireturn rfl (Or.inl rfl) ⟨rfl, rfl⟩
