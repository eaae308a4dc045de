/-! INSTRUCTIONS OVER THE HEAP -/
theorem pm_df_cv (b : Nat) (ad : Nat → Nat) (ci : Nat) : (pm_df ci).map (pm_cv b ad) = pm_df ci := by
  unfold pm_df
  split <;> rfl
theorem pm_upA {b : Nat} {aC : Nat → ClassId} {ad : Nat → Nat} {cs : List pm_C} (q : Nat) (ho : ∀ c ∈ cs, ∀ v ∈ pm_vals c, pm_okv cs.length v) (c : pm_C) (hc : pm_cc b aC (fun k => if k = cs.length then q else ad k) c = pm_cc b aC ad c) :
    pm_ch b aC (fun k => if k = cs.length then q else ad k) (cs ++ [c]) = pm_ch b aC ad cs ++ [(q, pm_cc b aC ad c)] := by
  rw [pm_ch_app, pm_ch_ad (n := cs.length) (Nat.le_refl _) (fun k hk => if_neg (Nat.ne_of_lt hk)) ho, hc]
  simp
theorem pm_fit_n {b : Nat} {ad : Nat → Nat} {t : FieldType} {v : Value} (h : pm_fit t v = true) : narrow t (pm_cv b ad v) = pm_cv b ad v ∧ fits t (pm_cv b ad v) = true := by
  unfold pm_fit at h
  split at h
  · exact ⟨rfl, rfl⟩
  · simp only [Bool.or_eq_true, beq_iff_eq] at h
    rcases h with rfl | rfl
    · exact ⟨rfl, rfl⟩
    · exact ⟨rfl, rfl⟩
  · exact ⟨rfl, rfl⟩
  · exact ⟨rfl, rfl⟩
  · exact ⟨rfl, rfl⟩
  · exact ⟨rfl, rfl⟩
  · exact ⟨rfl, rfl⟩
  · cases h
theorem pm_sm {b : Nat} {ad : Nat → Nat} {fs : List Value} {k : Nat} {v : Value} : (fs.set k v).map (pm_cv b ad) = (fs.map (pm_cv b ad)).set k (pm_cv b ad v) := by
  rw [List.map_set]
section PH
variable {p : Program} {l : Launch} {e : Env} {R : Room} {s : State} {m : MethodId} {args : Array Value} {below : List Frame} {meth : Method} {c : Code} {Q : State → Prop}
variable {D : va_G} {aC : Nat → ClassId} {b : Nat} {sc : pm_Sc} {A : Nat → Prop} {nL nc0 ns0 : Nat} {cc : ByteArray} {own : String} {pc : Nat} {lv : pm_L} {r : List Value} {h : pm_H}
theorem po_getfield (hx : p.tables.exec = Jvm.exec) (hb : c.code = cc) {C : String} {T : u_T} {N ci k i : Nat} {fs : List Value} {v : Value} {q : Nat} (hus : ∀ w ∈ u_ws C T N, w.before args s = true) (hown : s.vm.findClass own = some m.cls) (hK : va_K D vwCl (pm_tys aC) s) (hc : vwCl[ci]? = some (C, T, N)) (hk : k < N) (hq : h.1[q]? = some (.inr (ci, fs))) (hlink : (Cond.fieldLink own i (T k).1 (T k).2.1 (T k).2.2.1).before args s = true) (hv : fs[k]? = some v) (hd : decode cc pc = .ok (.getfield i, 3)) : pm_Go p l e R s m args below meth c Q D aC b A nL nc0 ns0 (pc, lv, .ref q :: r, h) (pc + 3, lv, v :: r, h) := by
  intro ad ls H locs cells slots F O _ _ kk
  refine va_get hx hb hus (fun _ z => z) hown hK F.1 q (pm_ch_get hq) hc k hk hlink (fun _ z => z) (v := pm_cv b ad v) ?_ hd (kk ad ls H locs cells slots (fun _ _ => rfl) F)
  rw [List.getElem?_map, hv]
  rfl
theorem po_getfieldN (hx : p.tables.exec = Jvm.exec) (hb : c.code = cc) {C : String} {T : u_T} {N ci k i : Nat} {fs : List Value} {v : Value} {q : Nat} (hus : ∀ w ∈ u_ws C T N, w.before args s = true) (hown : s.vm.findClass own = some m.cls) (hK : va_K D vwCl (pm_tys aC) s) (hc : vwCl[ci]? = some (C, T, N)) (hk : k < N) (hq : h.1[q]? = some (.inr (ci, fs))) {host : String} (hlink : (Cond.fieldLinkNest own i (T k).1 (T k).2.1 (T k).2.2.1 host).before args s = true) (hv : fs[k]? = some v) (hd : decode cc pc = .ok (.getfield i, 3)) : pm_Go p l e R s m args below meth c Q D aC b A nL nc0 ns0 (pc, lv, .ref q :: r, h) (pc + 3, lv, v :: r, h) := by
  intro ad ls H locs cells slots F O _ _ kk
  refine va_getN hx hb hus (fun _ z => z) hown hK F.1 q (pm_ch_get hq) hc k hk hlink (fun _ z => z) (v := pm_cv b ad v) ?_ hd (kk ad ls H locs cells slots (fun _ _ => rfl) F)
  rw [List.getElem?_map, hv]
  rfl
theorem po_putfield (hx : p.tables.exec = Jvm.exec) (hb : c.code = cc) {C : String} {T : u_T} {N ci k i : Nat} {fs : List Value} {v : Value} {q : Nat} (hus : ∀ w ∈ u_ws C T N, w.before args s = true) (hown : s.vm.findClass own = some m.cls) (hK : va_K D vwCl (pm_tys aC) s) (hc : vwCl[ci]? = some (C, T, N)) (hk : k < N) (hq : h.1[q]? = some (.inr (ci, fs))) (ty0 : Nat → FieldType) (hty : ∀ k, k < N → parseFieldDescriptor (T k).2.2.1 = some (ty0 k)) (hnm : ∀ a, a < N → ∀ b, b < N → a ≠ b → (T a).2.1 ≠ (T b).2.1) (hfit : pm_fit (ty0 k) v = true) (hl : k < fs.length) (hlink : (Cond.fieldLink own i (T k).1 (T k).2.1 (T k).2.2.1).before args s = true) (hfin : (T k).2.2.2 = false) (hd : decode cc pc = .ok (.putfield i, 3)) : pm_Go p l e R s m args below meth c Q D aC b A nL nc0 ns0 (pc, lv, v :: .ref q :: r, h) (pc + 3, lv, r, (h.1.set q (.inr (ci, fs.set k v)), h.2)) := by
  intro ad ls H locs cells slots F O _ _ kk
  refine va_put hx hb hus (fun _ z => z) ty0 hty hnm hown hK F.1 F.2.1 F.2.2.1 q (pm_ch_get hq) hc k hk hlink (fun _ z => z) hfin (hty k hk) (pm_fit_n hfit).1 (pm_fit_n hfit).2 (by rw [List.length_map]; exact hl) hd (fun H1 locs1 hP hD hS => ?_)
  have e : (pm_ch b aC ad h.1).set q (ad q, .inr (ci, (fs.map (pm_cv b ad)).set k (pm_cv b ad v))) = pm_ch b aC ad (h.1.set q (.inr (ci, fs.set k v))) := by
    rw [pm_ch_set, ← pm_sm]
    rfl
  rw [e] at hP hD
  exact kk ad ls H1 locs1 cells slots (fun _ _ => rfl) ⟨hP, hD, hS, F.2.2.2.1, F.2.2.2.2⟩
theorem po_putfieldN (hx : p.tables.exec = Jvm.exec) (hb : c.code = cc) {C : String} {T : u_T} {N ci k i : Nat} {fs : List Value} {v : Value} {q : Nat} (hus : ∀ w ∈ u_ws C T N, w.before args s = true) (hown : s.vm.findClass own = some m.cls) (hK : va_K D vwCl (pm_tys aC) s) (hc : vwCl[ci]? = some (C, T, N)) (hk : k < N) (hq : h.1[q]? = some (.inr (ci, fs))) (ty0 : Nat → FieldType) (hty : ∀ k, k < N → parseFieldDescriptor (T k).2.2.1 = some (ty0 k)) (hnm : ∀ a, a < N → ∀ b, b < N → a ≠ b → (T a).2.1 ≠ (T b).2.1) (hfit : pm_fit (ty0 k) v = true) (hl : k < fs.length) {host : String} (hlink : (Cond.fieldLinkNest own i (T k).1 (T k).2.1 (T k).2.2.1 host).before args s = true) (hfin : (T k).2.2.2 = false) (hd : decode cc pc = .ok (.putfield i, 3)) : pm_Go p l e R s m args below meth c Q D aC b A nL nc0 ns0 (pc, lv, v :: .ref q :: r, h) (pc + 3, lv, r, (h.1.set q (.inr (ci, fs.set k v)), h.2)) := by
  intro ad ls H locs cells slots F O _ _ kk
  refine va_putN hx hb hus (fun _ z => z) ty0 hty hnm hown hK F.1 F.2.1 F.2.2.1 q (pm_ch_get hq) hc k hk hlink (fun _ z => z) hfin (hty k hk) (pm_fit_n hfit).1 (pm_fit_n hfit).2 (by rw [List.length_map]; exact hl) hd (fun H1 locs1 hP hD hS => ?_)
  have e : (pm_ch b aC ad h.1).set q (ad q, .inr (ci, (fs.map (pm_cv b ad)).set k (pm_cv b ad v))) = pm_ch b aC ad (h.1.set q (.inr (ci, fs.set k v))) := by
    rw [pm_ch_set, ← pm_sm]
    rfl
  rw [e] at hP hD
  exact kk ad ls H1 locs1 cells slots (fun _ _ => rfl) ⟨hP, hD, hS, F.2.2.2.1, F.2.2.2.2⟩
theorem po_putfieldF (hx : p.tables.exec = Jvm.exec) (hb : c.code = cc) {C : String} {T : u_T} {N ci k i : Nat} {fs : List Value} {v : Value} {q : Nat} (hus : ∀ w ∈ u_ws C T N, w.before args s = true) (hown : s.vm.findClass own = some m.cls) (hK : va_K D vwCl (pm_tys aC) s) (hc : vwCl[ci]? = some (C, T, N)) (hk : k < N) (hq : h.1[q]? = some (.inr (ci, fs))) (ty0 : Nat → FieldType) (hty : ∀ k, k < N → parseFieldDescriptor (T k).2.2.1 = some (ty0 k)) (hnm : ∀ a, a < N → ∀ b, b < N → a ≠ b → (T a).2.1 ≠ (T b).2.1) (hfit : pm_fit (ty0 k) v = true) (hl : k < fs.length) (hlink : (Cond.fieldLink own i (T k).1 (T k).2.1 (T k).2.2.1).before args s = true) (hfin : (T k).2.2.2 = true) (hin2 : meth.name = "<init>") (hdecl : (T k).1 = own) (hd : decode cc pc = .ok (.putfield i, 3)) : pm_Go p l e R s m args below meth c Q D aC b A nL nc0 ns0 (pc, lv, v :: .ref q :: r, h) (pc + 3, lv, r, (h.1.set q (.inr (ci, fs.set k v)), h.2)) := by
  intro ad ls H locs cells slots F O _ _ kk
  refine va_putF hx hb hus (fun _ z => z) ty0 hty hnm hown hK F.1 F.2.1 F.2.2.1 q (pm_ch_get hq) hc k hk hlink (fun _ z => z) hfin hin2 hdecl (hty k hk) (pm_fit_n hfit).1 (pm_fit_n hfit).2 (by rw [List.length_map]; exact hl) hd (fun H1 locs1 hP hD hS => ?_)
  have e : (pm_ch b aC ad h.1).set q (ad q, .inr (ci, (fs.map (pm_cv b ad)).set k (pm_cv b ad v))) = pm_ch b aC ad (h.1.set q (.inr (ci, fs.set k v))) := by
    rw [pm_ch_set, ← pm_sm]
    rfl
  rw [e] at hP hD
  exact kk ad ls H1 locs1 cells slots (fun _ _ => rfl) ⟨hP, hD, hS, F.2.2.2.1, F.2.2.2.2⟩
theorem po_iaload (hx : p.tables.exec = Jvm.exec) (hb : c.code = cc) (hK : va_K D vwCl (pm_tys aC) s) {q : Nat} {vs : List Value} {i : Int32} {x : Int32} (hq : h.1[q]? = some (.inl (0, vs))) (hi : ¬ i < 0) (hv : vs[i.toNatClampNeg]? = some (.int x)) (hd : decode cc pc = .ok (.iaload, 1)) : pm_Go p l e R s m args below meth c Q D aC b A nL nc0 ns0 (pc, lv, .int i :: .ref q :: r, h) (pc + 1, lv, .int x :: r, h) := by
  intro ad ls H locs cells slots F O _ _ kk
  have hl : i.toNatClampNeg < vs.length := (List.getElem?_eq_some_iff.mp hv).1
  have e : pm_gi (vs.getD i.toNatClampNeg .null) = x := by rw [List.getD_eq_getElem?_getD, hv]; rfl
  refine va_iald hx hb hK F.1 q 0 (pm_ch_get hq) rfl (fun z => z.elim hi (fun z => absurd hl (Nat.not_lt.mpr z))) hd ?_
  dsimp only
  rw [e]
  exact kk ad ls H locs cells slots (fun _ _ => rfl) F
theorem po_laload (hx : p.tables.exec = Jvm.exec) (hb : c.code = cc) (hK : va_K D vwCl (pm_tys aC) s) {q : Nat} {vs : List Value} {i : Int32} {x : Int64} (hq : h.1[q]? = some (.inl (1, vs))) (hi : ¬ i < 0) (hv : vs[i.toNatClampNeg]? = some (.long x)) (hd : decode cc pc = .ok (.laload, 1)) : pm_Go p l e R s m args below meth c Q D aC b A nL nc0 ns0 (pc, lv, .int i :: .ref q :: r, h) (pc + 1, lv, .long x :: r, h) := by
  intro ad ls H locs cells slots F O _ _ kk
  have hl : i.toNatClampNeg < vs.length := (List.getElem?_eq_some_iff.mp hv).1
  have e : pm_gl (vs.getD i.toNatClampNeg .null) = x := by rw [List.getD_eq_getElem?_getD, hv]; rfl
  refine va_lald hx hb hK F.1 q 1 (pm_ch_get hq) rfl (fun z => z.elim hi (fun z => absurd hl (Nat.not_lt.mpr z))) hd ?_
  dsimp only
  rw [e]
  exact kk ad ls H locs cells slots (fun _ _ => rfl) F
theorem po_baload (hx : p.tables.exec = Jvm.exec) (hb : c.code = cc) (hK : va_K D vwCl (pm_tys aC) s) {q : Nat} {vs : List Value} {i : Int32} {x : Int32} (hq : h.1[q]? = some (.inl (2, vs))) (hi : ¬ i < 0) (hv : vs[i.toNatClampNeg]? = some (.int x)) (hd : decode cc pc = .ok (.baload, 1)) : pm_Go p l e R s m args below meth c Q D aC b A nL nc0 ns0 (pc, lv, .int i :: .ref q :: r, h) (pc + 1, lv, .int x :: r, h) := by
  intro ad ls H locs cells slots F O _ _ kk
  have hl : i.toNatClampNeg < vs.length := (List.getElem?_eq_some_iff.mp hv).1
  have e : pm_gi (vs.getD i.toNatClampNeg .null) = x := by rw [List.getD_eq_getElem?_getD, hv]; rfl
  refine va_zald hx hb hK F.1 q 2 (pm_ch_get hq) rfl (fun z => z.elim hi (fun z => absurd hl (Nat.not_lt.mpr z))) hd ?_
  dsimp only
  rw [e]
  exact kk ad ls H locs cells slots (fun _ _ => rfl) F
theorem pm_cc_arr {b : Nat} {aC : Nat → ClassId} {ad : Nat → Nat} {t : Nat} {vs : List Value} (h3 : 3 ≤ t) : pm_cc b aC ad (.inl (t, vs)) = .inl (aC t, vs.length, .inr (.inr (.inr (.inr (fun j => pm_gr ad (vs.getD j .null)))))) := by
  match t, h3 with
  | t + 3, _ => rfl
theorem po_aaload (hx : p.tables.exec = Jvm.exec) (hb : c.code = cc) (hK : va_K D vwCl (pm_tys aC) s) {q t : Nat} {C : String} {vs : List Value} {i : Int32} {x : Nat} (hq : h.1[q]? = some (.inl (t, vs))) (ht : (pm_tys aC)[t]? = some (aC t, .object C)) (h3 : 3 ≤ t) (hi : ¬ i < 0) (hv : vs[i.toNatClampNeg]? = some (.ref x)) (hd : decode cc pc = .ok (.aaload, 1)) : pm_Go p l e R s m args below meth c Q D aC b A nL nc0 ns0 (pc, lv, .int i :: .ref q :: r, h) (pc + 1, lv, .ref x :: r, h) := by
  intro ad ls H locs cells slots F O _ _ kk
  have hl : i.toNatClampNeg < vs.length := (List.getElem?_eq_some_iff.mp hv).1
  have e : pm_gr ad (vs.getD i.toNatClampNeg .null) = some (ad x) := by rw [List.getD_eq_getElem?_getD, hv]; rfl
  refine va_aldq hx hb hK F.1 q t ((pm_ch_get hq).trans (by rw [pm_cc_arr h3])) ht (fun z => z.elim hi (fun z => absurd hl (Nat.not_lt.mpr z))) hd ?_
  dsimp only
  rw [e]
  exact kk ad ls H locs cells slots (fun _ _ => rfl) F
theorem po_aaloadN (hx : p.tables.exec = Jvm.exec) (hb : c.code = cc) (hK : va_K D vwCl (pm_tys aC) s) {q t : Nat} {C : String} {vs : List Value} {i : Int32} {x : Nat} (hq : h.1[q]? = some (.inl (t, vs))) (ht : (pm_tys aC)[t]? = some (aC t, .object C)) (h3 : 3 ≤ t) (hi : ¬ i < 0) (hv : vs[i.toNatClampNeg]? = some (.null)) (hd : decode cc pc = .ok (.aaload, 1)) : pm_Go p l e R s m args below meth c Q D aC b A nL nc0 ns0 (pc, lv, .int i :: .ref q :: r, h) (pc + 1, lv, .null :: r, h) := by
  intro ad ls H locs cells slots F O _ _ kk
  have hl : i.toNatClampNeg < vs.length := (List.getElem?_eq_some_iff.mp hv).1
  have e : pm_gr ad (vs.getD i.toNatClampNeg .null) = none := by rw [List.getD_eq_getElem?_getD, hv]; rfl
  refine va_aldq hx hb hK F.1 q t ((pm_ch_get hq).trans (by rw [pm_cc_arr h3])) ht (fun z => z.elim hi (fun z => absurd hl (Nat.not_lt.mpr z))) hd ?_
  dsimp only
  rw [e]
  exact kk ad ls H locs cells slots (fun _ _ => rfl) F
theorem po_iastore (hx : p.tables.exec = Jvm.exec) (hb : c.code = cc) (hK : va_K D vwCl (pm_tys aC) s) {q : Nat} {vs : List Value} {i : Int32} {x : Int32} (hq : h.1[q]? = some (.inl (0, vs))) (hi : ¬ i < 0) (hl : i.toNatClampNeg < vs.length) (hd : decode cc pc = .ok (.iastore, 1)) : pm_Go p l e R s m args below meth c Q D aC b A nL nc0 ns0 (pc, lv, .int x :: .int i :: .ref q :: r, h) (pc + 1, lv, r, (h.1.set q (.inl (0, vs.set i.toNatClampNeg (.int x))), h.2)) := by
  intro ad ls H locs cells slots F O _ _ kk
  refine va_iast hx hb hK F.1 F.2.1 F.2.2.1 q 0 (pm_ch_get hq) rfl (fun z => z.elim hi (fun z => absurd hl (Nat.not_lt.mpr z))) hd (fun H1 locs1 hP hD hS => ?_)
  have e : (pm_ch b aC ad h.1).set q (ad q, .inl (aC 0, vs.length, .inl (upd (fun j => pm_gi (vs.getD j .null)) i.toNatClampNeg x))) = pm_ch b aC ad (h.1.set q (.inl (0, vs.set i.toNatClampNeg (.int x)))) := by
    rw [pm_ch_set, ← pm_gi_set vs hl x]
    congr 2
    show (Sum.inl (_, _, _) : va_E) = Sum.inl (_, (vs.set _ _).length, _)
    rw [List.length_set]
    rfl
  exact kk ad ls H1 locs1 cells slots (fun _ _ => rfl) ⟨e ▸ hP, e ▸ hD, hS, F.2.2.2.1, F.2.2.2.2⟩
theorem po_lastore (hx : p.tables.exec = Jvm.exec) (hb : c.code = cc) (hK : va_K D vwCl (pm_tys aC) s) {q : Nat} {vs : List Value} {i : Int32} {x : Int64} (hq : h.1[q]? = some (.inl (1, vs))) (hi : ¬ i < 0) (hl : i.toNatClampNeg < vs.length) (hd : decode cc pc = .ok (.lastore, 1)) : pm_Go p l e R s m args below meth c Q D aC b A nL nc0 ns0 (pc, lv, .long x :: .int i :: .ref q :: r, h) (pc + 1, lv, r, (h.1.set q (.inl (1, vs.set i.toNatClampNeg (.long x))), h.2)) := by
  intro ad ls H locs cells slots F O _ _ kk
  refine va_last hx hb hK F.1 F.2.1 F.2.2.1 q 1 (pm_ch_get hq) rfl (fun z => z.elim hi (fun z => absurd hl (Nat.not_lt.mpr z))) hd (fun H1 locs1 hP hD hS => ?_)
  have e : (pm_ch b aC ad h.1).set q (ad q, .inl (aC 1, vs.length, .inr (.inl (vp_updL (fun j => pm_gl (vs.getD j .null)) i.toNatClampNeg x)))) = pm_ch b aC ad (h.1.set q (.inl (1, vs.set i.toNatClampNeg (.long x)))) := by
    rw [pm_ch_set, ← pm_gl_set vs hl x]
    congr 2
    show (Sum.inl (_, _, _) : va_E) = Sum.inl (_, (vs.set _ _).length, _)
    rw [List.length_set]
    rfl
  exact kk ad ls H1 locs1 cells slots (fun _ _ => rfl) ⟨e ▸ hP, e ▸ hD, hS, F.2.2.2.1, F.2.2.2.2⟩
theorem po_bastore (hx : p.tables.exec = Jvm.exec) (hb : c.code = cc) (hK : va_K D vwCl (pm_tys aC) s) {q : Nat} {vs : List Value} {i : Int32} {x : Int32} (hq : h.1[q]? = some (.inl (2, vs))) (hx01 : x = 0 ∨ x = 1) (hi : ¬ i < 0) (hl : i.toNatClampNeg < vs.length) (hd : decode cc pc = .ok (.bastore, 1)) : pm_Go p l e R s m args below meth c Q D aC b A nL nc0 ns0 (pc, lv, .int x :: .int i :: .ref q :: r, h) (pc + 1, lv, r, (h.1.set q (.inl (2, vs.set i.toNatClampNeg (.int x))), h.2)) := by
  intro ad ls H locs cells slots F O _ _ kk
  have hnar : vp_nar .boolean x = x := by
    rcases hx01 with rfl | rfl <;> rfl
  refine va_zast hx hb hK F.1 F.2.1 F.2.2.1 q 2 (pm_ch_get hq) rfl (fun z => z.elim hi (fun z => absurd hl (Nat.not_lt.mpr z))) hd (fun H1 locs1 hP hD hS => ?_)
  rw [hnar] at hP hD
  have e : (pm_ch b aC ad h.1).set q (ad q, .inl (aC 2, vs.length, .inl (upd (fun j => pm_gi (vs.getD j .null)) i.toNatClampNeg x))) = pm_ch b aC ad (h.1.set q (.inl (2, vs.set i.toNatClampNeg (.int x)))) := by
    rw [pm_ch_set, ← pm_gi_set vs hl x]
    congr 2
    show (Sum.inl (_, _, _) : va_E) = Sum.inl (_, (vs.set _ _).length, _)
    rw [List.length_set]
    rfl
  exact kk ad ls H1 locs1 cells slots (fun _ _ => rfl) ⟨e ▸ hP, e ▸ hD, hS, F.2.2.2.1, F.2.2.2.2⟩
theorem po_aastore (hx : p.tables.exec = Jvm.exec) (hb : c.code = cc) (hK : va_K D vwCl (pm_tys aC) s) {q t : Nat} {C : String} {vs : List Value} {i : Int32} {w ci N : Nat} {T : u_T} {ws : List Value} (hw : h.1[w]? = some (.inr (ci, ws))) (hc : vwCl[ci]? = some (C, T, N)) (hq : h.1[q]? = some (.inl (t, vs))) (ht : (pm_tys aC)[t]? = some (aC t, .object C)) (h3 : 3 ≤ t) (hi : ¬ i < 0) (hl : i.toNatClampNeg < vs.length) (hd : decode cc pc = .ok (.aastore, 1)) : pm_Go p l e R s m args below meth c Q D aC b A nL nc0 ns0 (pc, lv, .ref w :: .int i :: .ref q :: r, h) (pc + 1, lv, r, (h.1.set q (.inl (t, vs.set i.toNatClampNeg (.ref w))), h.2)) := by
  intro ad ls H locs cells slots F O _ _ kk
  refine va_astq hx hb hK F.1 F.2.1 F.2.2.1 q t w ci (r := (C, T, N)) ((pm_ch_get hq).trans (by rw [pm_cc_arr h3])) ht (pm_ch_get hw) hc (fun z => z.elim hi (fun z => absurd hl (Nat.not_lt.mpr z))) hd (fun H1 locs1 hP hD hS => ?_)
  have e : (pm_ch b aC ad h.1).set q (ad q, .inl (aC t, vs.length, .inr (.inr (.inr (.inr (va_up (fun j => pm_gr ad (vs.getD j .null)) i.toNatClampNeg (some (ad w)))))))) = pm_ch b aC ad (h.1.set q (.inl (t, vs.set i.toNatClampNeg (.ref w)))) := by
    rw [pm_ch_set, pm_cc_arr h3, pm_gr_set ad vs hl (.ref w), List.length_set]
    rfl
  exact kk ad ls H1 locs1 cells slots (fun _ _ => rfl) ⟨e ▸ hP, e ▸ hD, hS, F.2.2.2.1, F.2.2.2.2⟩
theorem po_aastoreN (hx : p.tables.exec = Jvm.exec) (hb : c.code = cc) (hK : va_K D vwCl (pm_tys aC) s) {q t : Nat} {C : String} {vs : List Value} {i : Int32} (hq : h.1[q]? = some (.inl (t, vs))) (ht : (pm_tys aC)[t]? = some (aC t, .object C)) (h3 : 3 ≤ t) (hi : ¬ i < 0) (hl : i.toNatClampNeg < vs.length) (hd : decode cc pc = .ok (.aastore, 1)) : pm_Go p l e R s m args below meth c Q D aC b A nL nc0 ns0 (pc, lv, .null :: .int i :: .ref q :: r, h) (pc + 1, lv, r, (h.1.set q (.inl (t, vs.set i.toNatClampNeg (.null))), h.2)) := by
  intro ad ls H locs cells slots F O _ _ kk
  refine va_astqN hx hb hK F.1 F.2.1 F.2.2.1 q t ((pm_ch_get hq).trans (by rw [pm_cc_arr h3])) ht (fun z => z.elim hi (fun z => absurd hl (Nat.not_lt.mpr z))) hd (fun H1 locs1 hP hD hS => ?_)
  have e : (pm_ch b aC ad h.1).set q (ad q, .inl (aC t, vs.length, .inr (.inr (.inr (.inr (va_up (fun j => pm_gr ad (vs.getD j .null)) i.toNatClampNeg (none))))))) = pm_ch b aC ad (h.1.set q (.inl (t, vs.set i.toNatClampNeg (.null)))) := by
    rw [pm_ch_set, pm_cc_arr h3, pm_gr_set ad vs hl (.null), List.length_set]
    rfl
  exact kk ad ls H1 locs1 cells slots (fun _ _ => rfl) ⟨e ▸ hP, e ▸ hD, hS, F.2.2.2.1, F.2.2.2.2⟩
theorem po_alen (hx : p.tables.exec = Jvm.exec) (hb : c.code = cc) (hK : va_K D vwCl (pm_tys aC) s) {q t : Nat} {ty : FieldType} {vs : List Value} (hq : h.1[q]? = some (.inl (t, vs))) (ht : (pm_tys aC)[t]? = some (aC t, ty)) (hd : decode cc pc = .ok (.arraylength, 1)) : pm_Go p l e R s m args below meth c Q D aC b A nL nc0 ns0 (pc, lv, .ref q :: r, h) (pc + 1, lv, .int (Int32.ofNat vs.length) :: r, h) := by
  intro ad ls H locs cells slots F O _ _ kk
  exact va_alen hx hb hK F.1 q t (pm_ch_get hq) ht rfl hd (kk ad ls H locs cells slots (fun _ _ => rfl) F)
theorem po_slen (hx : p.tables.exec = Jvm.exec) (hb : c.code = cc) (hX : va_X b sc.1 sc.2 s s.heap) (hbl : b < s.heap.size) (hbA : ¬ A b) {x : Nat} (hd : decode cc pc = .ok (.arraylength, 1)) : pm_Go p l e R s m args below meth c Q D aC b A nL nc0 ns0 (pc, lv, .retAddr x :: r, h) (pc + 1, lv, .int (Int32.ofNat sc.1) :: r, h) :=
  fun ad ls H locs cells slots F O _ _ kk => va_slen hx hb hX hbl hbA F.2.2.1 hd (kk ad ls H locs cells slots (fun _ _ => rfl) F)
theorem po_sld (hx : p.tables.exec = Jvm.exec) (hb : c.code = cc) (hX : va_X b sc.1 sc.2 s s.heap) (hbl : b < s.heap.size) (hbA : ¬ A b) {x : Nat} {i : Int32} (hi : ¬ i < 0) (hl : i.toNatClampNeg < sc.1) (hd : decode cc pc = .ok (.iaload, 1)) : pm_Go p l e R s m args below meth c Q D aC b A nL nc0 ns0 (pc, lv, .int i :: .retAddr x :: r, h) (pc + 1, lv, .int (sc.2 i.toNatClampNeg) :: r, h) :=
  fun ad ls H locs cells slots F O _ _ kk => va_sld hx hb hX hbl hbA F.2.2.1 (fun z => z.elim hi (fun z => absurd hl (Nat.not_lt.mpr z))) hd (kk ad ls H locs cells slots (fun _ _ => rfl) F)
theorem po_new (hx : p.tables.exec = Jvm.exec) (hb : c.code = cc) (hK : va_K D vwCl (pm_tys aC) s) {C : String} {T : u_T} {N ci i : Nat} (hus : ∀ w ∈ u_ws C T N, w.before args s = true) (hown : s.vm.findClass own = some m.cls) (hc : vwCl[ci]? = some (C, T, N)) (ty : Nat → FieldType) (hty : ∀ k, k < N → parseFieldDescriptor (T k).2.2.1 = some (ty k)) (hcl : (Cond.classLink own i C).before args s = true) (hinst : (Cond.instantiable C N).before args s = true) (hini : (Cond.initialized C).before args s = true) (hA : ∀ q, s.heap.size ≤ q → A q) (hfs : ∀ j, j < N → defaultValue (ty j) = vp_V (pm_df ci) j) (hN : (pm_df ci).length = N) (hd : decode cc pc = .ok (.new i, 3)) :
    pm_Go p l e R s m args below meth c Q D aC b A nL nc0 ns0 (pc, lv, r, h) (pc + 3, lv, .ref h.1.length :: r, (h.1 ++ [.inr (ci, pm_df ci)], h.2.1 + 1, h.2.2 + (pm_df ci).length)) := by
  intro ad ls H locs cells slots F O hc1 hs1 kk
  have F : pm_Fc s D aC b A nL nc0 ns0 ad lv h ls H locs cells slots := F
  have O : pm_ok lv (r) h.1 := O
  have hc1 : h.2.1 + 1 ≤ nc0 + R.cells := hc1
  have hs1 : h.2.2 + (pm_df ci).length ≤ ns0 + R.slots := hs1
  have f5 : cells + nc0 = h.2.1 := F.2.2.2.2.1
  have f6 : slots + ns0 = h.2.2 := F.2.2.2.2.2
  refine va_new hx hb hus (fun _ z => z) ty hty hown hcl hinst hini hK F.1 F.2.1 F.2.2.1 hA hc (fs := pm_df ci) hfs (by omega) (by omega) hd (fun q H1 hP hD hS => ?_)
  rw [← hN]
  have e0 : ∀ ad, pm_cc b aC ad (.inr (ci, pm_df ci)) = .inr (ci, pm_df ci) := fun ad => by show (Sum.inr (ci, (pm_df ci).map (pm_cv b ad)) : va_E) = _; rw [pm_df_cv]
  rw [← e0 ad] at hP hD
  have ha : ∀ k, k < h.1.length → (fun k => if k = h.1.length then q else ad k) k = ad k := fun k hk => if_neg (Nat.ne_of_lt hk)
  have e7 := pm_upA (b := b) (aC := aC) (ad := ad) q O.2.2 (.inr (ci, pm_df ci)) (by rw [e0, e0])
  have k2 : W p l e R s m args below meth c H1 locs (cells + 1) (slots + (pm_df ci).length) Q (F0 m (pc + 3) ls (pm_cv b (fun k => if k = h.1.length then q else ad k) (.ref h.1.length) :: r.map (pm_cv b (fun k => if k = h.1.length then q else ad k)))) := kk (fun k => if k = h.1.length then q else ad k) ls H1 locs (cells + 1) (slots + (pm_df ci).length) ha ⟨e7 ▸ hP, e7 ▸ hD, hS, by rw [pm_cl_ad ha O.1]; exact F.2.2.2.1, by show _ = h.2.1 + 1; omega, by show _ = h.2.2 + (pm_df ci).length; omega⟩
  rw [pm_cvs_ad ha (O.2.1)] at k2
  have e2 : pm_cv b (fun k => if k = h.1.length then q else ad k) (.ref h.1.length) = .ref q := by show Value.ref (if _ then _ else _) = _; rw [if_pos rfl]
  rw [e2] at k2
  exact k2
theorem po_newi (hx : p.tables.exec = Jvm.exec) (hb : c.code = cc) (hK : va_K D vwCl (pm_tys aC) s) {n : Int32} (harr : (Cond.arrayClass .int).before args s = true) (hA : ∀ q, s.heap.size ≤ q → A q) (hn : ¬ n < 0) (hl : n.toNatClampNeg ≤ 1000) (hd : decode cc pc = .ok (.newarray .int, 2)) :
    pm_Go p l e R s m args below meth c Q D aC b A nL nc0 ns0 (pc, lv, .int n :: r, h) (pc + 2, lv, .ref h.1.length :: r, (h.1 ++ [.inl (0, List.replicate n.toNatClampNeg (pm_dv 0))], h.2.1 + 1, h.2.2 + n.toNatClampNeg)) := by
  intro ad ls H locs cells slots F O hc1 hs1 kk
  have F : pm_Fc s D aC b A nL nc0 ns0 ad lv h ls H locs cells slots := F
  have O : pm_ok lv (.int n :: r) h.1 := O
  have hc1 : h.2.1 + 1 ≤ nc0 + R.cells := hc1
  have hs1 : h.2.2 + n.toNatClampNeg ≤ ns0 + R.slots := hs1
  have f5 : cells + nc0 = h.2.1 := F.2.2.2.2.1
  have f6 : slots + ns0 = h.2.2 := F.2.2.2.2.2
  refine va_newa hx hb (atype := .int) harr (ty := .int) rfl hK F.1 F.2.1 F.2.2.1 hA (a0 := (n.toNatClampNeg, .inl (fun _ => 0))) (fun _ => rfl) hn rfl (by simp only [componentBytes]; omega) (by omega) (by omega) hd (fun q cA H1 hK' hP hD hS => ?_)
  have ecA : cA = aC 0 := Option.some.inj (((hK'.2 7 (cA, .int) rfl).2).symm.trans (hK.2 0 (aC 0, .int) rfl).2)
  subst ecA
  have e0 : ∀ ad, pm_cc b aC ad (.inl (0, List.replicate n.toNatClampNeg (pm_dv 0))) = .inl (aC 0, n.toNatClampNeg, .inl (fun _ => 0)) := fun ad => by
    show (Sum.inl (aC 0, (List.replicate _ _).length, _) : va_E) = _
    rw [List.length_replicate, ← pm_dv_i n.toNatClampNeg]
    rfl
  rw [← e0 ad] at hP hD
  have ha : ∀ k, k < h.1.length → (fun k => if k = h.1.length then q else ad k) k = ad k := fun k hk => if_neg (Nat.ne_of_lt hk)
  have e7 := pm_upA (b := b) (aC := aC) (ad := ad) q O.2.2 (.inl (0, List.replicate n.toNatClampNeg (pm_dv 0))) (by rw [e0, e0])
  have k2 : W p l e R s m args below meth c H1 locs (cells + 1) (slots + n.toNatClampNeg) Q (F0 m (pc + 2) ls (pm_cv b (fun k => if k = h.1.length then q else ad k) (.ref h.1.length) :: r.map (pm_cv b (fun k => if k = h.1.length then q else ad k)))) := kk (fun k => if k = h.1.length then q else ad k) ls H1 locs (cells + 1) (slots + n.toNatClampNeg) ha ⟨e7 ▸ hP, e7 ▸ hD, hS, by rw [pm_cl_ad ha O.1]; exact F.2.2.2.1, by show _ = h.2.1 + 1; omega, by show _ = h.2.2 + n.toNatClampNeg; omega⟩
  rw [pm_cvs_ad ha (fun v hv => O.2.1 v (List.mem_cons_of_mem _ hv))] at k2
  have e2 : pm_cv b (fun k => if k = h.1.length then q else ad k) (.ref h.1.length) = .ref q := by show Value.ref (if _ then _ else _) = _; rw [if_pos rfl]
  rw [e2] at k2
  exact k2
theorem po_newl (hx : p.tables.exec = Jvm.exec) (hb : c.code = cc) (hK : va_K D vwCl (pm_tys aC) s) {n : Int32} (harr : (Cond.arrayClass .long).before args s = true) (hA : ∀ q, s.heap.size ≤ q → A q) (hn : ¬ n < 0) (hl : n.toNatClampNeg ≤ 1000) (hd : decode cc pc = .ok (.newarray .long, 2)) :
    pm_Go p l e R s m args below meth c Q D aC b A nL nc0 ns0 (pc, lv, .int n :: r, h) (pc + 2, lv, .ref h.1.length :: r, (h.1 ++ [.inl (1, List.replicate n.toNatClampNeg (pm_dv 1))], h.2.1 + 1, h.2.2 + n.toNatClampNeg)) := by
  intro ad ls H locs cells slots F O hc1 hs1 kk
  have F : pm_Fc s D aC b A nL nc0 ns0 ad lv h ls H locs cells slots := F
  have O : pm_ok lv (.int n :: r) h.1 := O
  have hc1 : h.2.1 + 1 ≤ nc0 + R.cells := hc1
  have hs1 : h.2.2 + n.toNatClampNeg ≤ ns0 + R.slots := hs1
  have f5 : cells + nc0 = h.2.1 := F.2.2.2.2.1
  have f6 : slots + ns0 = h.2.2 := F.2.2.2.2.2
  refine va_newa hx hb (atype := .long) harr (ty := .long) rfl hK F.1 F.2.1 F.2.2.1 hA (a0 := (n.toNatClampNeg, .inr (.inl (fun _ => 0)))) (fun _ => rfl) hn rfl (by simp only [componentBytes]; omega) (by omega) (by omega) hd (fun q cA H1 hK' hP hD hS => ?_)
  have ecA : cA = aC 1 := Option.some.inj (((hK'.2 7 (cA, .long) rfl).2).symm.trans (hK.2 1 (aC 1, .long) rfl).2)
  subst ecA
  have e0 : ∀ ad, pm_cc b aC ad (.inl (1, List.replicate n.toNatClampNeg (pm_dv 1))) = .inl (aC 1, n.toNatClampNeg, .inr (.inl (fun _ => 0))) := fun ad => by
    show (Sum.inl (aC 1, (List.replicate _ _).length, _) : va_E) = _
    rw [List.length_replicate, ← pm_dv_l n.toNatClampNeg]
    rfl
  rw [← e0 ad] at hP hD
  have ha : ∀ k, k < h.1.length → (fun k => if k = h.1.length then q else ad k) k = ad k := fun k hk => if_neg (Nat.ne_of_lt hk)
  have e7 := pm_upA (b := b) (aC := aC) (ad := ad) q O.2.2 (.inl (1, List.replicate n.toNatClampNeg (pm_dv 1))) (by rw [e0, e0])
  have k2 : W p l e R s m args below meth c H1 locs (cells + 1) (slots + n.toNatClampNeg) Q (F0 m (pc + 2) ls (pm_cv b (fun k => if k = h.1.length then q else ad k) (.ref h.1.length) :: r.map (pm_cv b (fun k => if k = h.1.length then q else ad k)))) := kk (fun k => if k = h.1.length then q else ad k) ls H1 locs (cells + 1) (slots + n.toNatClampNeg) ha ⟨e7 ▸ hP, e7 ▸ hD, hS, by rw [pm_cl_ad ha O.1]; exact F.2.2.2.1, by show _ = h.2.1 + 1; omega, by show _ = h.2.2 + n.toNatClampNeg; omega⟩
  rw [pm_cvs_ad ha (fun v hv => O.2.1 v (List.mem_cons_of_mem _ hv))] at k2
  have e2 : pm_cv b (fun k => if k = h.1.length then q else ad k) (.ref h.1.length) = .ref q := by show Value.ref (if _ then _ else _) = _; rw [if_pos rfl]
  rw [e2] at k2
  exact k2
theorem po_newz (hx : p.tables.exec = Jvm.exec) (hb : c.code = cc) (hK : va_K D vwCl (pm_tys aC) s) {n : Int32} (harr : (Cond.arrayClass .boolean).before args s = true) (hA : ∀ q, s.heap.size ≤ q → A q) (hn : ¬ n < 0) (hl : n.toNatClampNeg ≤ 1000) (hd : decode cc pc = .ok (.newarray .boolean, 2)) :
    pm_Go p l e R s m args below meth c Q D aC b A nL nc0 ns0 (pc, lv, .int n :: r, h) (pc + 2, lv, .ref h.1.length :: r, (h.1 ++ [.inl (2, List.replicate n.toNatClampNeg (pm_dv 2))], h.2.1 + 1, h.2.2 + n.toNatClampNeg)) := by
  intro ad ls H locs cells slots F O hc1 hs1 kk
  have F : pm_Fc s D aC b A nL nc0 ns0 ad lv h ls H locs cells slots := F
  have O : pm_ok lv (.int n :: r) h.1 := O
  have hc1 : h.2.1 + 1 ≤ nc0 + R.cells := hc1
  have hs1 : h.2.2 + n.toNatClampNeg ≤ ns0 + R.slots := hs1
  have f5 : cells + nc0 = h.2.1 := F.2.2.2.2.1
  have f6 : slots + ns0 = h.2.2 := F.2.2.2.2.2
  refine va_newa hx hb (atype := .boolean) harr (ty := .boolean) rfl hK F.1 F.2.1 F.2.2.1 hA (a0 := (n.toNatClampNeg, .inl (fun _ => 0))) (fun _ => rfl) hn rfl (by simp only [componentBytes]; omega) (by omega) (by omega) hd (fun q cA H1 hK' hP hD hS => ?_)
  have ecA : cA = aC 2 := Option.some.inj (((hK'.2 7 (cA, .boolean) rfl).2).symm.trans (hK.2 2 (aC 2, .boolean) rfl).2)
  subst ecA
  have e0 : ∀ ad, pm_cc b aC ad (.inl (2, List.replicate n.toNatClampNeg (pm_dv 2))) = .inl (aC 2, n.toNatClampNeg, .inl (fun _ => 0)) := fun ad => by
    show (Sum.inl (aC 2, (List.replicate _ _).length, _) : va_E) = _
    rw [List.length_replicate, ← pm_dv_i n.toNatClampNeg]
    rfl
  rw [← e0 ad] at hP hD
  have ha : ∀ k, k < h.1.length → (fun k => if k = h.1.length then q else ad k) k = ad k := fun k hk => if_neg (Nat.ne_of_lt hk)
  have e7 := pm_upA (b := b) (aC := aC) (ad := ad) q O.2.2 (.inl (2, List.replicate n.toNatClampNeg (pm_dv 2))) (by rw [e0, e0])
  have k2 : W p l e R s m args below meth c H1 locs (cells + 1) (slots + n.toNatClampNeg) Q (F0 m (pc + 2) ls (pm_cv b (fun k => if k = h.1.length then q else ad k) (.ref h.1.length) :: r.map (pm_cv b (fun k => if k = h.1.length then q else ad k)))) := kk (fun k => if k = h.1.length then q else ad k) ls H1 locs (cells + 1) (slots + n.toNatClampNeg) ha ⟨e7 ▸ hP, e7 ▸ hD, hS, by rw [pm_cl_ad ha O.1]; exact F.2.2.2.1, by show _ = h.2.1 + 1; omega, by show _ = h.2.2 + n.toNatClampNeg; omega⟩
  rw [pm_cvs_ad ha (fun v hv => O.2.1 v (List.mem_cons_of_mem _ hv))] at k2
  have e2 : pm_cv b (fun k => if k = h.1.length then q else ad k) (.ref h.1.length) = .ref q := by show Value.ref (if _ then _ else _) = _; rw [if_pos rfl]
  rw [e2] at k2
  exact k2
theorem po_newq (hx : p.tables.exec = Jvm.exec) (hb : c.code = cc) (hK : va_K D vwCl (pm_tys aC) s) {n : Int32} {t i : Nat} {C : String} (hown : s.vm.findClass own = some m.cls) (hcl : (Cond.classLink own i C).before args s = true) (hover : va_AO C s) (ht : (pm_tys aC)[t]? = some (aC t, .object C)) (h3 : 3 ≤ t) (hA : ∀ q, s.heap.size ≤ q → A q) (hn : ¬ n < 0) (hl : n.toNatClampNeg ≤ 1000) (hd : decode cc pc = .ok (.anewarray i, 3)) :
    pm_Go p l e R s m args below meth c Q D aC b A nL nc0 ns0 (pc, lv, .int n :: r, h) (pc + 3, lv, .ref h.1.length :: r, (h.1 ++ [.inl (t, List.replicate n.toNatClampNeg .null)], h.2.1 + 1, h.2.2 + n.toNatClampNeg)) := by
  intro ad ls H locs cells slots F O hc1 hs1 kk
  have F : pm_Fc s D aC b A nL nc0 ns0 ad lv h ls H locs cells slots := F
  have O : pm_ok lv (.int n :: r) h.1 := O
  have hc1 : h.2.1 + 1 ≤ nc0 + R.cells := hc1
  have hs1 : h.2.2 + n.toNatClampNeg ≤ ns0 + R.slots := hs1
  have f5 : cells + nc0 = h.2.1 := F.2.2.2.2.1
  have f6 : slots + ns0 = h.2.2 := F.2.2.2.2.2
  refine va_newq hx hb hown hcl hover hK F.1 F.2.1 F.2.2.1 hA hn rfl (by omega) (by omega) (by omega) hd (fun q cA H1 hK' hP hD hS => ?_)
  have ecA : cA = aC t := by
    obtain ⟨_, _, _, _, _, h4⟩ := (hK'.2 7 (cA, .object C) rfl).2
    obtain ⟨_, _, _, _, _, h5⟩ := (hK.2 t (aC t, .object C) ht).2
    exact Option.some.inj (h4.symm.trans h5)
  subst ecA
  have e0 : ∀ ad, pm_cc b aC ad (.inl (t, List.replicate n.toNatClampNeg .null)) = .inl (aC t, n.toNatClampNeg, .inr (.inr (.inr (.inr (fun _ => none))))) := fun ad => by
    rw [pm_cc_arr h3, List.length_replicate, pm_dv_r]
  rw [← e0 ad] at hP hD
  have ha : ∀ k, k < h.1.length → (fun k => if k = h.1.length then q else ad k) k = ad k := fun k hk => if_neg (Nat.ne_of_lt hk)
  have e7 := pm_upA (b := b) (aC := aC) (ad := ad) q O.2.2 (.inl (t, List.replicate n.toNatClampNeg .null)) (by rw [e0, e0])
  have k2 : W p l e R s m args below meth c H1 locs (cells + 1) (slots + n.toNatClampNeg) Q (F0 m (pc + 3) ls (pm_cv b (fun k => if k = h.1.length then q else ad k) (.ref h.1.length) :: r.map (pm_cv b (fun k => if k = h.1.length then q else ad k)))) := kk (fun k => if k = h.1.length then q else ad k) ls H1 locs (cells + 1) (slots + n.toNatClampNeg) ha ⟨e7 ▸ hP, e7 ▸ hD, hS, by rw [pm_cl_ad ha O.1]; exact F.2.2.2.1, by show _ = h.2.1 + 1; omega, by show _ = h.2.2 + n.toNatClampNeg; omega⟩
  rw [pm_cvs_ad ha (fun v hv => O.2.1 v (List.mem_cons_of_mem _ hv))] at k2
  have e2 : pm_cv b (fun k => if k = h.1.length then q else ad k) (.ref h.1.length) = .ref q := by show Value.ref (if _ then _ else _) = _; rw [if_pos rfl]
  rw [e2] at k2
  exact k2
theorem po_objinit (hx : p.tables.exec = Jvm.exec) (hb : c.code = cc) {q i : Nat} (hml : c.maxLocals = nL) (hown : s.vm.findClass own = some m.cls) (h1 : (Cond.methodLink own i Lib.objectInit).before args s = true) (h2 : (Cond.instanceMethod Lib.objectInit).before args s = true) (h3 : (Cond.code Lib.objectInit ⟨#[0xb1]⟩ 1 none).before args s = true) (hf : 1 ≤ R.frames) (hlo : 42 ≤ R.locals) (hsu : pm_sum r ≤ 8) (hd : decode cc pc = .ok (.invokespecial i, 3)) : pm_Go p l e R s m args below meth c Q D aC b A nL nc0 ns0 (pc, lv, .ref q :: r, h) (pc + 3, lv, r, h) := by
  intro ad ls H locs cells slots F O _ _ kk
  refine W.objInit hx hb hown h1 h2 h3 rfl (by rw [hml]; exact F.2.2.2.1.1) rfl hd hf ?_ (kk ad ls H locs cells slots (fun _ _ => rfl) F)
  have := pm_sum_cv b ad r
  unfold pm_sum at this hsu
  show 2 * 0 + _ + 12 ≤ _
  omega
theorem po_mmax (hx : p.tables.exec = Jvm.exec) (hb : c.code = cc) {x y : Int32} {i : Nat} (hml : c.maxLocals = nL) (hown : s.vm.findClass own = some m.cls) (h1 : (Cond.methodLink own i Lib.Math.max.name).before args s = true) (h2 : (Cond.static Lib.Math.max.name).before args s = true) (h3 : (Cond.initialized "java/lang/Math").before args s = true) (h4 : (Cond.code Lib.Math.max.name Lib.Math.max.code 2 (some .int)).before args s = true) (hf : 1 ≤ R.frames) (hlo : 42 ≤ R.locals) (hsu : pm_sum r ≤ 8) (hd : decode cc pc = .ok (.invokestatic i, 3)) : pm_Go p l e R s m args below meth c Q D aC b A nL nc0 ns0 (pc, lv, .int y :: .int x :: r, h) (pc + 3, lv, .int (if x < y then y else x) :: r, h) := by
  intro ad ls H locs cells slots F O hc1 hs1 kk
  refine va_mmax hx hb (by rw [hml]; exact F.2.2.2.1.1.symm) hown h1 h2 h3 h4 hf ?_ (by have f5 : cells + nc0 = h.2.1 := F.2.2.2.2.1; have hc1 : h.2.1 ≤ nc0 + R.cells := hc1; omega) (by have f6 : slots + ns0 = h.2.2 := F.2.2.2.2.2; have hs1 : h.2.2 ≤ ns0 + R.slots := hs1; omega) hd (kk ad ls H locs cells slots (fun _ _ => rfl) F)
  have := pm_sum_cv b ad r
  unfold pm_sum at this hsu
  omega
theorem po_copy (hx : p.tables.exec = Jvm.exec) (hb : c.code = cc) (hK : va_K D vwCl (pm_tys aC) s) {sp dp n : Int32} {i q w : Nat} {vs ws : List Value} (hml : c.maxLocals = nL) (hown : s.vm.findClass own = some m.cls) (h1 : (Cond.methodLink own i arraycopyName).before args s = true) (h2 : (Cond.native arraycopyName).before args s = true) (h3 : (Cond.static arraycopyName).before args s = true) (h4 : (Cond.initialized "java/lang/System").before args s = true) (hq : h.1[q]? = some (.inl (0, vs))) (hw : h.1[w]? = some (.inl (0, ws))) (hsp : ¬ sp < 0) (hdp : ¬ dp < 0) (hn : ¬ n < 0) (ha : sp.toNatClampNeg + n.toNatClampNeg ≤ vs.length) (hb2 : dp.toNatClampNeg + n.toNatClampNeg ≤ ws.length) (hf : 1 ≤ R.frames) (hlo : 42 ≤ R.locals) (hsu : pm_sum r ≤ 8) (hd : decode cc pc = .ok (.invokestatic i, 3)) :
    pm_Go p l e R s m args below meth c Q D aC b A nL nc0 ns0 (pc, lv, .int n :: .int dp :: .ref w :: .int sp :: .ref q :: r, h) (pc + 3, lv, r, (h.1.set w (.inl (0, pm_cpy vs ws sp.toNatClampNeg dp.toNatClampNeg n.toNatClampNeg)), h.2)) := by
  intro ad ls H locs cells slots F O hc1 hs1 kk
  refine va_copyi hx hb (by rw [hml]; exact F.2.2.2.1.1.symm) hown h1 h2 h3 h4 hK F.1 F.2.1 F.2.2.1 q w 0 0 (pm_ch_get hq) (pm_ch_get hw) rfl rfl rfl hsp hdp hn ha hb2 (fun _ _ => rfl) hf ?_ hd (fun H1 locs1 hP hD hS => ?_)
  · have := pm_sum_cv b ad r
    unfold pm_sum at this hsu
    have e9 : nativeFrameWords "java/lang/System" "arraycopy" 5 + 11 ≤ 34 := by decide +kernel
    omega
  · have e : (pm_ch b aC ad h.1).set w (ad w, .inl (aC 0, ws.length, .inl (va_cpy (fun j => pm_gi (vs.getD j .null)) (fun j => pm_gi (ws.getD j .null)) sp.toNatClampNeg dp.toNatClampNeg n.toNatClampNeg))) = pm_ch b aC ad (h.1.set w (.inl (0, pm_cpy vs ws sp.toNatClampNeg dp.toNatClampNeg n.toNatClampNeg))) := by
      rw [pm_ch_set, ← pm_gi_cpy vs ws hb2]
      congr 2
      show (Sum.inl (_, _, _) : va_E) = Sum.inl (_, (pm_cpy _ _ _ _ _).length, _)
      rw [pm_cpy_len]
      rfl
    exact kk ad ls H1 locs1 cells slots (fun _ _ => rfl) ⟨e ▸ hP, e ▸ hD, hS, F.2.2.2.1, F.2.2.2.2⟩
end PH
