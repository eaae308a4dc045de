/-! THE PURE MACHINE'S RUN IS THE MACHINE'S: contexts, composition -/
def pm_strs : List (Nat × String) := [(46, "no such op or key"), (56, "there are 12 requests"), (72, "no such request"), (82, "from is below 0"), (93, "no such replica"), (99, "no such replica or request, or the faulty one"), (130, "no such replica or what"), (142, "no such message or what"), (145, "no such request or what")]
def pm_ncs : List (String × String) := [("java/lang/IllegalStateException", "java/lang/IllegalArgumentException")]
/-- what a method may take for granted of the state at its entry, A being what it may change -/
def pm_Amb (D : va_G) (aC : Nat → ClassId) (b : Nat) (sc : pm_Sc) (sa : Nat → Nat) (A : Nat → Prop) (U : State) : Prop :=
  va_K D vwCl (pm_tys aC) U ∧ (∀ w ∈ pm_NW, va_Nw w U) ∧ (∀ t, 3 ≤ t → t ≤ 6 → va_AO (pm_atag t) U) ∧ (va_X b sc.1 sc.2 U U.heap ∧ b < U.heap.size ∧ ¬ A b) ∧
  ((∀ q ∈ pm_strs, vk_R RX7 q.1 q.2 (sa q.1) U) ∧ vx_Zq Bundle.tN "UNASSIGNED_STACK" Bundle.steD A U U.heap ∧ vx_Zq Bundle.tN "SUPPRESSED_SENTINEL" Bundle.listD A U U.heap) ∧ ∀ q ∈ pm_ncs, va_Nc q.1 q.2 U
theorem pm_NW_on {w : Cond} (h : w ∈ pm_NW) : w.onTables = true := by
  have h1 := (List.mem_filter.mp h).2
  cases w <;> first | rfl | (cases h1)
theorem pm_NW_warm {w : Cond} (h : w ∈ pm_NW) {s U : State} (hW : s.WarmedH U.vm) (hz : va_Nw w s) : va_Nw w U := by
  have h1 := (List.mem_filter.mp h).2
  cases w
  case fieldLinkNest => exact va_Nw.warmF hW hz
  case methodLinkNest => exact va_Nw.warmM hW hz
  case castable => exact va_Nw.warmC hW hz
  case declares => exact va_Nw.warmD hW hz
  all_goals (cases h1)
section PA
variable {D : va_G} {aC : Nat → ClassId} {b : Nat} {sc : pm_Sc} {sa : Nat → Nat} {A : Nat → Prop}
theorem pm_Amb.blind {U : State} (h : pm_Amb D aC b sc sa A U) (g : JFrame) (mk : MethodId) (a : Array Value) : pm_Amb D aC b sc sa A (U.calling g mk a) := by
  obtain ⟨h1, h2, h3, ⟨h4, h5, h6⟩, ⟨h7, h8, h9⟩, h10⟩ := h
  exact ⟨va_K.moved (u := U) (U := U.calling g mk a) (Vm.Alike.refl U.vm) h1, fun w hw => va_Nw.same (u := U) (U := U.calling g mk a) (pm_NW_on hw) rfl (h2 w hw), fun t x y => va_AO.moved (u := U) (U := U.calling g mk a) (Vm.Alike.refl U.vm) (h3 t x y), ⟨va_X.moved (u := U) (U := U.calling g mk a) (Vm.Alike.refl U.vm) h4, h5, h6⟩,
    ⟨fun q hq => vk_R.same (u := U) (U := U.calling g mk a) rfl (h7 q hq), vx_Zq.moved (u := U) (U := U.calling g mk a) (Vm.Alike.refl U.vm) h8, vx_Zq.moved (u := U) (U := U.calling g mk a) (Vm.Alike.refl U.vm) h9⟩, fun q hq => va_Nc.moved (u := U) (U := U.calling g mk a) (Vm.Alike.refl U.vm) (h10 q hq)⟩
theorem pm_sub {s : State} {ws : va_W} {H : Heap} {locs : List Loc} (hA : ∀ q, s.heap.size ≤ q → A q) (hD : va_D A ws) (hS : va_S A s.heap H locs) : ∀ q, va_A ws H.size q → A q := by
  intro q h
  rcases h with ⟨k, e, h⟩ | h
  · exact hD.2 k (q, e) h
  · exact hA q (Nat.le_trans hS.1 h)
theorem pm_Amb.go {s : State} (h : pm_Amb D aC b sc sa A s) {ws : va_W} {H : Heap} {locs : List Loc} (hA : ∀ q, s.heap.size ≤ q → A q) (hD : va_D A ws) (hS : va_S A s.heap H locs) {U : State} (hU : U.heap = H) (hW : s.WarmedH U.vm) : pm_Amb D aC b sc sa (va_A ws H.size) U := by
  obtain ⟨h1, h2, h3, ⟨h4, h5, h6⟩, ⟨h7, h8, h9⟩, h10⟩ := h
  subst hU
  have sub := pm_sub hA hD hS
  refine ⟨va_K.moved hW.alike h1, fun w hw => pm_NW_warm hw hW (h2 w hw), fun t x y => va_AO.moved hW.alike (h3 t x y), ⟨va_X.moved hW.alike (h4.kept (hS.2.1 b h5 h6)), Nat.lt_of_lt_of_le h5 hS.1, fun z => h6 (sub b z)⟩,
    ⟨fun q hq => vk_R.warm hW (h7 q hq), (vx_Zq.moved hW.alike (h8.kept hS.2.1)).narrow sub, (vx_Zq.moved hW.alike (h9.kept hS.2.1)).narrow sub⟩, fun q hq => va_Nc.moved hW.alike (h10 q hq)⟩
end PA
/-- where method i runs -/
def pm_Ctx (p : Program) (R : Room) (s : State) (m : MethodId) (args : Array Value) (meth : Method) (c : Code) (D : va_G) (aC : Nat → ClassId) (b : Nat) (sc : pm_Sc) (sa : Nat → Nat) (A : Nat → Prop) (i : Nat) : Prop :=
  p.tables.exec = Jvm.exec ∧ c.code = pm_b i ∧ c.maxLocals = pm_nL i ∧ s.vm.findClass (pm_own i) = some m.cls ∧ (∀ w ∈ pm_G, w.before args s = true) ∧ pm_Amb D aC b sc sa A s ∧ (∀ q, s.heap.size ≤ q → A q) ∧ (pm_ini i = true → meth.name = "<init>") ∧ meth.locks = false ∧ c.exceptionTable.toList = tableOf (pm_hh i) ∧ pm_rk i ≤ R.frames ∧ 42 * pm_rk i ≤ R.locals
section PG
variable {p : Program} {l : Launch} {e : Env} {R : Room} {s : State} {m : MethodId} {args : Array Value} {below : List Frame} {meth : Method} {c : Code} {Q : State → Prop}
variable {D : va_G} {aC : Nat → ClassId} {b : Nat} {sc : pm_Sc} {sa : Nat → Nat} {A : Nat → Prop} {nL nc0 ns0 : Nat}
theorem pm_Go.rf {s0 : pm_S} : pm_Go p l e R s m args below meth c Q D aC b A nL nc0 ns0 s0 s0 := fun ad ls H locs cells slots F _ _ _ kk => kk ad ls H locs cells slots (fun _ _ => rfl) F
theorem pm_Go.tr {s0 s1 s2 : pm_S} (h1 : pm_Go p l e R s m args below meth c Q D aC b A nL nc0 ns0 s0 s1) (o1 : pm_Ok2 s0 s1) (h2 : pm_Go p l e R s m args below meth c Q D aC b A nL nc0 ns0 s1 s2) (o2 : pm_Ok2 s1 s2) : pm_Go p l e R s m args below meth c Q D aC b A nL nc0 ns0 s0 s2 :=
  fun ad ls H locs cells slots F O hc hs kk => h1 ad ls H locs cells slots F O (Nat.le_trans o2.2.1 hc) (Nat.le_trans o2.2.2.1 hs) (fun ad' ls' H' locs' cells' slots' ha F' => h2 ad' ls' H' locs' cells' slots' F' o1.1 hc hs (fun ad2 ls2 H2 locs2 cells2 slots2 ha2 F2 => kk ad2 ls2 H2 locs2 cells2 slots2 (fun k hk => (ha2 k (Nat.lt_of_lt_of_le hk o1.2.2.2)).trans (ha k hk)) F2))
/-- a step that stays in the frame -/
theorem pm_go_step {i : Nat} {s0 s1 : pm_S} (X : pm_Ctx p R s m args meth c D aC b sc sa A i) (hs : pm_step sc i s0 = some (.inl s1)) (O : pm_okS s0) : pm_Go p l e R s m args below meth c Q D aC b A (pm_nL i) nc0 ns0 s0 s1 := by
  obtain ⟨hx, hb, hml, hown, hG, hAm, hA, hin, hlk, htab, hrf, hrl⟩ := X
  obtain ⟨a, ha, hd⟩ := pm_step_at hs
  obtain ⟨r1, r2, r3, r4, -⟩ := pm_row ha
  obtain ⟨ins, len, res⟩ := a
  exact (pm_one (e := e) (l := l) (below := below) (Q := Q) (nc0 := nc0) (ns0 := ns0) hx hb hml hown hAm.1 hA hAm.2.2.2.1.1 hAm.2.2.2.1.2.1 hAm.2.2.2.1.2.2 (fun ci q h w hw => hG w (pm_usT ci q h w hw)) (fun w hw => hG w (r2 w (List.mem_append_left _ hw))) (fun w hw => va_Nw.use (pm_NW_on (r3 w (List.mem_append_left _ hw))) (hAm.2.1 w (r3 w (List.mem_append_left _ hw)))) hAm.2.2.1 r4 hin hrf hrl r1 hd O).1
end PG
theorem pm_args_cv (b : Nat) (ad : Nat → Nat) : ∀ (as : List Value) (k : Nat), lv_args k (as.map (pm_cv b ad)) = pm_cl b ad (lv_args k as)
  | [], k => rfl
  | v :: vs, k => by
    show (k, pm_cv b ad v) :: lv_args (if (pm_cv b ad v).category = 2 then k + 2 else k + 1) (vs.map (pm_cv b ad)) = (k, pm_cv b ad v) :: pm_cl b ad (lv_args (if v.category = 2 then k + 2 else k + 1) vs)
    rw [pm_cv_cat, pm_args_cv b ad vs]
theorem pm_sl_len : ∀ (as : List Value), (lg_sl as).length = pm_sum as
  | [] => rfl
  | v :: vs => by
    have ih := pm_sl_len vs
    unfold lg_sl pm_sum at ih ⊢
    rw [List.flatMap_cons, List.length_append, List.map_cons, List.sum_cons, ih]
    rcases lv_cat v with h | h <;> simp [h]
/-- the contract of a method for one call of it: from the heap h with the arguments as, to the value v and the heap h2 -/
def pm_Pc (D : va_G) (aC : Nat → ClassId) (b : Nat) (sc : pm_Sc) (sa : Nat → Nat) (ad : Nat → Nat) (as : List Value) (h : pm_H) (sz : Nat) : Array Value → State → Prop := va_Pc (as.map (pm_cv b ad)) (fun U => U.heap.size = sz ∧ va_P D vwCl (pm_ch b aC ad h.1) U.heap ∧ va_D (fun _ => True) (pm_ch b aC ad h.1) ∧ pm_Amb D aC b sc sa (va_A (pm_ch b aC ad h.1) sz) U)
def pm_Qc (D : va_G) (aC : Nat → ClassId) (b : Nat) (ad : Nat → Nat) (h : pm_H) (sz : Nat) (v : Option Value) (h2 : pm_H) : Array Value → State → Outcome → State → Prop := fun _ st oc t => ∃ ad' : Nat → Nat, (∀ k, k < h.1.length → ad' k = ad k) ∧ oc = .returned (v.map (pm_cv b ad')) ∧ va_P D vwCl (pm_ch b aC ad' h2.1) t.heap ∧ va_D (va_A (pm_ch b aC ad h.1) sz) (pm_ch b aC ad' h2.1) ∧ va_F (va_A (pm_ch b aC ad h.1) sz) st t
def pm_XC (D : va_G) (aC : Nat → ClassId) (b : Nat) (ad : Nat → Nat) (h : pm_H) (sz : Nat) (E : String) (h2 : pm_H) : String → State → State → Prop := fun E2 st t => E2 = E ∧ ∃ ad' : Nat → Nat, (∀ k, k < h.1.length → ad' k = ad k) ∧ va_P D vwCl (pm_ch b aC ad' h2.1) t.heap ∧ va_D (va_A (pm_ch b aC ad h.1) sz) (pm_ch b aC ad' h2.1) ∧ va_F (va_A (pm_ch b aC ad h.1) sz) st t
theorem pm_blind (D : va_G) (aC : Nat → ClassId) (b : Nat) (sc : pm_Sc) (sa : Nat → Nat) (ad : Nat → Nat) (as : List Value) (h : pm_H) (sz : Nat) : FrameBlind (pm_Pc D aC b sc sa ad as h sz) := fun a U g mk q => ⟨q.1, q.2.1, q.2.2.1, q.2.2.2.1, q.2.2.2.2.blind g mk a⟩
/-- runs of n steps are the machine's -/
def pm_Snd (l : Launch) (sc : pm_Sc) (n : Nat) : Prop := ∀ (i : Nat) (s0 o : pm_S), pm_ev sc n i s0 = some o → pm_okS s0 → ∀ (p : Program) (e : Env) (R : Room) (s : State) (m : MethodId) (args : Array Value) (below : List Frame) (meth : Method) (c : Code) (Q : State → Prop) (D : va_G) (aC : Nat → ClassId) (b : Nat) (sa : Nat → Nat) (A : Nat → Prop) (nc0 ns0 : Nat),
  pm_Ctx p R s m args meth c D aC b sc sa A i → pm_Go p l e R s m args below meth c Q D aC b A (pm_nL i) nc0 ns0 s0 o
