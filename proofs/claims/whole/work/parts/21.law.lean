/-! THE CLAIM OUT OF ONE WALK OF THE LAW'S BODY. Your part is whole_start (and what it stands on); all else here is the same for every law, but numbers. -/
def R_law : String := "SpecOrderLaw"
def lw_P (b : Addr) (xs : List Int32) (args : Array Value) (s : State) : Prop := args = #[.ref b] ∧ s.IntsAt b xs ∧ xs.length ≤ 2049 ∧ (Jvm.Cond.and given_1 narrow_1).before args s = true
def lw_Q (_ : Array Value) (s : State) (o : Outcome) (t : State) : Prop := o = .returned (some (.int 1)) ∧ Framed s o t [] room_1.cells room_1.slots
def lw_Z (below : List Frame) (a : Array Value) (s : State) : State → Prop := fun t => ∃ o, t.status = .running ∧ Ended t below o ∧ lw_Q a s o t
/-- the law's own end, with 1 on the stack, nothing written that was there before, its room as the claim has it -/
theorem lw_ret {p : Program} {l : Launch} {e : Env} {s : State} {m : MethodId} {below : List Frame} {meth : Method} {c : Code} {b : Nat} (hx : p.tables.exec = Jvm.exec) (hb : c.code = code) (hr : meth.sig.returnType = ret) (hlocks : meth.locks = false) {pc : Nat} {H : Heap} {ls : Array Slot} (hdg : decode code pc = .ok (.ireturn, 1)) : W p l e room_1 s m #[Value.ref b] below meth c H [] room_1.cells room_1.slots (lw_Z below #[Value.ref b] s) (F0 m pc ls [.int 1]) := by
  intro T hT X
  obtain ⟨fs, hret, hrun, hended, hW, hframe⟩ := X.leave (v := some (.int 1)) (hlocks := hlocks) (fun h => by rw [hr] at h; cases h)
  have hmeth' : T.vm.method? m = some meth := X.method'
  refine ⟨T.setFrames fs, ?_, .returned (some (.int 1)), hrun, hended, rfl, ⟨_, rfl⟩, hW, hframe⟩
  jvm_step X.here [X.here.top, hx, hb, hdg, hmeth', hr, ret, narrow_b1]
  (try refine ⟨rfl, ?_⟩); (try refine ⟨rfl, ?_⟩)
  first | (intro acts; rw [hret _ acts rfl rfl rfl]) | rw [hret _ _ rfl rfl rfl]
  exact Steps.refl _
/-- what holds at the law's entry: the machine, the code, the tables' words (any of lw_tbl by 'hts w (by decide +kernel)'), the script of L ints xs at the cell b, what the Statement gives of the start (any of its parts by flat_of_before) -/
def lw_At (p : Program) (s : State) (m : MethodId) (meth : Method) (c : Code) (b L : Nat) (xs : Nat → Int32) : Prop :=
  p.tables.exec = Jvm.exec ∧ c.code = code ∧ meth.sig.returnType = ret ∧ c.maxLocals = 7 ∧ s.vm.findClass R_law = some m.cls ∧ (∀ w ∈ lw_tbl, w.before #[Value.ref b] s = true) ∧ va_X b L xs s s.heap ∧ b < s.heap.size ∧ meth.locks = false ∧ (Jvm.Cond.and given_1 narrow_1).before #[Value.ref b] s = true ∧ c.exceptionTable.isEmpty = true
theorem lw_arrP {args : Array Value} {s : State} (ty : FieldType) (h0 : ty = .int ∨ ty = .long ∨ ty = .boolean) (h : (Cond.arrayClass ty).before args s = true) : ∃ cA, ArrOfT s cA ty ∧ va_RA s cA ty := by
  obtain ⟨cA, kA, comp, h1, h2, h3⟩ := Cond.arrayClass_spec h
  refine ⟨cA, fun n z => ⟨fun k h => (by cases h), kA, h2, comp, h3⟩, ?_⟩
  rcases h0 with rfl | rfl | rfl <;> exact h1
theorem lw_arrO {args : Array Value} {s : State} (C : String) (h : (Cond.arrayOver (.object C)).before args s = true) : ∃ cA, ArrOfT s cA (.object C) ∧ va_RA s cA (.object C) := by
  obtain ⟨comp, cA, kA, h1, h2, h3, h4, h5⟩ := Cond.arrayOver_spec h
  exact ⟨cA, fun n z => ⟨fun k h => (by cases h), kA, h3, comp, h4⟩, kA, comp, h3, h4, h1, h5⟩
theorem lw_strP {args : Array Value} {s : State} {cur : Nat} (hcur : s.vm.findClass RX7 = some cur) (k : Nat) (t : String) (h : (Cond.stringRef RX7 k t).before args s = true) : ∃ a, vk_R RX7 k t a s := by
  obtain ⟨_, _, _, a, _, _, _, _, _, h6⟩ := Cond.stringRef_spec hcur h
  exact ⟨a, vk_R.of h h6⟩
set_option maxRecDepth 100000 in
theorem lw_nar {args : Array Value} {s : State} (h : (Jvm.Cond.and given_1 narrow_1).before args s = true) : (Cond.isRef (.static "java/lang/Throwable" "UNASSIGNED_STACK" "[Ljava/lang/StackTraceElement;")).before args s = true ∧ (Cond.isRef (.static "java/lang/Throwable" "SUPPRESSED_SENTINEL" "Ljava/util/List;")).before args s = true ∧ (Cond.not (.castable "java/lang/IllegalStateException" "java/lang/IllegalArgumentException")).before args s = true := by
  have hs := flat_of_before _ h
  exact ⟨hs _ (by decide +kernel), hs _ (by decide +kernel), hs _ (by decide +kernel)⟩
set_option maxHeartbeats 4000000 in
set_option maxRecDepth 100000 in
/-- the law's run, out of the pure machine's -/
theorem pm_law {p : Program} {e : Env} {s : State} {m : MethodId} {below : List Frame} {meth : Method} {c : Code} (l : Launch) (hl : l.stackTraces = false) {b L : Nat} {xs : Nat → Int32} (C0 : lw_At p s m meth c b L xs) {n : Nat} {o : pm_S} (hev : pm_ev (L, xs) n 136 (0, [(0, .retAddr 0)], [], ([], 0, 0)) = some o) (hst : o.2.2.1 = [.int 1]) (hat : pm_at 136 o.1 = some (.ireturn, 1, [])) (hc : o.2.2.2.2.1 ≤ room_1.cells) (hs : o.2.2.2.2.2 ≤ room_1.slots) :
    W p l e room_1 s m #[Value.ref b] below meth c s.heap [] 0 0 (lw_Z below #[Value.ref b] s) (entryFrame m ([Value.ref b] : List Value).toArray 7) := by
  obtain ⟨hx, hb, hr, hml, hown, hts, hX, hbl, hlocks, hgv, htb⟩ := C0
  have hG : ∀ w ∈ pm_G, w.before #[Value.ref b] s = true := fun w hw => hts w (List.mem_filter.mp hw).1
  have arrP := fun ty h0 h => lw_arrP (args := #[Value.ref b]) (s := s) ty h0 h
  have arrO := fun C h => lw_arrO (args := #[Value.ref b]) (s := s) C h

  obtain ⟨c0, iS0, hKn0⟩ := u_known (C := RX0) (T := TX0) (N := 5) (n := 5) hts (fun w hw => (List.mem_filter.mp (pm_usT 0 _ rfl w hw)).1) (hts (.instantiable RX0 5) (List.mem_of_getElem? (i := 103) rfl))
  obtain ⟨c1, iS1, hKn1⟩ := u_known (C := RX1) (T := TX1) (N := 3) (n := 3) hts (fun w hw => (List.mem_filter.mp (pm_usT 1 _ rfl w hw)).1) (hts (.instantiable RX1 3) (List.mem_of_getElem? (i := 136) rfl))
  obtain ⟨c2, iS2, hKn2⟩ := u_known (C := RX2) (T := TX2) (N := 7) (n := 7) hts (fun w hw => (List.mem_filter.mp (pm_usT 2 _ rfl w hw)).1) (hts (.instantiable RX2 7) (List.mem_of_getElem? (i := 287) rfl))
  obtain ⟨c3, iS3, hKn3⟩ := u_known (C := RX3) (T := TX3) (N := 4) (n := 4) hts (fun w hw => (List.mem_filter.mp (pm_usT 3 _ rfl w hw)).1) (hts (.instantiable RX3 4) (List.mem_of_getElem? (i := 343) rfl))
  obtain ⟨c4, iS4, hKn4⟩ := u_known (C := RX4) (T := TX4) (N := 2) (n := 2) hts (fun w hw => (List.mem_filter.mp (pm_usT 4 _ rfl w hw)).1) (hts (.instantiable RX4 2) (List.mem_of_getElem? (i := 84) rfl))
  obtain ⟨c5, iS5, hKn5⟩ := u_known (C := RX5) (T := TX5) (N := 11) (n := 11) hts (fun w hw => (List.mem_filter.mp (pm_usT 5 _ rfl w hw)).1) (hts (.instantiable RX5 11) (List.mem_of_getElem? (i := 130) rfl))
  obtain ⟨c6, iS6, hKn6⟩ := u_known (C := RX6) (T := TX6) (N := 8) (n := 8) hts (fun w hw => (List.mem_filter.mp (pm_usT 6 _ rfl w hw)).1) (hts (.instantiable RX6 8) (List.mem_of_getElem? (i := 245) rfl))
  obtain ⟨c7, iS7, hKn7⟩ := u_known (C := RX7) (T := TX7) (N := 4) (n := 4) hts (fun w hw => (List.mem_filter.mp (pm_usT 7 _ rfl w hw)).1) (hts (.instantiable RX7 4) (List.mem_of_getElem? (i := 74) rfl))
  obtain ⟨c8, iS8, hKn8⟩ := u_known (C := RX8) (T := TX8) (N := 46) (n := 46) hts (fun w hw => (List.mem_filter.mp (pm_usT 8 _ rfl w hw)).1) (hts (.instantiable RX8 46) (List.mem_of_getElem? (i := 729) rfl))
  have strP := fun k t h => lw_strP (args := #[Value.ref b]) (s := s) hKn7.2.1 k t h
  obtain ⟨a0, ha0⟩ := arrP .int (by first | exact Or.inl rfl | exact Or.inr (Or.inl rfl) | exact Or.inr (Or.inr rfl)) (hts (.arrayClass .int) (List.mem_of_getElem? (i := 154) rfl))
  obtain ⟨a1, ha1⟩ := arrP .long (by first | exact Or.inl rfl | exact Or.inr (Or.inl rfl) | exact Or.inr (Or.inr rfl)) (hts (.arrayClass .long) (List.mem_of_getElem? (i := 873) rfl))
  obtain ⟨a2, ha2⟩ := arrP .boolean (by first | exact Or.inl rfl | exact Or.inr (Or.inl rfl) | exact Or.inr (Or.inr rfl)) (hts (.arrayClass .boolean) (List.mem_of_getElem? (i := 874) rfl))
  obtain ⟨a3, ha3⟩ := arrO RX2 (hts (.arrayOver (.object RX2)) (List.mem_of_getElem? (i := 109) rfl))
  obtain ⟨a4, ha4⟩ := arrO RX3 (hts (.arrayOver (.object RX3)) (List.mem_of_getElem? (i := 90) rfl))
  obtain ⟨a5, ha5⟩ := arrO RX5 (hts (.arrayOver (.object RX5)) (List.mem_of_getElem? (i := 129) rfl))
  obtain ⟨a6, ha6⟩ := arrO RX6 (hts (.arrayOver (.object RX6)) (List.mem_of_getElem? (i := 82) rfl))
  obtain ⟨q0, hq0⟩ := strP 46 "no such op or key" (hts (.stringRef RX7 46 "no such op or key") (List.mem_of_getElem? (i := 535) rfl))
  obtain ⟨q1, hq1⟩ := strP 56 "there are 12 requests" (hts (.stringRef RX7 56 "there are 12 requests") (List.mem_of_getElem? (i := 571) rfl))
  obtain ⟨q2, hq2⟩ := strP 72 "no such request" (hts (.stringRef RX7 72 "no such request") (List.mem_of_getElem? (i := 636) rfl))
  obtain ⟨q3, hq3⟩ := strP 82 "from is below 0" (hts (.stringRef RX7 82 "from is below 0") (List.mem_of_getElem? (i := 656) rfl))
  obtain ⟨q4, hq4⟩ := strP 93 "no such replica" (hts (.stringRef RX7 93 "no such replica") (List.mem_of_getElem? (i := 664) rfl))
  obtain ⟨q5, hq5⟩ := strP 99 "no such replica or request, or the faulty one" (hts (.stringRef RX7 99 "no such replica or request, or the faulty one") (List.mem_of_getElem? (i := 677) rfl))
  obtain ⟨q6, hq6⟩ := strP 130 "no such replica or what" (hts (.stringRef RX7 130 "no such replica or what") (List.mem_of_getElem? (i := 694) rfl))
  obtain ⟨q7, hq7⟩ := strP 142 "no such message or what" (hts (.stringRef RX7 142 "no such message or what") (List.mem_of_getElem? (i := 707) rfl))
  obtain ⟨q8, hq8⟩ := strP 145 "no such request or what" (hts (.stringRef RX7 145 "no such request or what") (List.mem_of_getElem? (i := 719) rfl))
  obtain ⟨n1, n2, n3⟩ := lw_nar hgv
  obtain ⟨dC, dI, hKc⟩ : ∃ (dC : Nat → ClassId) (dI : Nat → Nat → Nat), ∀ (k : Nat) (q : vw_C), vwCl[k]? = some q → u_Kn s q.1 q.2.1 q.2.2 (dC k) (dI k) := by
    refine ⟨fun k => match k with | 0 => c0 | 1 => c1 | 2 => c2 | 3 => c3 | 4 => c4 | 5 => c5 | 6 => c6 | 7 => c7 | _ => c8, fun k => match k with | 0 => iS0 | 1 => iS1 | 2 => iS2 | 3 => iS3 | 4 => iS4 | 5 => iS5 | 6 => iS6 | 7 => iS7 | _ => iS8, ?_⟩
    intro k q hq
    match k, hq with
    | 0, hq => cases hq; exact hKn0
    | 1, hq => cases hq; exact hKn1
    | 2, hq => cases hq; exact hKn2
    | 3, hq => cases hq; exact hKn3
    | 4, hq => cases hq; exact hKn4
    | 5, hq => cases hq; exact hKn5
    | 6, hq => cases hq; exact hKn6
    | 7, hq => cases hq; exact hKn7
    | 8, hq => cases hq; exact hKn8
    | k + 9, hq => simp [vwCl] at hq
  obtain ⟨aC, hKa⟩ : ∃ aC : Nat → ClassId, ∀ (k : Nat) (q : ClassId × FieldType), (pm_tys aC)[k]? = some q → ArrOfT s q.1 q.2 ∧ va_RA s q.1 q.2 := by
    refine ⟨fun k => match k with | 0 => a0 | 1 => a1 | 2 => a2 | 3 => a3 | 4 => a4 | 5 => a5 | _ => a6, ?_⟩
    intro k q hq
    match k, hq with
    | 0, hq => cases hq; exact ha0
    | 1, hq => cases hq; exact ha1
    | 2, hq => cases hq; exact ha2
    | 3, hq => cases hq; exact ha3
    | 4, hq => cases hq; exact ha4
    | 5, hq => cases hq; exact ha5
    | 6, hq => cases hq; exact ha6
    | k + 7, hq => simp [pm_tys] at hq
  have hK : va_K (dC, dI) vwCl (pm_tys aC) s := ⟨hKc, hKa⟩
  have hnA : ∀ a : Nat, a < s.heap.size → ¬ (fun q : Nat => s.heap.size ≤ q) a := fun a h => Nat.not_le.mpr h
  have hAm : pm_Amb (dC, dI) aC b (L, xs) (fun k => if k = 46 then q0 else if k = 56 then q1 else if k = 72 then q2 else if k = 82 then q3 else if k = 93 then q4 else if k = 99 then q5 else if k = 130 then q6 else if k = 142 then q7 else if k = 145 then q8 else 0) (fun q : Nat => s.heap.size ≤ q) s := by
    refine ⟨hK, fun w hw => va_Nw.of (pm_NW_on hw) (hts w (List.mem_filter.mp hw).1), fun t h3 h6 => ?_, ⟨hX, hbl, hnA b hbl⟩, ⟨fun q hq => ?_, vx_Zqof (hts (.laysStatic "java/lang/Throwable" "UNASSIGNED_STACK" "[Ljava/lang/StackTraceElement;") (List.mem_of_getElem? (i := 521) rfl)) (hts (.initialized "java/lang/Throwable") (List.mem_of_getElem? (i := 61) rfl)) n1 hnA, vx_Zqof (hts (.laysStatic "java/lang/Throwable" "SUPPRESSED_SENTINEL" "Ljava/util/List;") (List.mem_of_getElem? (i := 523) rfl)) (hts (.initialized "java/lang/Throwable") (List.mem_of_getElem? (i := 61) rfl)) n2 hnA⟩, fun q hq => ?_⟩
    · match t, h3, h6 with
      | 3, _, _ => exact va_AO.of (hts (.arrayOver (.object RX2)) (List.mem_of_getElem? (i := 109) rfl))
      | 4, _, _ => exact va_AO.of (hts (.arrayOver (.object RX3)) (List.mem_of_getElem? (i := 90) rfl))
      | 5, _, _ => exact va_AO.of (hts (.arrayOver (.object RX5)) (List.mem_of_getElem? (i := 129) rfl))
      | 6, _, _ => exact va_AO.of (hts (.arrayOver (.object RX6)) (List.mem_of_getElem? (i := 82) rfl))
      | n + 7, _, z => omega
    · simp only [pm_strs, List.mem_cons, List.not_mem_nil, or_false] at hq
      rcases hq with rfl | rfl | rfl | rfl | rfl | rfl | rfl | rfl | rfl
      · exact hq0
      · exact hq1
      · exact hq2
      · exact hq3
      · exact hq4
      · exact hq5
      · exact hq6
      · exact hq7
      · exact hq8
    · rw [List.mem_singleton.mp hq]
      exact va_Nc.of n3
  have hok : pm_okS (0, [(0, .retAddr 0)], [], ([], 0, 0)) := ⟨fun q hq => by rw [List.mem_singleton.mp hq]; exact pm_okv_ra _ _, fun v hv => (by cases hv), fun c hc => (by cases hc)⟩
  have htab : c.exceptionTable.toList = tableOf (pm_hh 136) := by
    show _ = []
    have z2 : c.exceptionTable = #[] := by simpa using htb
    rw [z2]
  have X : pm_Ctx p room_1 s m #[Value.ref b] meth c (dC, dI) aC b (L, xs) (fun k => if k = 46 then q0 else if k = 56 then q1 else if k = 72 then q2 else if k = 82 then q3 else if k = 93 then q4 else if k = 99 then q5 else if k = 130 then q6 else if k = 142 then q7 else if k = 145 then q8 else 0) (fun q : Nat => s.heap.size ≤ q) 136 := ⟨hx, hb, hml, hown, hG, hAm, fun _ h => h, fun h => (by cases h), hlocks, htab, by decide, by decide⟩
  have G := pm_snd l hl (L, xs) n 136 _ o hev hok p e room_1 s m #[Value.ref b] below meth c (lw_Z below #[Value.ref b] s) (dC, dI) aC b _ _ 0 0 X
  have hP : va_P (dC, dI) vwCl (pm_ch b aC (fun _ => 0) []) s.heap := fun k q h => by simp [pm_ch] at h
  have hD : va_D (fun q : Nat => s.heap.size ≤ q) (pm_ch b aC (fun _ => 0) []) := ⟨fun i j p q h => by simp [pm_ch] at h, fun k q h => by simp [pm_ch] at h⟩
  have hl7 := lv_entry ([.ref b]) (n := 7) (Nat.le_of_ble_eq_true rfl)
  rw [lg_entry_eq]
  refine G (fun _ => 0) _ s.heap [] 0 0 ⟨hP, hD, va_S.rf, hl7, rfl, rfl⟩ hok (by rw [Nat.zero_add]; exact hc) (by rw [Nat.zero_add]; exact hs) ?_
  intro ad' ls' H' locs' cells' slots' ha F'
  obtain ⟨f1, f2, f3, f4, f5, f6⟩ := F'
  rw [hst]
  refine va_forget (fun q hq => f3.2.2 q hq) ?_
  refine W.widen (k := room_1.cells) (n := room_1.slots) (by omega) (by omega) ?_
  exact lw_ret hx hb hr hlocks (pm_row hat).1
