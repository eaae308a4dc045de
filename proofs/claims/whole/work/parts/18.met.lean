/-! A METHOD'S CONTRACT, and its calls -/
def pm_rtc (t : Nat) (r : Option FieldType) : Bool := match t, r with
  | 0, none => true
  | 1, some .int => true
  | 2, some .boolean => true
  | 3, some .long => true
  | 4, some (.object _) => true
  | _, _ => false
theorem pm_sta (j : Nat) : (decide ((pm_y j).cls = pm_own j) && (!pm_ini j || decide ((pm_y j).name = "<init>")) && pm_rtc (pm_rt j) (pm_rty j)) = true := by
  match j with
  | 0 => rfl
  | 1 => rfl
  | 2 => rfl
  | 3 => rfl
  | 4 => rfl
  | 5 => rfl
  | 6 => rfl
  | 7 => rfl
  | 8 => rfl
  | 9 => rfl
  | 10 => rfl
  | 11 => rfl
  | 12 => rfl
  | 13 => rfl
  | 14 => rfl
  | 15 => rfl
  | 16 => rfl
  | 17 => rfl
  | 18 => rfl
  | 19 => rfl
  | 20 => rfl
  | 21 => rfl
  | 22 => rfl
  | 23 => rfl
  | 24 => rfl
  | 25 => rfl
  | 26 => rfl
  | 27 => rfl
  | 28 => rfl
  | 29 => rfl
  | 30 => rfl
  | 31 => rfl
  | 32 => rfl
  | 33 => rfl
  | 34 => rfl
  | 35 => rfl
  | 36 => rfl
  | 37 => rfl
  | 38 => rfl
  | 39 => rfl
  | 40 => rfl
  | 41 => rfl
  | 42 => rfl
  | 43 => rfl
  | 44 => rfl
  | 45 => rfl
  | 46 => rfl
  | 47 => rfl
  | 48 => rfl
  | 49 => rfl
  | 50 => rfl
  | 51 => rfl
  | 52 => rfl
  | 53 => rfl
  | 54 => rfl
  | 55 => rfl
  | 56 => rfl
  | 57 => rfl
  | 58 => rfl
  | 59 => rfl
  | 60 => rfl
  | 61 => rfl
  | 62 => rfl
  | 63 => rfl
  | 64 => rfl
  | 65 => rfl
  | 66 => rfl
  | 67 => rfl
  | 68 => rfl
  | 69 => rfl
  | 70 => rfl
  | 71 => rfl
  | 72 => rfl
  | 73 => rfl
  | 74 => rfl
  | 75 => rfl
  | 76 => rfl
  | 77 => rfl
  | 78 => rfl
  | 79 => rfl
  | 80 => rfl
  | 81 => rfl
  | 82 => rfl
  | 83 => rfl
  | 84 => rfl
  | 85 => rfl
  | 86 => rfl
  | 87 => rfl
  | 88 => rfl
  | 89 => rfl
  | 90 => rfl
  | 91 => rfl
  | 92 => rfl
  | 93 => rfl
  | 94 => rfl
  | 95 => rfl
  | 96 => rfl
  | 97 => rfl
  | 98 => rfl
  | 99 => rfl
  | 100 => rfl
  | 101 => rfl
  | 102 => rfl
  | 103 => rfl
  | 104 => rfl
  | 105 => rfl
  | 106 => rfl
  | 107 => rfl
  | 108 => rfl
  | 109 => rfl
  | 110 => rfl
  | 111 => rfl
  | 112 => rfl
  | 113 => rfl
  | 114 => rfl
  | 115 => rfl
  | 116 => rfl
  | 117 => rfl
  | 118 => rfl
  | 119 => rfl
  | 120 => rfl
  | 121 => rfl
  | 122 => rfl
  | 123 => rfl
  | 124 => rfl
  | 125 => rfl
  | 126 => rfl
  | 127 => rfl
  | 128 => rfl
  | 129 => rfl
  | 130 => rfl
  | 131 => rfl
  | 132 => rfl
  | 133 => rfl
  | 134 => rfl
  | 135 => rfl
  | 136 => rfl
  | n + 137 => rfl
theorem pm_nmh2 (j : Nat) : (pm_y j).cls ≠ "java/lang/invoke/MethodHandle" ∧ (pm_y j).cls ≠ "java/lang/invoke/VarHandle" := by
  have h : (decide ((pm_y j).cls ≠ "java/lang/invoke/MethodHandle") && decide ((pm_y j).cls ≠ "java/lang/invoke/VarHandle")) = true := by
    match j with
    | 0 => rfl
    | 1 => rfl
    | 2 => rfl
    | 3 => rfl
    | 4 => rfl
    | 5 => rfl
    | 6 => rfl
    | 7 => rfl
    | 8 => rfl
    | 9 => rfl
    | 10 => rfl
    | 11 => rfl
    | 12 => rfl
    | 13 => rfl
    | 14 => rfl
    | 15 => rfl
    | 16 => rfl
    | 17 => rfl
    | 18 => rfl
    | 19 => rfl
    | 20 => rfl
    | 21 => rfl
    | 22 => rfl
    | 23 => rfl
    | 24 => rfl
    | 25 => rfl
    | 26 => rfl
    | 27 => rfl
    | 28 => rfl
    | 29 => rfl
    | 30 => rfl
    | 31 => rfl
    | 32 => rfl
    | 33 => rfl
    | 34 => rfl
    | 35 => rfl
    | 36 => rfl
    | 37 => rfl
    | 38 => rfl
    | 39 => rfl
    | 40 => rfl
    | 41 => rfl
    | 42 => rfl
    | 43 => rfl
    | 44 => rfl
    | 45 => rfl
    | 46 => rfl
    | 47 => rfl
    | 48 => rfl
    | 49 => rfl
    | 50 => rfl
    | 51 => rfl
    | 52 => rfl
    | 53 => rfl
    | 54 => rfl
    | 55 => rfl
    | 56 => rfl
    | 57 => rfl
    | 58 => rfl
    | 59 => rfl
    | 60 => rfl
    | 61 => rfl
    | 62 => rfl
    | 63 => rfl
    | 64 => rfl
    | 65 => rfl
    | 66 => rfl
    | 67 => rfl
    | 68 => rfl
    | 69 => rfl
    | 70 => rfl
    | 71 => rfl
    | 72 => rfl
    | 73 => rfl
    | 74 => rfl
    | 75 => rfl
    | 76 => rfl
    | 77 => rfl
    | 78 => rfl
    | 79 => rfl
    | 80 => rfl
    | 81 => rfl
    | 82 => rfl
    | 83 => rfl
    | 84 => rfl
    | 85 => rfl
    | 86 => rfl
    | 87 => rfl
    | 88 => rfl
    | 89 => rfl
    | 90 => rfl
    | 91 => rfl
    | 92 => rfl
    | 93 => rfl
    | 94 => rfl
    | 95 => rfl
    | 96 => rfl
    | 97 => rfl
    | 98 => rfl
    | 99 => rfl
    | 100 => rfl
    | 101 => rfl
    | 102 => rfl
    | 103 => rfl
    | 104 => rfl
    | 105 => rfl
    | 106 => rfl
    | 107 => rfl
    | 108 => rfl
    | 109 => rfl
    | 110 => rfl
    | 111 => rfl
    | 112 => rfl
    | 113 => rfl
    | 114 => rfl
    | 115 => rfl
    | 116 => rfl
    | 117 => rfl
    | 118 => rfl
    | 119 => rfl
    | 120 => rfl
    | 121 => rfl
    | 122 => rfl
    | 123 => rfl
    | 124 => rfl
    | 125 => rfl
    | 126 => rfl
    | 127 => rfl
    | 128 => rfl
    | 129 => rfl
    | 130 => rfl
    | 131 => rfl
    | 132 => rfl
    | 133 => rfl
    | 134 => rfl
    | 135 => rfl
    | 136 => rfl
    | n + 137 => rfl
  simp only [Bool.and_eq_true, decide_eq_true_eq] at h
  exact h
theorem pm_nmh (ci : Nat) (q : vw_C) (_ : vwCl[ci]? = some q) {j : Nat} (_ : q.1 = (pm_y j).cls) : (pm_y j).cls ≠ "java/lang/invoke/MethodHandle" ∧ (pm_y j).cls ≠ "java/lang/invoke/VarHandle" := pm_nmh2 j
theorem pm_sta1 (j : Nat) : (pm_y j).cls = pm_own j := by
  have h := pm_sta j
  simp only [Bool.and_eq_true, decide_eq_true_eq] at h
  exact h.1.1
theorem pm_sta2 (j : Nat) (hi : pm_ini j = true) : (pm_y j).name = "<init>" := by
  have h := pm_sta j
  simp only [Bool.and_eq_true, Bool.or_eq_true, decide_eq_true_eq, hi, Bool.not_true] at h
  rcases h.1.2 with z | z
  · cases z
  · exact z
theorem pm_sta3 (j : Nat) : pm_rtc (pm_rt j) (pm_rty j) = true := by
  have h := pm_sta j
  simp only [Bool.and_eq_true] at h
  exact h.2
section PM
variable {p : Program} {l : Launch} {e : Env} {R : Room} {s : State} {m : MethodId} {args : Array Value} {below : List Frame} {meth : Method} {c : Code} {Q : State → Prop}
variable {D : va_G} {aC : Nat → ClassId} {b : Nat} {sc : pm_Sc} {sa : Nat → Nat} {A : Nat → Prop} {nL nc0 ns0 : Nat}
/-- a method's return -/
theorem pm_retW {Qc : Array Value → State → Outcome → State → Prop} {free : Addr → Prop} {cc : ByteArray} {own : String} {ini : Bool} {t pc len : Nat} {ins : Instr} {res : List Nat} {st : List Value} {v : Option Value} {rty : Option FieldType} {ad : Nat → Nat} {ls : Array Slot} {H : Heap} {locs : List Loc} {cells slots : Nat} (hx : p.tables.exec = Jvm.exec) (hb : c.code = cc) (hlk : meth.locks = false) (hr : meth.sig.returnType = rty) (hv : pm_out t (ins, len, res) st = some (.inl v)) (hd : decode cc pc = .ok (ins, len)) (hck : pm_chk own ini ins len res = true) (hrt : pm_rtc t rty = true)
    (hq : ∀ t : State, t.heap = H → s.WarmedH t.vm → Qc args s (.returned (v.map (pm_cv b ad))) t) (hf : ∀ q ∈ locs, free q.base) : W p l e R s m args below meth c H locs cells slots (MQ below Qc args s cells slots free) (F0 m pc ls (st.map (pm_cv b ad))) := by
  have hlen : pm_len ins = 1 → len = 1 := by
    intro h1
    simp only [pm_chk, h1, Bool.and_eq_true, Bool.or_eq_true, beq_iff_eq] at hck
    omega
  unfold pm_out at hv
  dsimp only at hv
  split at hv
  · obtain rfl := hlen rfl
    split at hv
    · next hc =>
      cases hv
      rcases hc with rfl | ⟨rfl, h01⟩
      · cases rty with
        | none => cases hrt
        | some ty =>
          cases ty <;> first | (exact W.iret hx hb hr hq hf hd hlk) | (cases hrt)
      · cases rty with
        | none => cases hrt
        | some ty =>
          cases ty <;> first | (exact W.zret hx hb hr (by rcases h01 with rfl | rfl <;> rfl) hq hf hd hlk) | (cases hrt)
    · cases hv
  · obtain rfl := hlen rfl
    split at hv
    · next hc =>
      cases hv
      subst hc
      cases rty with
      | none => cases hrt
      | some ty =>
        cases ty <;> first | (exact W.lret hx hb hr hq hf hd hlk) | (cases hrt)
    · cases hv
  · obtain rfl := hlen rfl
    split at hv
    · next hc =>
      cases hv
      subst hc
      cases rty with
      | none => cases hrt
      | some ty =>
        cases ty <;> first | (exact W.aret hx hb hr (Or.inl ⟨_, rfl⟩) (Or.inr ⟨_, rfl⟩) hq hf hd hlk) | (cases hrt)
    · cases hv
  · obtain rfl := hlen rfl
    split at hv
    · next hc =>
      cases hv
      subst hc
      cases rty with
      | none => cases hrt
      | some ty =>
        cases ty <;> first | (exact W.aret hx hb hr (Or.inl ⟨_, rfl⟩) (Or.inl rfl) hq hf hd hlk) | (cases hrt)
    · cases hv
  · obtain rfl := hlen rfl
    split at hv
    · next hc =>
      cases hv
      subst hc
      cases rty with
      | none => exact W.vret hx hb hr hq hf hd hlk
      | some ty => cases ty <;> cases hrt
    · cases hv
  · split at hv <;> cases hv
  · cases hv
/-- a method's body, where it returns -/
theorem pm_body {n : Nat} (hS : pm_Snd l sc n) {j : Nat} {as : List Value} {h : pm_H} {o : pm_S} {v : Option Value} {ad : Nat → Nat} (hev : pm_ev sc n j (0, lv_args 0 as, [], h) = some o) (hv : pm_ret j o = some (.inl v)) (hok : pm_okS (0, lv_args 0 as, [], h)) (hsum : pm_sum as ≤ pm_nL j) (X : pm_Ctx p R s m args meth c D aC b sc sa (va_A (pm_ch b aC ad h.1) s.heap.size) j) (hr : meth.sig.returnType = pm_rty j) (hRc : R.cells = o.2.2.2.2.1 - h.2.1) (hRs : R.slots = o.2.2.2.2.2 - h.2.2) (hP : va_P D vwCl (pm_ch b aC ad h.1) s.heap) (hD : va_D (fun _ => True) (pm_ch b aC ad h.1)) :
    W p l e R s m args below meth c s.heap [] 0 0 (MQ below (pm_Qc D aC b ad h s.heap.size v o.2.2.2) args s (o.2.2.2.2.1 - h.2.1) (o.2.2.2.2.2 - h.2.2) (va_A (pm_ch b aC ad h.1) s.heap.size)) (entryFrame m (as.map (pm_cv b ad)).toArray (pm_nL j)) := by
  have E := pm_ev_ok sc n j _ _ hev hok
  have e1 : h.2.1 ≤ o.2.2.2.2.1 := E.2.1
  have e2 : h.2.2 ≤ o.2.2.2.2.2 := E.2.2.1
  have hle : (lg_sl (as.map (pm_cv b ad))).length ≤ pm_nL j := by rw [pm_sl_len, pm_sum_cv]; exact hsum
  have hl := lv_entry (as.map (pm_cv b ad)) hle
  rw [pm_args_cv] at hl
  rw [lg_entry_eq]
  refine hS j _ o hev hok p e R s m args below meth c _ D aC b sa _ h.2.1 h.2.2 X ad _ s.heap [] 0 0 ⟨hP, hD.self, va_S.rf, hl, Nat.zero_add _, Nat.zero_add _⟩ hok (by omega) (by omega) ?_
  intro ad' ls' H' locs' cells' slots' ha F'
  obtain ⟨f1, f2, f3, f4, f5, f6⟩ := F'
  have ec : cells' = o.2.2.2.2.1 - h.2.1 := by omega
  have es : slots' = o.2.2.2.2.2 - h.2.2 := by omega
  subst ec; subst es
  unfold pm_ret at hv
  split at hv
  · next r hr0 =>
    obtain ⟨r1, -, -, r4, -⟩ := pm_row hr0
    obtain ⟨hx, hb, -, -, -, -, -, -, hlk, -⟩ := X
    exact pm_retW (b := b) hx hb hlk hr hv r1 r4 (pm_sta3 j) (fun t ht hW => ⟨ad', ha, rfl, by rw [ht]; exact f1, f2, f3.F ht⟩) f3.2.2
  · cases hv
end PM
theorem pm_met {l : Launch} {sc : pm_Sc} {n : Nat} (hS : pm_Snd l sc n) {j : Nat} {as : List Value} {h : pm_H} {o : pm_S} {v : Option Value} (hev : pm_ev sc n j (0, lv_args 0 as, [], h) = some o) (hv : pm_ret j o = some (.inl v)) (hok : pm_okS (0, lv_args 0 as, [], h)) (hsum : pm_sum as ≤ pm_nL j) (hpl : plainName (pm_y j).cls = true) (hhh : pm_hh j = []) (D : va_G) (aC : Nat → ClassId) (b : Nat) (sa ad : Nat → Nat) (sz : Nat) :
    Met l (pm_y j) (Cond.code (pm_y j) (pm_b j) (pm_nL j) (pm_rty j) :: pm_G) { frames := pm_rk j, cells := o.2.2.2.2.1 - h.2.1, slots := o.2.2.2.2.2 - h.2.2, locals := 42 * pm_rk j } (pm_Pc D aC b sc sa ad as h sz) (pm_Qc D aC b ad h sz v o.2.2.2) (o.2.2.2.2.1 - h.2.1) (o.2.2.2.2.2 - h.2.2) (va_A (pm_ch b aC ad h.1) sz) := by
  refine Met.ofW (cc := pm_b j) (maxL := pm_nL j) (ret := pm_rty j) hpl rfl ?_
  intro p e s m args below meth c s₁ B hml hvv
  obtain ⟨rfl, rfl, hP, hD0, hAm⟩ := hvv
  have hts := atoms_spec (ws := Cond.code (pm_y j) (pm_b j) (pm_nL j) (pm_rty j) :: pm_G) B.pre
  have hown : s.vm.findClass (pm_own j) = some m.cls := by rw [← pm_sta1 j]; exact findClass_of_methodNamed B.named
  have htab : c.exceptionTable.toList = tableOf (pm_hh j) := by
    have z := BodyLoose.noHandlers B (hts _ List.mem_cons_self)
    rw [hhh]
    show _ = []
    have z2 : c.exceptionTable = #[] := by simpa using z
    rw [z2]
  exact pm_body hS hev hv hok hsum ⟨B.exec, B.bytes, hml, hown, fun w hw => hts w (List.mem_cons_of_mem _ hw), hAm, fun q hq => Or.inr hq, fun hi => (name_of_methodNamed B.named B.method).1.trans (pm_sta2 j hi), B.notSynchronized, htab, Nat.le_refl _, Nat.le_refl _⟩ B.returns rfl rfl hP hD0
theorem pm_metW {l : Launch} {sc : pm_Sc} {n : Nat} (hS : pm_Snd l sc n) {j : Nat} {as : List Value} {h : pm_H} {o : pm_S} {v : Option Value} (hev : pm_ev sc n j (0, lv_args 0 as, [], h) = some o) (hv : pm_ret j o = some (.inl v)) (hok : pm_okS (0, lv_args 0 as, [], h)) (hsum : pm_sum as ≤ pm_nL j) (hpl : plainName (pm_y j).cls = true) (D : va_G) (aC : Nat → ClassId) (b : Nat) (sa ad : Nat → Nat) (sz : Nat) :
    Met l (pm_y j) (Cond.codeWith (pm_y j) (pm_b j) (pm_nL j) (pm_rty j) (pm_hh j) :: pm_G) { frames := pm_rk j, cells := o.2.2.2.2.1 - h.2.1, slots := o.2.2.2.2.2 - h.2.2, locals := 42 * pm_rk j } (pm_Pc D aC b sc sa ad as h sz) (pm_Qc D aC b ad h sz v o.2.2.2) (o.2.2.2.2.1 - h.2.1) (o.2.2.2.2.2 - h.2.2) (va_A (pm_ch b aC ad h.1) sz) := by
  refine va_MetW (hh := pm_hh j) (cc := pm_b j) (maxL := pm_nL j) (ret := pm_rty j) hpl rfl ?_
  intro p e s m args below meth c s₁ B hml hvv
  obtain ⟨rfl, rfl, hP, hD0, hAm⟩ := hvv
  have hts := atoms_spec (ws := Cond.codeWith (pm_y j) (pm_b j) (pm_nL j) (pm_rty j) (pm_hh j) :: pm_G) B.pre
  have hown : s.vm.findClass (pm_own j) = some m.cls := by rw [← pm_sta1 j]; exact findClass_of_methodNamed B.named
  have htab : c.exceptionTable.toList = tableOf (pm_hh j) := vx_table (x := pm_y j) B (hts _ List.mem_cons_self)
  exact pm_body hS hev hv hok hsum ⟨B.exec, B.bytes, hml, hown, fun w hw => hts w (List.mem_cons_of_mem _ hw), hAm, fun q hq => Or.inr hq, fun hi => (name_of_methodNamed B.named B.method).1.trans (pm_sta2 j hi), B.notSynchronized, htab, Nat.le_refl _, Nat.le_refl _⟩ B.returns rfl rfl hP hD0
section PN
variable {p : Program} {l : Launch} {e : Env} {R : Room} {s : State} {m : MethodId} {args : Array Value} {below : List Frame} {meth : Method} {c : Code} {Q : State → Prop}
variable {D : va_G} {aC : Nat → ClassId} {b : Nat} {sc : pm_Sc} {sa : Nat → Nat} {A : Nat → Prop} {nL nc0 ns0 : Nat}
/-- behind a call that has returned -/
theorem pm_goRun {pc : Nat} {lv : pm_L} {st r : List Value} {h h2 : pm_H} {v : Option Value} {av : (Nat → Nat) → Array Value} (hA : ∀ q, s.heap.size ≤ q → A q) (hrs : ∀ x ∈ r, x ∈ st) (hlen : h.1.length ≤ h2.1.length) (hcc : h.2.1 ≤ h2.2.1) (hss : h.2.2 ≤ h2.2.2)
    (hr : ∀ (ad : Nat → Nat) (ls : Array Slot) (H : Heap) (locs : List Loc) (cells slots : Nat), pm_Fc s D aC b A nL nc0 ns0 ad lv h ls H locs cells slots → cells + (h2.2.1 - h.2.1) ≤ R.cells → slots + (h2.2.2 - h.2.2) ≤ R.slots → va_Run p l e R s m args below meth c H locs cells slots (h2.2.1 - h.2.1) (h2.2.2 - h.2.2) (F0 m pc ls (st.map (pm_cv b ad))) (r.map (pm_cv b ad)) (pm_Qc D aC b ad h H.size v h2 (av ad)) (va_A (pm_ch b aC ad h.1) H.size)) :
    pm_Go p l e R s m args below meth c Q D aC b A nL nc0 ns0 (pc, lv, st, h) (pc + 3, lv, v.toList ++ r, h2) := by
  intro ad ls H locs cells slots F O hc hs kk T hT X
  have F : pm_Fc s D aC b A nL nc0 ns0 ad lv h ls H locs cells slots := F
  have O : pm_ok lv st h.1 := O
  have hc : h2.2.1 ≤ nc0 + R.cells := hc
  have hs : h2.2.2 ≤ ns0 + R.slots := hs
  have hr2 := hr ad ls H locs cells slots F (by have := F.2.2.2.2.1; omega) (by have := F.2.2.2.2.2; omega)
  obtain ⟨f1, f2, f3, f4, f5, f6⟩ := F
  obtain ⟨v', st₀, t, T', L, h0, X', hL, q1, q2, ⟨ad', ha, hov, hP1, hD1, hF⟩, hst⟩ := hr2 T hT X
  cases hov
  have sub := pm_sub hA f2 f3
  obtain ⟨hz, hk⟩ := hF
  rw [h0] at hz hk
  have hS' : va_S A s.heap T'.heap (locs ++ L) := ⟨Nat.le_trans f3.1 (by rw [q1]; exact hz), fun q g1 g2 => by rw [q1, hk q (Nat.lt_of_lt_of_le g1 f3.1) (fun z => g2 (sub q z))]; exact f3.2.1 q g1 g2, fun q hq => by
    rcases List.mem_append.mp hq with z | z
    · exact f3.2.2 q z
    · exact sub _ (hL q z)⟩
  have hlv : pm_cl b ad' lv = pm_cl b ad lv := pm_cl_ad ha O.1
  have hre : r.map (pm_cv b ad') = r.map (pm_cv b ad) := pm_cvs_ad ha (fun x hx => O.2.1 x (hrs x hx))
  obtain ⟨t2, a1, b1⟩ := kk ad' ls T'.heap (locs ++ L) (cells + (h2.2.1 - h.2.1)) (slots + (h2.2.2 - h.2.2)) ha ⟨by rw [q1]; exact hP1, hD1.weaken (fun k q _ z => sub q.1 z), hS', by show lv_has ls nL (pm_cl b ad' lv); rw [hlv]; exact f4, by show _ = h2.2.1; omega, by show _ = h2.2.2; omega⟩ T' rfl X'
  refine ⟨t2, hst t2 ?_, b1⟩
  have e3 : (v.map (pm_cv b ad')).toList ++ r.map (pm_cv b ad) = (v.toList ++ r).map (pm_cv b ad') := by
    rw [← hre, List.map_append]
    cases v <;> rfl
  show Steps p.tables e below (T'.setTop (F0 m (pc + 3) ls ((v.map (pm_cv b ad')).toList ++ r.map (pm_cv b ad)))) t2
  rw [e3]
  exact a1
theorem pm_warm {U : State} {a' : Array Value} (hG : ∀ w ∈ pm_G, w.before args s = true) {w : Cond} (hw : w ∈ pm_G) (hW : s.WarmedH U.vm) : w.before a' U = true := word_at hW (good_of_word (List.mem_filter.mp hw).2) (hG w hw)
theorem pm_pre {ad : Nat → Nat} {as : List Value} {h : pm_H} {H : Heap} {locs : List Loc} (hAm : pm_Amb D aC b sc sa A s) (hA : ∀ q, s.heap.size ≤ q → A q) (f1 : va_P D vwCl (pm_ch b aC ad h.1) H) (f2 : va_D A (pm_ch b aC ad h.1)) (f3 : va_S A s.heap H locs) : ∀ U : State, U.heap = H → s.WarmedH U.vm → pm_Pc D aC b sc sa ad as h H.size (as.map (pm_cv b ad)).toArray U :=
  fun U hU hW => ⟨rfl, by rw [hU], by rw [hU]; exact f1, f2.weaken (fun _ _ _ _ => trivial), hAm.go hA f2 f3 hU hW⟩
/-- any call that returns -/
theorem pm_go_call {n : Nat} (hS : pm_Snd l sc n) {i : Nat} {s0 : pm_S} {k : pm_K} {w : pm_S} {v : Option Value} (X : pm_Ctx p R s m args meth c D aC b sc sa A i) (hs : pm_step sc i s0 = some (.inr k)) (hsum : pm_sum k.2.1 ≤ pm_nL k.1) (O : pm_okS s0) (hw : pm_ev sc n k.1 (0, lv_args 0 k.2.1, [], s0.2.2.2) = some w) (hv : pm_ret k.1 w = some (.inl v)) :
    pm_Go p l e R s m args below meth c Q D aC b A (pm_nL i) nc0 ns0 s0 (s0.1 + 3, s0.2.1, v.toList ++ k.2.2, w.2.2.2) := by
  obtain ⟨hx, hb, hml, hown, hG, hAm, hA, hin, hlk, htab, hrf, hrl⟩ := X
  obtain ⟨a, ha, hd⟩ := pm_step_at hs
  obtain ⟨m1, m2⟩ := pm_do_sub hd
  have hok := pm_entry_ok O m1
  have E := pm_ev_ok sc n k.1 _ _ hw hok
  obtain ⟨r1, r2, r3, r4, r5⟩ := pm_row ha
  obtain ⟨ins, len, res⟩ := a
  dsimp only at r1 r2 r3 r4 r5 hd
  obtain ⟨pc, lv, st, h⟩ := s0
  dsimp only at hd m1 m2 r1 E hw
  have hlen : pm_len ins = 3 → len = 3 := by
    intro h1
    simp only [pm_chk, h1, Bool.and_eq_true, Bool.or_eq_true, beq_iff_eq] at r4
    omega
  rcases pm_do_call hd with ⟨x, bb, c0, fs, kd, rfl, rfl, hkd, hdr, hcell, hnp, hmc, hsu, hrk, has⟩ | ⟨x, bb, kd, rfl, rfl, hkd, hdr, hnp, hsu, hrk, has⟩ | ⟨x, kd, rfl, rfl, hkd, hdr, hnp, hsu, hrk, has⟩
  all_goals (obtain ⟨j, as, r⟩ := k; dsimp only at hw hv hsum m1 m2 hdr hnp hsu hrk has r5 hok E)
  · -- invokevirtual
    obtain rfl := hlen rfl
    simp only [pm_ckj, Bool.and_eq_true, decide_eq_true_eq, beq_iff_eq, List.isEmpty_iff] at r5
    obtain ⟨⟨⟨⟨⟨rfl, h5a⟩, h5b⟩, h5c⟩, h5d⟩, h5e⟩ := r5
    dsimp only at hmc
    subst hmc
    obtain ⟨q, hq, hqc⟩ : ∃ q, vwCl[pm_mc j]? = some q ∧ q.1 = (pm_y j).cls := by
      cases hcl : vwCl[pm_mc j]? with
      | none => rw [hcl] at h5c; cases h5c
      | some q => rw [hcl] at h5c; exact ⟨q, rfl, Option.some.inj h5c⟩
    have g : ∀ z ∈ [Cond.methodLink (pm_own i) x (pm_y j), .instanceMethod (pm_y j), .selects (pm_y j).cls (pm_y j) (pm_y j), .initialized (pm_y j).cls, .code (pm_y j) (pm_b j) (pm_nL j) (pm_rty j)], z ∈ pm_G := fun z hz => r2 z (List.mem_append_right _ hz)
    have hst : st = (st.take (pm_np j)) ++ .ref bb :: r := by rw [← hdr, List.take_append_drop]
    have hmh : (pm_y j).cls ≠ "java/lang/invoke/MethodHandle" ∧ (pm_y j).cls ≠ "java/lang/invoke/VarHandle" := pm_nmh (pm_mc j) q hq hqc
    refine pm_goRun (av := fun ad => (as.map (pm_cv b ad)).toArray) hA m2 E.2.2.2 E.2.1 E.2.2.1 (fun ad ls H locs cells slots F hc1 hs1 => ?_)
    have hM := pm_met hS hw hv hok hsum h5e h5a D aC b sa ad H.size
    have key := vy_runV (W9 := 12) (R := R) (s := s) (args := args) (own := pm_own i) (C := (pm_y j).cls) (index := x) (bytes := pm_b j) (maxL := pm_nL j) (ret := pm_rty j) (n := pm_np j) (b := ad bb) (As := ((st.take (pm_np j)).reverse).map (pm_cv b ad)) (rest := r.map (pm_cv b ad)) (g := F0 m pc ls (st.map (pm_cv b ad))) (cells := cells) (slots := slots) (locs := locs) (H := H) (below := below) (meth := meth) (e := e) (cc := pm_b i) (nL := pm_nL i)
      ⟨hx, hb, hml, hown, hG⟩ hM ⟨⟨rfl, rfl, by show pm_rk j + 1 ≤ R.frames; omega, by show 8 + (pm_nL j + 11) + 42 * pm_rk j ≤ R.locals; omega, fun w9 hw9 a' U hW => by
        rcases List.mem_cons.mp hw9 with z | z
        · rw [z]; exact pm_warm hG (g _ (by simp)) hW
        · exact pm_warm hG z hW, List.mem_cons_self, hG _ (g _ (by simp)), hG _ (g _ (by simp)), hmh, fun sig hsig => by rw [hsig] at h5d; exact (Option.some.inj h5d).symm, hG _ (g _ (by simp))⟩, hG _ (g _ (by simp)), hG _ (g _ (by simp))⟩ (by show 12 + (pm_nL j + 11) + 42 * pm_rk j ≤ R.locals; omega)
      ⟨pm_blind _ _ _ _ _ _ _ _ _, by rw [← hqc]; exact va_recv hAm.1 F.1 hq (pm_ch_get hcell), by
        have z := pm_pre (as := as) (sa := sa) (h := h) hAm hA F.1 F.2.1 F.2.2.1
        rw [has] at z ⊢
        exact z⟩ rfl (by rw [List.length_map, List.length_reverse, List.length_take]; omega) F.2.2.2.1.1 (by
        show st.map (pm_cv b ad) = _
        conv => lhs; rw [hst]
        rw [List.map_append, List.map_cons, ← List.map_reverse, List.reverse_reverse]
        rfl) (by show 2 * 0 + _ ≤ 12; have z := pm_sum_cv b ad r; unfold pm_sum at z hsu; omega) r1 ⟨hc1, hs1⟩
    rw [has]
    exact key
  · -- invokespecial
    obtain rfl := hlen rfl
    have h5 : pm_hh j = [] ∧ pm_nL j ≤ 23 ∧ pm_ini j = true ∧ pm_rty j = none ∧ (pm_y j).name = "<init>" ∧ (parseMethodDescriptor (pm_y j).desc).map (fun d => d.parameters.length) = some (pm_np j) ∧ plainName (pm_y j).cls = true := by
      simp only [pm_ckj, Bool.and_eq_true, Bool.or_eq_true, decide_eq_true_eq, beq_iff_eq, List.isEmpty_iff] at r5
      rcases r5 with z | z
      · omega
      · exact ⟨z.1.1.1.1.1.1.2, z.1.1.1.1.1.2, z.1.1.1.1.2, z.1.1.1.2, z.1.1.2, z.1.2, z.2⟩
    obtain ⟨h5a, h5b, -, h5r, h5n, h5d, h5e⟩ := h5
    have hst : st = (st.take (pm_np j)) ++ .ref bb :: r := by rw [← hdr, List.take_append_drop]
    have hmh : (pm_y j).cls ≠ "java/lang/invoke/MethodHandle" ∧ (pm_y j).cls ≠ "java/lang/invoke/VarHandle" := pm_nmh2 j
    refine pm_goRun (av := fun ad => (as.map (pm_cv b ad)).toArray) hA m2 E.2.2.2 E.2.1 E.2.2.1 (fun ad ls H locs cells slots F hc1 hs1 => ?_)
    have hM := pm_met hS hw hv hok hsum h5e h5a D aC b sa ad H.size
    rw [h5r] at hM
    have hpre : PreS s H (pm_Pc D aC b sc sa ad as h H.size) (.ref (ad bb) :: ((st.take (pm_np j)).reverse).map (pm_cv b ad)) := ⟨pm_blind _ _ _ _ _ _ _ _ _, by
        have z := pm_pre (as := as) (sa := sa) (h := h) hAm hA F.1 F.2.1 F.2.2.1
        rw [has] at z ⊢
        exact z⟩
    have hstk : (F0 m pc ls (st.map (pm_cv b ad))).stack = (((st.take (pm_np j)).reverse).map (pm_cv b ad)).reverse ++ .ref (ad bb) :: r.map (pm_cv b ad) := by
      show st.map (pm_cv b ad) = _
      conv => lhs; rw [hst]
      rw [List.map_append, List.map_cons, ← List.map_reverse, List.reverse_reverse]
      rfl
    have hroom : (((r.map (pm_cv b ad)).map fun v => v.category).sum) ≤ 8 := by have z := pm_sum_cv b ad r; unfold pm_sum at z hsu; omega
    have hlen2 : (((st.take (pm_np j)).reverse).map (pm_cv b ad)).length = pm_np j := by rw [List.length_map, List.length_reverse, List.length_take]; omega
    rcases hkd with rfl | rfl
    · have g : ∀ z ∈ [Cond.methodLink (pm_own i) x (pm_y j), .instanceMethod (pm_y j), .initialized (pm_y j).cls, .code (pm_y j) (pm_b j) (pm_nL j) none], z ∈ pm_G := fun z hz => r2 z (List.mem_append_right _ hz)
      have key := va_runI (R := R) (s := s) (args := args) (own := pm_own i) (index := x) (bytes := pm_b j) (maxL := pm_nL j) (n := pm_np j) (b := ad bb) (As := ((st.take (pm_np j)).reverse).map (pm_cv b ad)) (rest := r.map (pm_cv b ad)) (g := F0 m pc ls (st.map (pm_cv b ad))) (cells := cells) (slots := slots) (locs := locs) (H := H) (below := below) (meth := meth) (e := e) (cc := pm_b i) (nL := pm_nL i)
        ⟨hx, hb, hml, hown, hG⟩ hM ⟨⟨rfl, rfl, by show pm_rk j + 1 ≤ R.frames; omega, by show 8 + (pm_nL j + 11) + 42 * pm_rk j ≤ R.locals; omega, fun w9 hw9 a' U hW => by
          rcases List.mem_cons.mp hw9 with z | z
          · rw [z]; exact pm_warm hG (g _ (by simp)) hW
          · exact pm_warm hG z hW, List.mem_cons_self, hG _ (g _ (by simp)), hG _ (g _ (by simp)), hmh, fun sig hsig => by rw [hsig] at h5d; exact (Option.some.inj h5d).symm, hG _ (g _ (by simp))⟩, h5n, hG _ (g _ (by simp))⟩
        hpre rfl hlen2 F.2.2.2.1.1 hstk (lv_room hroom) r1 ⟨hc1, hs1⟩
      rw [has]
      exact key
    · have g : ∀ z ∈ [Cond.instanceMethod (pm_y j), .initialized (pm_y j).cls, .code (pm_y j) (pm_b j) (pm_nL j) none], z ∈ pm_G := fun z hz => r2 z (List.mem_append_right _ hz)
      have gn : va_Nw (.methodLinkNest (pm_own i) x (pm_y j) RX7) s := hAm.2.1 _ (r3 _ (List.mem_append_right _ List.mem_cons_self))
      have key := va_runIN (R := R) (s := s) (args := args) (own := pm_own i) (host := RX7) (index := x) (bytes := pm_b j) (maxL := pm_nL j) (n := pm_np j) (b := ad bb) (As := ((st.take (pm_np j)).reverse).map (pm_cv b ad)) (rest := r.map (pm_cv b ad)) (g := F0 m pc ls (st.map (pm_cv b ad))) (cells := cells) (slots := slots) (locs := locs) (H := H) (below := below) (meth := meth) (e := e) (cc := pm_b i) (nL := pm_nL i)
        ⟨hx, hb, hml, hown, hG⟩ hM ⟨⟨⟨rfl, rfl, by show pm_rk j + 1 ≤ R.frames; omega, by show 8 + (pm_nL j + 11) + 42 * pm_rk j ≤ R.locals; omega, fun w9 hw9 a' U hW => by
          rcases List.mem_cons.mp hw9 with z | z
          · rw [z]; exact pm_warm hG (g _ (by simp)) hW
          · exact pm_warm hG z hW, List.mem_cons_self⟩, hG _ (g _ (by simp)), hG _ (g _ (by simp)), hmh, fun sig hsig => by rw [hsig] at h5d; exact (Option.some.inj h5d).symm, va_Nw.use rfl gn⟩, h5n, hG _ (g _ (by simp))⟩
        hpre rfl hlen2 F.2.2.2.1.1 hstk (lv_room hroom) r1 ⟨hc1, hs1⟩
      rw [has]
      exact key
  · -- invokestatic
    obtain rfl := hlen rfl
    have h5 : ((kd = 9) ↔ pm_hh j ≠ []) ∧ pm_nL j ≤ 23 ∧ (parseMethodDescriptor (pm_y j).desc).map (fun d => d.parameters.length) = some (pm_np j) ∧ plainName (pm_y j).cls = true := by
      simp only [pm_ckj, Bool.and_eq_true, Bool.or_eq_true, decide_eq_true_eq, beq_iff_eq, bne_iff_ne, ne_eq] at r5
      rcases r5 with (z | z) | z
      · omega
      · omega
      · refine ⟨?_, z.1.1.2, z.1.2, z.2⟩
        have z9 := z.1.1.1.2
        constructor
        · intro h9 hh
          rw [h9, hh] at z9
          exact z9 rfl
        · intro hh
          by_cases h9 : kd = 9
          · exact h9
          · exfalso
            apply z9
            have a1 : (kd == 9) = false := by simp [h9]
            have a2 : (pm_hh j).isEmpty = false := by simp [hh]
            rw [a1, a2]
    obtain ⟨h5a, h5b, h5d, h5e⟩ := h5
    have hst : st = (st.take (pm_np j)) ++ r := by rw [hdr, List.take_append_drop]
    have hmh : (pm_y j).cls ≠ "java/lang/invoke/MethodHandle" ∧ (pm_y j).cls ≠ "java/lang/invoke/VarHandle" := pm_nmh2 j
    refine pm_goRun (av := fun ad => (as.map (pm_cv b ad)).toArray) hA m2 E.2.2.2 E.2.1 E.2.2.1 (fun ad ls H locs cells slots F hc1 hs1 => ?_)
    have hpre : PreS s H (pm_Pc D aC b sc sa ad as h H.size) (as.map (pm_cv b ad)) := ⟨pm_blind _ _ _ _ _ _ _ _ _, pm_pre (as := as) (sa := sa) (h := h) hAm hA F.1 F.2.1 F.2.2.1⟩
    have hstk : (F0 m pc ls (st.map (pm_cv b ad))).stack = (as.map (pm_cv b ad)).reverse ++ r.map (pm_cv b ad) := by
      show st.map (pm_cv b ad) = _
      conv => lhs; rw [hst]
      rw [List.map_append, has, ← List.map_reverse, List.reverse_reverse]
    have hroom : (((r.map (pm_cv b ad)).map fun v => v.category).sum) ≤ 8 := by have z := pm_sum_cv b ad r; unfold pm_sum at z hsu; omega
    have hlen2 : (as.map (pm_cv b ad)).length = pm_np j := by rw [has, List.length_map, List.length_reverse, List.length_take]; omega
    rcases hkd with rfl | rfl | rfl
    · have hh0 : pm_hh j = [] := Classical.byContradiction fun z => absurd (h5a.mpr z) (by decide)
      have hM := pm_met hS hw hv hok hsum h5e hh0 D aC b sa ad H.size
      have g : ∀ z ∈ [Cond.methodLink (pm_own i) x (pm_y j), .static (pm_y j), .initialized (pm_y j).cls, .code (pm_y j) (pm_b j) (pm_nL j) (pm_rty j)], z ∈ pm_G := fun z hz => r2 z (List.mem_append_right _ hz)
      exact va_runS (R := R) (s := s) (args := args) (own := pm_own i) (index := x) (bytes := pm_b j) (maxL := pm_nL j) (ret := pm_rty j) (n := pm_np j) (As := as.map (pm_cv b ad)) (rest := r.map (pm_cv b ad)) (g := F0 m pc ls (st.map (pm_cv b ad))) (cells := cells) (slots := slots) (locs := locs) (H := H) (below := below) (meth := meth) (e := e) (cc := pm_b i) (nL := pm_nL i)
        ⟨hx, hb, hml, hown, hG⟩ hM ⟨⟨rfl, rfl, by show pm_rk j + 1 ≤ R.frames; omega, by show 8 + (pm_nL j + 11) + 42 * pm_rk j ≤ R.locals; omega, fun w9 hw9 a' U hW => by
          rcases List.mem_cons.mp hw9 with z | z
          · rw [z]; exact pm_warm hG (g _ (by simp)) hW
          · exact pm_warm hG z hW, List.mem_cons_self, hG _ (g _ (by simp)), hG _ (g _ (by simp)), hmh, fun sig hsig => by rw [hsig] at h5d; exact (Option.some.inj h5d).symm, hG _ (g _ (by simp))⟩, hG _ (g _ (by simp))⟩
        hpre rfl hlen2 F.2.2.2.1.1 hstk (lv_room hroom) r1 ⟨hc1, hs1⟩
    · have hh0 : pm_hh j = [] := Classical.byContradiction fun z => absurd (h5a.mpr z) (by decide)
      have hM := pm_met hS hw hv hok hsum h5e hh0 D aC b sa ad H.size
      have g : ∀ z ∈ [Cond.static (pm_y j), .initialized (pm_y j).cls, .code (pm_y j) (pm_b j) (pm_nL j) (pm_rty j)], z ∈ pm_G := fun z hz => r2 z (List.mem_append_right _ hz)
      have gn : va_Nw (.methodLinkNest (pm_own i) x (pm_y j) RX7) s := hAm.2.1 _ (r3 _ (List.mem_append_right _ List.mem_cons_self))
      exact va_runSN (R := R) (s := s) (args := args) (own := pm_own i) (host := RX7) (index := x) (bytes := pm_b j) (maxL := pm_nL j) (ret := pm_rty j) (n := pm_np j) (As := as.map (pm_cv b ad)) (rest := r.map (pm_cv b ad)) (g := F0 m pc ls (st.map (pm_cv b ad))) (cells := cells) (slots := slots) (locs := locs) (H := H) (below := below) (meth := meth) (e := e) (cc := pm_b i) (nL := pm_nL i)
        ⟨hx, hb, hml, hown, hG⟩ hM ⟨⟨⟨rfl, rfl, by show pm_rk j + 1 ≤ R.frames; omega, by show 8 + (pm_nL j + 11) + 42 * pm_rk j ≤ R.locals; omega, fun w9 hw9 a' U hW => by
          rcases List.mem_cons.mp hw9 with z | z
          · rw [z]; exact pm_warm hG (g _ (by simp)) hW
          · exact pm_warm hG z hW, List.mem_cons_self⟩, hG _ (g _ (by simp)), hG _ (g _ (by simp)), hmh, fun sig hsig => by rw [hsig] at h5d; exact (Option.some.inj h5d).symm, va_Nw.use rfl gn⟩, hG _ (g _ (by simp)), trivial⟩
        hpre rfl hlen2 F.2.2.2.1.1 hstk (lv_room hroom) r1 ⟨hc1, hs1⟩
    · have hM := pm_metW hS hw hv hok hsum h5e D aC b sa ad H.size
      have g : ∀ z ∈ [Cond.methodLink (pm_own i) x (pm_y j), .static (pm_y j), .initialized (pm_y j).cls, .codeWith (pm_y j) (pm_b j) (pm_nL j) (pm_rty j) (pm_hh j)], z ∈ pm_G := fun z hz => r2 z (List.mem_append_right _ hz)
      exact vx_runSW (R := R) (s := s) (args := args) (own := pm_own i) (index := x) (bytes := pm_b j) (maxL := pm_nL j) (ret := pm_rty j) (hh := pm_hh j) (n := pm_np j) (As := as.map (pm_cv b ad)) (rest := r.map (pm_cv b ad)) (g := F0 m pc ls (st.map (pm_cv b ad))) (cells := cells) (slots := slots) (locs := locs) (H := H) (below := below) (meth := meth) (e := e) (cc := pm_b i) (nL := pm_nL i)
        ⟨hx, hb, hml, hown, hG⟩ hM ⟨⟨rfl, rfl, by show pm_rk j + 1 ≤ R.frames; omega, by show 8 + (pm_nL j + 11) + 42 * pm_rk j ≤ R.locals; omega, fun w9 hw9 a' U hW => by
          rcases List.mem_cons.mp hw9 with z | z
          · rw [z]; exact pm_warm hG (g _ (by simp)) hW
          · exact pm_warm hG z hW, List.mem_cons_self⟩, hG _ (g _ (by simp)), hG _ (g _ (by simp)), hmh, fun sig hsig => by rw [hsig] at h5d; exact (Option.some.inj h5d).symm, hG _ (g _ (by simp)), hG _ (g _ (by simp))⟩
        hpre rfl hlen2 F.2.2.2.1.1 hstk (lv_room hroom) r1 ⟨hc1, hs1⟩
end PN
