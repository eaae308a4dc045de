/-! THE PURE MACHINE'S RUN IS THE MACHINE'S -/
theorem pm_dr_cl (b : Nat) (ad : Nat → Nat) (lv : pm_L) (i : Nat) : (pm_cl b ad lv).filter (fun q => !(q.1 == i) && !(q.1 + 1 == i && q.2.category == 2)) = pm_cl b ad (pm_dr lv i) := by
  unfold pm_dr pm_cl
  rw [List.filter_map]
  congr 1
  apply List.filter_congr
  intro q _
  simp [pm_cv_cat]
theorem pm_vxot {w : Cond} (h : (goodWord w || pm_isN w) = true) : vx_ot w = true := by
  simp only [Bool.or_eq_true] at h
  unfold vx_ot
  rcases h with h | h
  · simp [h]
  · have e : w.onTables = true := by cases w <;> first | rfl | (cases h)
    simp [e]
theorem pm_vxotG {w : Cond} (h : w ∈ pm_G) : vx_ot w = true := pm_vxot (by simp [(List.mem_filter.mp h).2])
/-- the contract of a method that throws -/
theorem pm_metX {l : Launch} (hl : l.stackTraces = false) {sc : pm_Sc} {n : Nat} (hS : pm_Snd l sc n) {j x : Nat} {as : List Value} {h : pm_H} {o : pm_S} (hev : pm_ev sc n j (0, lv_args 0 as, [], h) = some o) (hv : pm_ret j o = some (.inr x)) (hok : pm_okS (0, lv_args 0 as, [], h)) (hsum : pm_sum as ≤ pm_nL j) (hpl : plainName (pm_y j).cls = true) (D : va_G) (aC : Nat → ClassId) (b : Nat) (sa ad : Nat → Nat) (sz : Nat) :
    vx_Met l (pm_y j) (Cond.code (pm_y j) (pm_b j) (pm_nL j) (pm_rty j) :: pm_G) { frames := pm_rk j, cells := o.2.2.2.2.1 + 1 - h.2.1, slots := o.2.2.2.2.2 + 6 - h.2.2, locals := 42 * pm_rk j } (pm_Pc D aC b sc sa ad as h sz) (fun _ _ _ _ => False) (pm_XC D aC b ad h sz (pm_exc x) o.2.2.2) (o.2.2.2.2.1 + 1 - h.2.1) (o.2.2.2.2.2 + 6 - h.2.2) (va_A (pm_ch b aC ad h.1) sz) := by
  refine vx_ofW (cc := pm_b j) (maxL := pm_nL j) (ret := pm_rty j) hpl rfl ?_
  intro p e s m args below meth c s₁ B hml hnoh hvv
  obtain ⟨rfl, rfl, hP, hD0, hAm⟩ := hvv
  have hts := atoms_spec (ws := Cond.code (pm_y j) (pm_b j) (pm_nL j) (pm_rty j) :: pm_G) B.pre
  have hown : s.vm.findClass (pm_own j) = some m.cls := by rw [← pm_sta1 j]; exact findClass_of_methodNamed B.named
  obtain ⟨⟨ik, is, ic, text, ix, rx, ⟨x0, x1, x2, x5⟩, d0, d3, d4, d6, d9, hstr, hck, hini, hats, ho7, hhh, hrk, hfit, hfits⟩, hsu, -⟩ := pm_site hv
  have htab : c.exceptionTable.toList = tableOf (pm_hh j) := by
    rw [hhh]
    show _ = []
    exact List.eq_nil_iff_forall_not_mem.mpr (fun z hz => hnoh z hz)
  have X : pm_Ctx p { frames := pm_rk j, cells := o.2.2.2.2.1 + 1 - h.2.1, slots := o.2.2.2.2.2 + 6 - h.2.2, locals := 42 * pm_rk j } s m (as.map (pm_cv b ad)).toArray meth c D aC b sc sa (va_A (pm_ch b aC ad h.1) s.heap.size) j := ⟨B.exec, B.bytes, hml, hown, fun w hw => hts w (List.mem_cons_of_mem _ hw), hAm, fun q hq => Or.inr hq, fun hi => (name_of_methodNamed B.named B.method).1.trans (pm_sta2 j hi), B.notSynchronized, htab, Nat.le_refl _, Nat.le_refl _⟩
  have E := pm_ev_ok sc n j _ _ hev hok
  have e1 : h.2.1 ≤ o.2.2.2.2.1 := E.2.1
  have e2 : h.2.2 ≤ o.2.2.2.2.2 := E.2.2.1
  have hle : (lg_sl (as.map (pm_cv b ad))).length ≤ pm_nL j := by rw [pm_sl_len, pm_sum_cv]; exact hsum
  have hle2 := lv_entry (as.map (pm_cv b ad)) hle
  rw [pm_args_cv] at hle2
  rw [lg_entry_eq]
  refine hS j _ o hev hok p e _ s m _ below meth c _ D aC b sa _ h.2.1 h.2.2 X ad _ s.heap [] 0 0 ⟨hP, hD0.self, va_S.rf, hle2, Nat.zero_add _, Nat.zero_add _⟩ hok (by show _ ≤ h.2.1 + (o.2.2.2.2.1 + 1 - h.2.1); omega) (by show _ ≤ h.2.2 + (o.2.2.2.2.2 + 6 - h.2.2); omega) ?_
  intro ad' ls' H' locs' cells' slots' ha F'
  obtain ⟨f1, f2, f3, f4, f5, f6⟩ := F'
  have hsu2 : ((o.2.2.1.map (pm_cv b ad')).map fun v => v.category).sum ≤ 8 := by
    have z := pm_sum_cv b ad' o.2.2.1
    unfold pm_sum at z hsu
    omega
  have hat : ∀ w ∈ vn_atS (pm_own j) ic (pm_exc x) ix rx pm_sup, w.before (as.map (pm_cv b ad)).toArray s = true := by
    intro w hw
    have z := List.all_eq_true.mp hats w hw
    simp only [Bool.and_eq_true, decide_eq_true_eq, Bool.or_eq_true] at z
    rcases z.2 with g | g
    · exact hts w (List.mem_cons_of_mem _ (List.mem_filter.mpr ⟨z.1, g⟩))
    · have hn : w ∈ pm_NW := List.mem_filter.mpr ⟨z.1, g⟩
      exact va_Nw.use (pm_NW_on hn) (hAm.2.1 w hn)
  have hgood : ∀ w ∈ Cond.classLink (pm_own j) ik (pm_exc x) :: Cond.initialized (pm_exc x) :: vn_atS (pm_own j) ic (pm_exc x) ix rx pm_sup, vx_ot w = true := by
    intro w hw
    rcases List.mem_cons.mp hw with g | g
    · rw [g]; exact pm_vxotG hck
    · rcases List.mem_cons.mp g with g | g
      · rw [g]; exact pm_vxotG hini
      · have z := List.all_eq_true.mp hats w g
        simp only [Bool.and_eq_true] at z
        exact pm_vxot z.2
  refine vn_throwS x0 x1 x2 x5 (own := pm_own j) (cls := pm_exc x) (text := text) (names := pm_sup) (ik := ik) (is := is) (ic := ic) (sa := sa is) (A := va_A (pm_ch b aC ad h.1) s.heap.size) B.exec B.bytes hl hown hfit hfits (hts _ (List.mem_cons_of_mem _ hck)) (hts _ (List.mem_cons_of_mem _ hini)) (by rw [ho7]; exact hAm.2.2.2.2.1.1 (is, text) hstr) hat hgood hAm.2.2.2.2.1.2.1 hAm.2.2.2.2.1.2.2 f3 (f4.1.trans hml.symm) d0 d3 d4 d6 d9 (fun z hz => (hnoh z hz).elim) (by show 2 + 3 < pm_rk j; omega) (by show _ + (13 * (2 + 1) + 43) ≤ 42 * pm_rk j; omega) (by show cells' + 1 ≤ o.2.2.2.2.1 + 1 - h.2.1; omega) (by show slots' + 6 ≤ o.2.2.2.2.2 + 6 - h.2.2; omega) B.notSynchronized ?_ f3.2.2 (by omega) (by omega)
  intro t hal hsz hk
  exact ⟨rfl, ad', ha, f1.kept (fun k q hq => hk q.1 (f1 k q hq).lt), f2, ⟨Nat.le_trans f3.1 hsz, fun q g1 g2 => (hk q (Nat.lt_of_lt_of_le g1 f3.1)).trans (f3.2.1 q g1 g2)⟩⟩
section PX
variable {p : Program} {l : Launch} {e : Env} {R : Room} {s : State} {m : MethodId} {args : Array Value} {below : List Frame} {meth : Method} {c : Code} {Q : State → Prop}
variable {D : va_G} {aC : Nat → ClassId} {b : Nat} {sc : pm_Sc} {sa : Nat → Nat} {A : Nat → Prop} {nc0 ns0 : Nat}
/-- a call that throws, caught here -/
theorem pm_go_throw (hl : l.stackTraces = false) {n : Nat} (hS : pm_Snd l sc n) {i : Nat} {s0 : pm_S} {k : pm_K} {w : pm_S} {x : Nat} {q : Nat × Nat × Nat × Nat × Nat × Nat} (X : pm_Ctx p R s m args meth c D aC b sc sa A i) (hs : pm_step sc i s0 = some (.inr k)) (hsum : pm_sum k.2.1 ≤ pm_nL k.1) (O : pm_okS s0) (hw : pm_ev sc n k.1 (0, lv_args 0 k.2.1, [], s0.2.2.2) = some w) (hv : pm_ret k.1 w = some (.inr x)) (hq : pm_hnd (pm_hn i) s0.1 x = some q) :
    pm_Go p l e R s m args below meth c Q D aC b A (pm_nL i) nc0 ns0 s0 (q.2.2.2.2.2, pm_dr s0.2.1 q.2.2.2.2.1, [], (w.2.2.2.1, w.2.2.2.2.1 + 1, w.2.2.2.2.2 + 6)) := by
  obtain ⟨hx, hb, hml, hown, hG, hAm, hA, hin, hlk, htab, hrf, hrl⟩ := X
  obtain ⟨a, ha, hd⟩ := pm_step_at hs
  obtain ⟨m1, m2⟩ := pm_do_sub hd
  have hok := pm_entry_ok O m1
  have E := pm_ev_ok sc n k.1 _ _ hw hok
  obtain ⟨r1, r2, r3, r4, r5⟩ := pm_row ha
  obtain ⟨ins, len, res⟩ := a
  dsimp only at r1 r2 r3 r4 r5 hd
  obtain ⟨pc, lv, st, h⟩ := s0
  dsimp only at hd m1 m2 r1 E hw hq
  have hsite := (pm_site hv).2.2
  have hlen : pm_len ins = 3 → len = 3 := by
    intro h1
    simp only [pm_chk, h1, Bool.and_eq_true, Bool.or_eq_true, beq_iff_eq] at r4
    omega
  rcases pm_do_call hd with ⟨y, bb, c0, fs, kd, rfl, rfl, hkd, hdr, hcell, hnp, hmc, hsu, hrk, has⟩ | ⟨y, bb, kd, rfl, rfl, hkd, hdr, hnp, hsu, hrk, has⟩ | ⟨y, kd, rfl, rfl, hkd, hdr, hnp, hsu, hrk, has⟩
  all_goals (obtain ⟨j, as, r⟩ := k; dsimp only at hw hv hsum m1 m2 hdr hnp hsu hrk has r5 hok E hsite)
  · obtain rfl := hlen rfl
    simp only [pm_ckj, Bool.and_eq_true, decide_eq_true_eq, beq_iff_eq, List.isEmpty_iff] at r5
    obtain ⟨⟨⟨⟨⟨rfl, h5a⟩, h5b⟩, h5c⟩, h5d⟩, h5e⟩ := r5
    dsimp only at hmc
    subst hmc
    obtain ⟨qc, hqc1, hqc⟩ : ∃ q, vwCl[pm_mc j]? = some q ∧ q.1 = (pm_y j).cls := by
      cases hcl : vwCl[pm_mc j]? with
      | none => rw [hcl] at h5c; cases h5c
      | some q => rw [hcl] at h5c; exact ⟨q, rfl, Option.some.inj h5c⟩
    have g : ∀ z ∈ [Cond.methodLink (pm_own i) y (pm_y j), .instanceMethod (pm_y j), .selects (pm_y j).cls (pm_y j) (pm_y j), .initialized (pm_y j).cls, .code (pm_y j) (pm_b j) (pm_nL j) (pm_rty j)], z ∈ pm_G := fun z hz => r2 z (List.mem_append_right _ hz)
    have hst : st = (st.take (pm_np j)) ++ .ref bb :: r := by rw [← hdr, List.take_append_drop]
    have hmh := pm_nmh2 j
    intro ad ls H locs cells slots F O hc hs1 kk T hT X0
    have F : pm_Fc s D aC b A (pm_nL i) nc0 ns0 ad lv h ls H locs cells slots := F
    have O : pm_ok lv st h.1 := O
    have hc : w.2.2.2.2.1 + 1 ≤ nc0 + R.cells := hc
    have hs1 : w.2.2.2.2.2 + 6 ≤ ns0 + R.slots := hs1
    have e1 : h.2.1 ≤ w.2.2.2.2.1 := E.2.1
    have e2 : h.2.2 ≤ w.2.2.2.2.2 := E.2.2.1
    have hM := pm_metX hl hS hw hv hok hsum h5e D aC b sa ad H.size
    obtain ⟨f1, f2, f3, f4, f5, f6⟩ := F
    have run := vz_runV (W9 := 12) (R := R) (s := s) (args := args) (own := pm_own i) (C := (pm_y j).cls) (index := y) (bytes := pm_b j) (maxL := pm_nL j) (ret := pm_rty j) (n := pm_np j) (b := ad bb) (As := ((st.take (pm_np j)).reverse).map (pm_cv b ad)) (rest := r.map (pm_cv b ad)) (g := F0 m pc ls (st.map (pm_cv b ad))) (cells := cells) (slots := slots) (locs := locs) (H := H) (below := below) (meth := meth) (e := e) (cc := pm_b i) (nL := pm_nL i)
      ⟨hx, hb, hml, hown, hG⟩ hM ⟨⟨rfl, rfl, by show pm_rk j + 1 ≤ R.frames; omega, by show 8 + (pm_nL j + 11) + 42 * pm_rk j ≤ R.locals; omega, fun w9 hw9 a' U hW => by
        rcases List.mem_cons.mp hw9 with z | z
        · rw [z]; exact pm_warm hG (g _ (by simp)) hW
        · exact pm_warm hG z hW, List.mem_cons_self, hG _ (g _ (by simp)), hG _ (g _ (by simp)), hmh, fun sig hsig => by rw [hsig] at h5d; exact (Option.some.inj h5d).symm, hG _ (g _ (by simp))⟩, hG _ (g _ (by simp)), hG _ (g _ (by simp))⟩ (by show 12 + (pm_nL j + 11) + 42 * pm_rk j ≤ R.locals; omega)
      ⟨pm_blind _ _ _ _ _ _ _ _ _, by rw [← hqc]; exact va_recv hAm.1 f1 hqc1 (pm_ch_get hcell), by
        have z := pm_pre (as := as) (sa := sa) (h := h) hAm hA f1 f2 f3
        rw [has] at z ⊢
        exact z⟩ rfl (by rw [List.length_map, List.length_reverse, List.length_take]; omega) f4.1 (by
        show st.map (pm_cv b ad) = _
        conv => lhs; rw [hst]
        rw [List.map_append, List.map_cons, ← List.map_reverse, List.reverse_reverse]
        rfl) (by show 2 * 0 + _ ≤ 12; have z := pm_sum_cv b ad r; unfold pm_sum at z hsu; omega) r1 ⟨by omega, by omega⟩
    rcases run T hT X0 with ⟨_, _, _, _, _, _, _, _, _, _, hfalse, _⟩ | ⟨qa, st₀, t, T', L, Ex, ce, h0, X', hL, q1, q2, ⟨rfl, ad', hae, hP1, hD1, hF⟩, hce, hcv, hcl, hgo⟩
    · exact hfalse.elim
    · have sub := pm_sub hA f2 f3
      obtain ⟨hz, hk⟩ := hF
      rw [h0] at hz hk
      have hS' : va_S A s.heap T'.heap (locs ++ L) := ⟨Nat.le_trans f3.1 (by rw [q1]; exact hz), fun q g1 g2 => by rw [q1, hk q (Nat.lt_of_lt_of_le g1 f3.1) (fun z => g2 (sub q z))]; exact f3.2.1 q g1 g2, fun q hq => by
        rcases List.mem_append.mp hq with z | z
        · exact f3.2.2 q z
        · exact sub _ (hL q z)⟩
      have hlv : pm_cl b ad' lv = pm_cl b ad lv := pm_cl_ad hae O.1
      obtain ⟨pre, yy, suf, hsplit, hpass, hcov, hct, hlnk, hcast, hkn, hst2⟩ := pm_hand hq
      have fin : ∀ ls' : Array Slot, lv_has ls' (pm_nL i) ((q.2.2.2.2.1, Value.ref qa) :: (pm_cl b ad lv).filter (fun z => !(z.1 == q.2.2.2.2.1) && !(z.1 + 1 == q.2.2.2.2.1 && z.2.category == 2))) → W p l e R s m args below meth c T'.heap (locs ++ L) (cells + (w.2.2.2.2.1 + 1 - h.2.1)) (slots + (w.2.2.2.2.2 + 6 - h.2.2)) Q (F0 m q.2.2.2.2.2 ls' []) := by
        intro ls' hl'
        refine kk ad' ls' T'.heap (locs ++ L) _ _ hae ⟨by rw [q1]; exact hP1, hD1.weaken (fun k q _ z => sub q.1 z), hS', ?_, by show _ = w.2.2.2.2.1 + 1; omega, by show _ = w.2.2.2.2.2 + 6; omega⟩
        show lv_has ls' (pm_nL i) (pm_cl b ad' (pm_dr lv q.2.2.2.2.1))
        rw [← pm_dr_cl, hlv]
        exact ⟨hl'.1, hl'.2.1, fun z hz => hl'.2.2 z (List.mem_cons_of_mem _ hz)⟩
      have kx : vx_W p l e R s m args below meth c T'.heap (locs ++ L) (cells + (w.2.2.2.2.1 + 1 - h.2.1)) (slots + (w.2.2.2.2.2 + 6 - h.2.2)) Q (F0 m pc ls (r.map (pm_cv b ad))) qa := by
        refine vx_catch (own := pm_own i) (name := pm_exc x) (E := pm_exc x) (ce := ce) hown pre yy suf (htab.trans hsplit) (fun z hz => ?_) hcov hct (hG _ hlnk) (va_Nw.use rfl (hAm.2.1 _ hcast)) (by rw [q1]; exact hce) hcv hcl ?_
        · rcases hpass z hz with g1 | ⟨g1, nm, g2, g3⟩
          · exact Or.inl g1
          · exact Or.inr ⟨g1, nm, hG _ g2, hAm.2.2.2.2.2 (pm_exc x, nm) g3⟩
        · rcases hst2 with ⟨k4, dk, ek, epc⟩ | ⟨dk, epc⟩
          · refine lv_astore_n hx hb dk ek f4 hkn rfl (fun ls' hl' => ?_)
            have z := fin ls' hl'
            rw [epc] at z
            exact z
          · refine lv_astore hx hb dk f4 hkn rfl (fun ls' hl' => ?_)
            have z := fin ls' hl'
            rw [epc] at z
            exact z
      obtain ⟨t2, a1, b1⟩ := kx T' rfl X'
      exact ⟨t2, hgo.trans a1, b1⟩
  · -- a constructor doesn't throw
    exfalso
    simp only [pm_ckj, Bool.and_eq_true, Bool.or_eq_true, decide_eq_true_eq, beq_iff_eq, List.isEmpty_iff] at r5
    rcases r5 with z | z
    · omega
    · have y9 := pm_thr_st _ hsite
      simp only [Bool.and_eq_true, Bool.not_eq_true'] at y9
      rw [z.1.1.1.1.2] at y9
      cases y9.1
  · exfalso
    have y9 := pm_thr_st _ hsite
    simp only [Bool.and_eq_true] at y9
    have y8 : Cond.static (pm_y j) ∈ pm_G := r2 _ (List.mem_append_right _ (by rcases hkd with rfl | rfl | rfl <;> simp [pm_need2]))
    exact absurd rfl (of_decide_eq_true (List.all_eq_true.mp y9.2 _ (List.mem_filter.mp y8).1))
end PX
theorem pm_snd (l : Launch) (hl : l.stackTraces = false) (sc : pm_Sc) : ∀ n, pm_Snd l sc n := by
  intro n
  induction n with
  | zero => intro i s0 o h; rw [pm_ev] at h; cases h
  | succ n ih =>
    intro i s0 o h O p e R s m args below meth c Q D aC b sa A nc0 ns0 X
    rcases pm_ev_inv h with ⟨-, rfl⟩ | ⟨s', hs, h⟩ | ⟨k, w, v, hs, hsum, hw, hv, h⟩ | ⟨k, w, x, q, hs, hsum, hw, hv, hq, h⟩
    · exact pm_Go.rf
    · obtain ⟨a, -, hd⟩ := pm_step_at hs
      have o1 : pm_Ok2 s0 s' := pm_do_ok hd O
      exact (pm_go_step X hs O).tr o1 (ih i s' o h o1.1 p e R s m args below meth c Q D aC b sa A nc0 ns0 X) (pm_ev_ok sc n i s' o h o1.1)
    · obtain ⟨a, -, hd⟩ := pm_step_at hs
      obtain ⟨m1, m2⟩ := pm_do_sub hd
      have E := pm_ev_ok sc n _ _ _ hw (pm_entry_ok O m1)
      have B : pm_Ok2 s0 (s0.1 + 3, s0.2.1, v.toList ++ k.2.2, w.2.2.2) := pm_back_ok O E (fun q hq => hq) (pm_ret_ok hv (fun x hx => Or.inr hx) (fun x hx => Or.inl (m2 x hx))) (Nat.le_refl _) (Nat.le_refl _)
      exact (pm_go_call ih X hs hsum O hw hv).tr B (ih i _ o h B.1 p e R s m args below meth c Q D aC b sa A nc0 ns0 X) (pm_ev_ok sc n i _ o h B.1)
    · obtain ⟨a, -, hd⟩ := pm_step_at hs
      obtain ⟨m1, m2⟩ := pm_do_sub hd
      have E := pm_ev_ok sc n _ _ _ hw (pm_entry_ok O m1)
      have B : pm_Ok2 s0 (q.2.2.2.2.2, pm_dr s0.2.1 q.2.2.2.2.1, [], (w.2.2.2.1, w.2.2.2.2.1 + 1, w.2.2.2.2.2 + 6)) := pm_back_ok O E pm_dr_sub (fun x hx => by cases hx) (Nat.le_succ _) (Nat.le_add_right _ _)
      exact (pm_go_throw hl ih X hs hsum O hw hv hq).tr B (ih i _ o h B.1 p e R s m args below meth c Q D aC b sa A nc0 ns0 X) (pm_ev_ok sc n i _ o h B.1)
