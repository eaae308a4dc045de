-- deps: 62.c12
/-! the program's calls: retry, patience, lie, echo -/
theorem b3 {x : Int32} : ¬ 4 ≤ x ↔ ¬ 3 < x := by
  constructor
  · intro h z
    exact nlt4_le3 (fun w => h (Int32.not_lt.mp (fun v => absurd (lt4_le3 v) (Int32.not_le.mpr z)))) (lt4_le3 (Int32.not_le.mp h)) |>.elim
  · intro h z
    exact h (Int32.not_le.mp (fun w => absurd (Int32.lt_of_lt_of_le (show (3 : Int32) < 4 by decide) z) (Int32.not_lt.mpr w)))
theorem R.rq {s : MS} {cs : List pm_C} {a : MS} {Y : PT} {kn : Nat × Nat} {q p : Nat} (h : R s (cs, a, Y, kn)) (hq : q < nqN s) (hp : Y 1 q = some p) : ∃ o g, 74 ≤ p ∧ cs[p]? = some (.inr (6, [.int (s.1 3 q), .int (s.1 4 q), .int (s.1 5 q), .ref (p + 1), pv o, .int (s.1 42 q), .int (s.1 43 q), .int (s.1 44 q)])) ∧ cs[p + 1]? = some (arrC g) ∧ (∀ u, u < 4 → RP cs s q u (g u)) ∧ RQ cs s q o := by
  obtain ⟨p', o, g, b1, b2, b3, b4, b5, b6⟩ := h.rg hq
  have ep : p' = p := by
    have := b1.symm.trans hp
    cases this; rfl
  subst ep
  exact ⟨o, g, b2, b3, b4, b5, b6⟩
set_option maxRecDepth 100000 in
set_option maxHeartbeats 1000000 in
theorem c_try {sc : pm_Sc} {s : MS} {c : CX} {t q p : Nat} (h : R s c) (hi : Inv s t) (hq : q < nqN s) (hp : c.2.2.1 1 q = some p) : ∃ c', pu sc 3 [.ref 4, .int (nI q), .ref p] (hx c) (pz (some (.int (v_retry s q))) (hx c')) ∧ R (f_retry s q) c' ∧ Ext c c' 5 := by
  obtain ⟨cs, a, Y, kn⟩ := c
  have hc : 73 < cs.length := h.1
  have hq12 := hi.q.2
  obtain ⟨o, g, z1, z2, z3, z4, z5⟩ := h.rq hq hp
  have hm : a.1 17 0 = nI (mN s) := (h.am hi).1
  unfold f_retry v_retry
  by_cases D : s.1 42 q = 0
  · rw [if_pos D, if_pos D]
    by_cases F : frN s q 4 0 = 4
    · rw [if_pos F, if_pos F]
      have r2 := h.addC (letC 0 0 (nI q) 0 0 0 none) 7
      have x2 := ext_addC (c := (cs, a, Y, kn)) hc (m := 7) (by omega) (letC 0 0 (nI q) 0 0 0 none)
      have r3 := R_all (e := 0) (y := none) 4 r2 (fun n hn => inv_all hi 0 (fun r hr => ⟨⟨0, by omega, rfl⟩, fun z => absurd z (nI_ne4 hr), fun _ => ⟨r, hr, rfl, Or.inl ⟨Or.inl rfl, q, hq, rfl⟩⟩⟩) n hn) (l := cs.length) (by omega) ga_new (by decide) 4 (by omega)
      have x3 := ext_all (c := addC (cs, a, Y, kn) (letC 0 0 (nI q) 0 0 0 none) 7) (hcA hc) 4 cs.length 4
      refine ⟨_, ?_, r3, (x2.tr x3).mono (by omega)⟩
      show pu sc 3 [.ref 4, .int (nI q), .ref p] (cset cs a Y, kn) _
      refine w_aload_n rfl rfl ?_
      refine w_getfield rfl ((cset_out (Nat.not_le_of_gt (Nat.lt_of_lt_of_le (by decide) z1))).trans z2) rfl ?_
      refine w_ifCond_eq rfl rfl (fun c4 => ?_) (fun c4 => ?_)
      · refine w_aload_n rfl rfl ?_
        refine w_iconst (v := 3) rfl (by decide) ?_
        refine w_virtual rfl rfl ((cset_out (Nat.not_le_of_gt (Nat.lt_of_lt_of_le (by decide) z1))).trans z2) ⟨(Nat.le_of_ble_eq_true rfl), rfl, (Nat.le_of_ble_eq_true rfl), (Nat.le_of_ble_eq_true rfl)⟩ rfl (Nat.le_of_ble_eq_true rfl) (c_agree (h := (cset cs a Y, kn)) (M := 3) ((cset_out (by omega)).trans z2) ((cset_out (by omega)).trans z3) (fun u hu => (z4 u hu).out) (by decide)) ?_
        rintro _ _ ⟨rfl, rfl⟩
        refine ⟨_, rfl, ?_⟩
        rw [fq_fr, if_pos F]
        refine w_astore_nN rfl (Nat.le_of_ble_eq_true rfl) ?_
        refine w_aload_nN rfl rfl ?_
        refine w_ifnonnullN rfl rfl ?_
        refine w_aload_n rfl rfl ?_
        refine w_getfield rfl (cs4 hc) rfl ?_
        refine w_iconst (v := 4) rfl (by decide) ?_
        refine w_iload_n rfl rfl ?_
        refine w_static rfl (by decide) rfl ⟨(Nat.le_of_ble_eq_true rfl), (Nat.le_of_ble_eq_true rfl), (Nat.le_of_ble_eq_true rfl)⟩ rfl (Nat.le_of_ble_eq_true rfl) (c_askFor hc (nI q)) ?_
        rintro _ _ ⟨rfl, rfl⟩
        refine ⟨_, rfl, ?_⟩
        refine w_virtual rfl rfl (cs2 (hcA hc)) ⟨(Nat.le_of_ble_eq_true rfl), rfl, (Nat.le_of_ble_eq_true rfl), (Nat.le_of_ble_eq_true rfl)⟩ rfl (Nat.le_of_ble_eq_true rfl) (c_all (addC (cs, a, Y, kn) (letC 0 0 (nI q) 0 0 0 none) 7) (hcA hc) 4 cs.length hm hi.m.2) ?_
        rintro _ _ ⟨rfl, rfl⟩
        refine ⟨_, rfl, ?_⟩
        refine w_iconst (v := 1) rfl (by decide) ?_
        exact w_ireturn rfl (Or.inl rfl) ⟨rfl, rfl⟩
      · exact absurd D c4
    · rw [if_neg F, if_neg F]
      obtain ⟨f1, f2, f3, pl, f4, f5⟩ := fr_ok hi (by omega) F
      rcases z4 (frN s q 4 0) f1 with ⟨e1, e2⟩ | ⟨l, y, e1, e2, e3, e4⟩
      · exact absurd (by rw [e2]; exact m1_lt) f2
      · generalize hk : 4 * q + frN s q 4 0 = k at f2 f3 f5 e3 e4
        obtain ⟨g37, g38, g39, g40, g41⟩ := prv_get s q k
        have r1 : R (prv s q k) (cs.set p (.inr (6, [.int (s.1 3 q), .int (s.1 4 q), .int (s.1 5 q), .ref (p + 1), .ref l, .int (s.1 42 q), .int (s.1 43 q), .int (s.1 44 q)])), a, Y, kn) := by
          refine h.req (o := o) (g := g) (o' := some l) (g' := g) hq hp z1 z2 z3 (fun f j h1 h2 h3 h4 => prv_ne (by omega)) rfl (List.length_set ..) (fun i h1 h2 => gs_ne (fun w => h1 w.symm)) ?_ ((gs_ne (by omega)).trans z3) (fun u hu => (z4 u hu).cong (KC.rf _) (fun x _ _ => prv_ne (by omega))) (Or.inr ⟨l, y, rfl, e2, g37, ?_, ?_⟩)
          · rw [gs_self z2]
            unfold reqC
            rw [prv_ne (by omega), prv_ne (by omega), prv_ne (by omega), prv_ne (by omega), prv_ne (by omega), prv_ne (by omega)]; rfl
          · rw [g38, g39, g40, g41]; exact e3
          · rw [g38]; exact e4
        have i1 : Inv (prv s q k) t := inv_prv hi hq
        have x1 : Ext (cs, a, Y, kn) (cs.set p (.inr (6, [.int (s.1 3 q), .int (s.1 4 q), .int (s.1 5 q), .ref (p + 1), .ref l, .int (s.1 42 q), .int (s.1 43 q), .int (s.1 44 q)])), a, Y, kn) 0 := ext_set z1 z2 nlk6
        have hcs : 73 < (cs.set p (.inr (6, [.int (s.1 3 q), .int (s.1 4 q), .int (s.1 5 q), .ref (p + 1), .ref l, .int (s.1 42 q), .int (s.1 43 q), .int (s.1 44 q)]))).length := hcS hc
        have r2 := r1.addC (letC 3 (s.1 30 k) (-1) (s.1 31 k) (s.1 32 k) 0 none) 7
        have x2 := ext_addC (c := (cs.set p (.inr (6, [.int (s.1 3 q), .int (s.1 4 q), .int (s.1 5 q), .ref (p + 1), .ref l, .int (s.1 42 q), .int (s.1 43 q), .int (s.1 44 q)])), a, Y, kn)) hcs (m := 7) (by omega) (letC 3 (s.1 30 k) (-1) (s.1 31 k) (s.1 32 k) 0 none)
        have r3 := R_all (e := 0) (y := none) 4 r2 (fun n hn => inv_all (p := s.1 31 k) i1 _ (fun r hr => ⟨f3, fun z => absurd z (nI_ne4 hr), fun _ => ⟨r, hr, rfl, Or.inr (Or.inl ⟨rfl, pl, f4, f5⟩)⟩⟩) n hn) (l := (cs.set p (.inr (6, [.int (s.1 3 q), .int (s.1 4 q), .int (s.1 5 q), .ref (p + 1), .ref l, .int (s.1 42 q), .int (s.1 43 q), .int (s.1 44 q)]))).length) (by omega) ga_new (by decide) 4 (by omega)
        have x3 := ext_all (c := addC (cs.set p (.inr (6, [.int (s.1 3 q), .int (s.1 4 q), .int (s.1 5 q), .ref (p + 1), .ref l, .int (s.1 42 q), .int (s.1 43 q), .int (s.1 44 q)])), a, Y, kn) (letC 3 (s.1 30 k) (-1) (s.1 31 k) (s.1 32 k) 0 none) 7) (hcA hcs) 4 (cs.set p (.inr (6, [.int (s.1 3 q), .int (s.1 4 q), .int (s.1 5 q), .ref (p + 1), .ref l, .int (s.1 42 q), .int (s.1 43 q), .int (s.1 44 q)]))).length 4
        refine ⟨_, ?_, r3, ((x1.tr x2).tr x3).mono (by omega)⟩
        show pu sc 3 [.ref 4, .int (nI q), .ref p] (cset cs a Y, kn) _
        refine w_aload_n rfl rfl ?_
        refine w_getfield rfl ((cset_out (Nat.not_le_of_gt (Nat.lt_of_lt_of_le (by decide) z1))).trans z2) rfl ?_
        refine w_ifCond_eq rfl rfl (fun c4 => ?_) (fun c4 => ?_)
        · refine w_aload_n rfl rfl ?_
          refine w_iconst (v := 3) rfl (by decide) ?_
          refine w_virtual rfl rfl ((cset_out (Nat.not_le_of_gt (Nat.lt_of_lt_of_le (by decide) z1))).trans z2) ⟨(Nat.le_of_ble_eq_true rfl), rfl, (Nat.le_of_ble_eq_true rfl), (Nat.le_of_ble_eq_true rfl)⟩ rfl (Nat.le_of_ble_eq_true rfl) (c_agree (h := (cset cs a Y, kn)) (M := 3) ((cset_out (by omega)).trans z2) ((cset_out (by omega)).trans z3) (fun u hu => (z4 u hu).out) (by decide)) ?_
          rintro _ _ ⟨rfl, rfl⟩
          refine ⟨_, rfl, ?_⟩
          rw [fq_fr, if_neg F, e1]
          refine w_astore_n rfl (Nat.le_of_ble_eq_true rfl) ?_
          refine w_aload_n rfl rfl ?_
          refine w_ifnonnull rfl rfl ?_
          refine w_aload_n rfl rfl ?_
          refine w_aload_n rfl rfl ?_
          refine w_dp rfl hc ⟨(Nat.lt_of_lt_of_le (by decide) z1), z2⟩ (Nat.le_of_ble_eq_true rfl) rfl ?_
          refine w_aload_n rfl rfl ?_
          refine w_getfield rfl (cs4 (hcS hc)) rfl ?_
          refine w_iconst (v := 4) rfl (by decide) ?_
          refine w_cnew rfl (hcS hc) (Nat.le_of_ble_eq_true rfl) ?_
          refine w_dup rfl rfl ?_
          refine w_iconst (v := 3) rfl (by decide) ?_
          refine w_aload_n rfl rfl ?_
          refine w_getfield rfl ((cset_out (Nat.not_le_of_gt (Nat.lt_of_lt_of_le (by decide) e2))).trans (ga_old ((gs_ne (fun w => by rw [w, e3] at z2; cases z2)).trans e3))) rfl ?_
          refine w_iconst (v := (-1)) rfl (by decide) ?_
          refine w_aload_n rfl rfl ?_
          refine w_getfield rfl ((cset_out (Nat.not_le_of_gt (Nat.lt_of_lt_of_le (by decide) e2))).trans (ga_old ((gs_ne (fun w => by rw [w, e3] at z2; cases z2)).trans e3))) rfl ?_
          refine w_aload_n rfl rfl ?_
          refine w_getfield rfl ((cset_out (Nat.not_le_of_gt (Nat.lt_of_lt_of_le (by decide) e2))).trans (ga_old ((gs_ne (fun w => by rw [w, e3] at z2; cases z2)).trans e3))) rfl ?_
          refine w_iconst (v := 0) rfl (by decide) ?_
          refine w_aconst_null rfl ?_
          refine w_special rfl (by decide) rfl ⟨(Nat.le_of_ble_eq_true rfl), (Nat.le_of_ble_eq_true rfl), (Nat.le_of_ble_eq_true rfl)⟩ rfl (Nat.le_of_ble_eq_true rfl) (c_let_initN (hcA (hcS hc)) (hc30 hcs) ga_new _ _ _ _ _ _) ?_
          rintro _ _ ⟨rfl, rfl⟩
          refine ⟨_, rfl, ?_⟩
          rw [set_app]
          refine w_virtual rfl rfl (cs2 (hcA hcs)) ⟨(Nat.le_of_ble_eq_true rfl), rfl, (Nat.le_of_ble_eq_true rfl), (Nat.le_of_ble_eq_true rfl)⟩ rfl (Nat.le_of_ble_eq_true rfl) (c_all (addC (cs.set p (.inr (6, [.int (s.1 3 q), .int (s.1 4 q), .int (s.1 5 q), .ref (p + 1), .ref l, .int (s.1 42 q), .int (s.1 43 q), .int (s.1 44 q)])), a, Y, kn) (letC 3 (s.1 30 k) (-1) (s.1 31 k) (s.1 32 k) 0 none) 7) (hcA hcs) 4 _ hm hi.m.2) ?_
          rintro _ _ ⟨rfl, rfl⟩
          refine ⟨_, rfl, ?_⟩
          refine w_iconst (v := 2) rfl (by decide) ?_
          exact w_ireturn rfl (Or.inl rfl) ⟨rfl, rfl⟩
        · exact absurd D c4
  · rw [if_neg D, if_neg D]
    refine ⟨(cs, a, Y, kn), ?_, h, (Ext.rf _).mono (by omega)⟩
    show pu sc 3 [.ref 4, .int (nI q), .ref p] (cset cs a Y, kn) _
    refine w_aload_n rfl rfl ?_
    refine w_getfield rfl ((cset_out (Nat.not_le_of_gt (Nat.lt_of_lt_of_le (by decide) z1))).trans z2) rfl ?_
    refine w_ifCond_eq rfl rfl (fun c4 => ?_) (fun c4 => ?_)
    · exact absurd c4 D
    · refine w_iconst (v := 0) rfl (by decide) ?_
      exact w_ireturn rfl (Or.inl rfl) ⟨rfl, rfl⟩
set_option maxRecDepth 100000 in
set_option maxHeartbeats 1000000 in
theorem c_rt0 {sc : pm_Sc} {cs : List pm_C} {a : MS} {Y : PT} {kn : Nat × Nat} (hc : 73 < cs.length) (x : Int32) (h : x < 0 ∨ a.1 2 0 ≤ x) : pu sc 56 [.ref 0, .int x] (cset cs a Y, kn) (px 3 (cset cs a Y, kn)) := by
  refine w_aload_n rfl rfl ?_
  refine w_getfield rfl (cs0 hc) rfl ?_
  refine w_iload_n rfl rfl ?_
  refine w_virtual rfl rfl (cs4 hc) ⟨(Nat.le_of_ble_eq_true rfl), rfl, (Nat.le_of_ble_eq_true rfl), (Nat.le_of_ble_eq_true rfl)⟩ rfl (Nat.le_of_ble_eq_true rfl) (c_find0 hc x h) ?_
  rintro _ _ ⟨rfl, rfl⟩
  refine ⟨_, rfl, ?_⟩
  refine w_astore_nN rfl (Nat.le_of_ble_eq_true rfl) ?_
  refine w_aload_nN rfl rfl ?_
  refine w_ifnonnullN rfl rfl ?_
  exact w_throw rfl (by decide) (Nat.le_of_ble_eq_true rfl) ⟨rfl, rfl⟩
set_option maxRecDepth 100000 in
set_option maxHeartbeats 1000000 in
theorem c_rt1 {sc : pm_Sc} {s : MS} {c : CX} {t q : Nat} (h : R s c) (hi : Inv s t) (hq : q < nqN s) : ∃ c', pu sc 56 [.ref 0, .int (nI q)] (hx c) (pz (some (.int (v_retry s q))) (hx c')) ∧ R (f_retry s q) c' ∧ Ext c c' 5 := by
  have hc : 73 < c.1.length := h.1
  obtain ⟨p, o, g, b1, b2, b3, b4, b5, b6⟩ := h.rg hq
  obtain ⟨c', k1, k2, k3⟩ := c_try (sc := sc) h hi hq b1
  have hn : c.2.1.1 2 0 = nI (nqN s) := (h.a 2 0 (by omega)).trans hi.q.1
  refine ⟨c', ?_, k2, k3⟩
  show pu sc 56 [.ref 0, .int (nI q)] (cset c.1 c.2.1 c.2.2.1, c.2.2.2) _
  refine w_aload_n rfl rfl ?_
  refine w_getfield rfl (cs0 hc) rfl ?_
  refine w_iload_n rfl rfl ?_
  refine w_virtual rfl rfl (cs4 hc) ⟨(Nat.le_of_ble_eq_true rfl), rfl, (Nat.le_of_ble_eq_true rfl), (Nat.le_of_ble_eq_true rfl)⟩ rfl (Nat.le_of_ble_eq_true rfl) (c_find1 hc q hn hi.q.2 hq b1) ?_
  rintro _ _ ⟨rfl, rfl⟩
  refine ⟨_, rfl, ?_⟩
  refine w_astore_n rfl (Nat.le_of_ble_eq_true rfl) ?_
  refine w_aload_n rfl rfl ?_
  refine w_ifnonnull rfl rfl ?_
  refine w_aload_n rfl rfl ?_
  refine w_getfield rfl (cs0 hc) rfl ?_
  refine w_iload_n rfl rfl ?_
  refine w_aload_n rfl rfl ?_
  refine w_virtual rfl rfl (cs4 hc) ⟨(Nat.le_of_ble_eq_true rfl), rfl, (Nat.le_of_ble_eq_true rfl), (Nat.le_of_ble_eq_true rfl)⟩ rfl (Nat.le_of_ble_eq_true rfl) (k1) ?_
  rintro _ _ ⟨rfl, rfl⟩
  refine ⟨_, rfl, ?_⟩
  exact w_ireturn rfl (Or.inl rfl) ⟨rfl, rfl⟩
set_option maxRecDepth 100000 in
set_option maxHeartbeats 1000000 in
theorem c_pt0 {sc : pm_Sc} {cs : List pm_C} {a : MS} {Y : PT} {kn : Nat × Nat} (hc : 73 < cs.length) (x : Int32) (h : ¬ (¬ x < 0 ∧ ¬ 4 ≤ x)) : pu sc 60 [.ref 0, .int x] (cset cs a Y, kn) (px 1 (cset cs a Y, kn)) := by
  refine w_iload_n rfl rfl ?_
  refine w_static rfl (by decide) rfl ⟨(Nat.le_of_ble_eq_true rfl), (Nat.le_of_ble_eq_true rfl), (Nat.le_of_ble_eq_true rfl)⟩ rfl (Nat.le_of_ble_eq_true rfl) (c_isRep x) ?_
  rintro _ _ ⟨rfl, rfl⟩
  refine ⟨_, rfl, ?_⟩
  refine w_ifCond_ne rfl rfl (fun c4 => ?_) (fun c4 => ?_)
  · replace c4 := b01_t c4
    exact absurd c4 h
  · replace c4 := b01_f c4
    exact w_throw rfl (by decide) (Nat.le_of_ble_eq_true rfl) ⟨rfl, rfl⟩
set_option maxRecDepth 100000 in
set_option maxHeartbeats 1000000 in
theorem c_pt1 {sc : pm_Sc} {s : MS} {c : CX} {t r : Nat} (h : R s c) (hi : Inv s t) (ht : t + 1 < 2 ^ 31) (hr : r < 4) (hp : NP s r) : ∃ c', pu sc 60 [.ref 0, .int (nI r)] (hx c) (pz (some (.int (b01 (¬ (nI r = s.1 1 0 ∨ (s.1 10 r = 0 ∧ s.1 11 r = 0)))))) (hx c')) ∧ R (f_pat s r) c' ∧ Ext c c' 60 := by
  have hc : 73 < c.1.length := h.1
  have e1f : c.2.1.1 1 0 = s.1 1 0 := h.a 1 0 (by omega)
  unfold f_pat
  by_cases F : nI r = s.1 1 0
  · rw [if_pos (Or.inl F)]
    have eb : b01 (¬ (nI r = s.1 1 0 ∨ (s.1 10 r = 0 ∧ s.1 11 r = 0))) = 0 := if_neg (fun z => z (Or.inl F))
    rw [eb]
    refine ⟨c, ?_, h, (Ext.rf _).mono (by omega)⟩
    show pu sc 60 [.ref 0, .int (nI r)] (cset c.1 c.2.1 c.2.2.1, c.2.2.2) _
    refine w_iload_n rfl rfl ?_
    refine w_static rfl (by decide) rfl ⟨(Nat.le_of_ble_eq_true rfl), (Nat.le_of_ble_eq_true rfl), (Nat.le_of_ble_eq_true rfl)⟩ rfl (Nat.le_of_ble_eq_true rfl) (c_isRep (nI r)) ?_
    rintro _ _ ⟨rfl, rfl⟩
    refine ⟨_, rfl, ?_⟩
    rw [isR4 hr]
    refine w_ifCond_ne rfl rfl (fun c4 => ?_) (fun c4 => ?_)
    · refine w_iload_n rfl rfl ?_
      refine w_aload_n rfl rfl ?_
      refine w_getfield rfl (cs0 hc) rfl ?_
      refine w_if_icmp_eq rfl rfl (fun c22 => ?_) (fun c22 => ?_)
      · refine w_iconst (v := 0) rfl (by decide) ?_
        exact w_ireturn rfl (Or.inr ⟨rfl, Or.inl rfl⟩) ⟨rfl, rfl⟩
      · exact absurd (by rw [e1f]; exact F) c22
    · exact absurd c4 (by decide)
  · obtain ⟨c', k1, k2, k3⟩ := c_endp (sc := sc) h hi ht hr hp
    by_cases Z : s.1 10 r = 0 ∧ s.1 11 r = 0
    · rw [if_pos (Or.inr Z)]
      have eb : b01 (¬ (nI r = s.1 1 0 ∨ (s.1 10 r = 0 ∧ s.1 11 r = 0))) = 0 := if_neg (fun z => z (Or.inr Z))
      rw [eb]
      rw [if_pos Z] at k2
      refine ⟨c', ?_, k2, k3⟩
      show pu sc 60 [.ref 0, .int (nI r)] (cset c.1 c.2.1 c.2.2.1, c.2.2.2) _
      refine w_iload_n rfl rfl ?_
      refine w_static rfl (by decide) rfl ⟨(Nat.le_of_ble_eq_true rfl), (Nat.le_of_ble_eq_true rfl), (Nat.le_of_ble_eq_true rfl)⟩ rfl (Nat.le_of_ble_eq_true rfl) (c_isRep (nI r)) ?_
      rintro _ _ ⟨rfl, rfl⟩
      refine ⟨_, rfl, ?_⟩
      rw [isR4 hr]
      refine w_ifCond_ne rfl rfl (fun c4 => ?_) (fun c4 => ?_)
      · refine w_iload_n rfl rfl ?_
        refine w_aload_n rfl rfl ?_
        refine w_getfield rfl (cs0 hc) rfl ?_
        refine w_if_icmp_eq rfl rfl (fun c22 => ?_) (fun c22 => ?_)
        · exact absurd (by rw [← e1f]; exact c22) F
        · refine w_aload_n rfl rfl ?_
          refine w_getfield rfl (cs0 hc) rfl ?_
          refine w_iload_n rfl rfl ?_
          refine w_ca6 (j := r) rfl hc rfl hr ?_
          refine w_virtual rfl rfl (cs7 hc hr) ⟨(Nat.le_of_ble_eq_true rfl), rfl, (Nat.le_of_ble_eq_true rfl), (Nat.le_of_ble_eq_true rfl)⟩ rfl (Nat.le_of_ble_eq_true rfl) (k1) ?_
          rintro _ _ ⟨rfl, rfl⟩
          refine ⟨_, rfl, ?_⟩
          refine w_ifCond_eq rfl rfl (fun c34 => ?_) (fun c34 => ?_)
          · replace c34 := b01_f c34
            refine w_iconst (v := 0) rfl (by decide) ?_
            exact w_ireturn rfl (Or.inr ⟨rfl, Or.inl rfl⟩) ⟨rfl, rfl⟩
          · replace c34 := b01_t c34
            exact absurd Z c34
      · exact absurd c4 (by decide)
    · have nz : ¬ (nI r = s.1 1 0 ∨ (s.1 10 r = 0 ∧ s.1 11 r = 0)) := fun z => z.elim F Z
      rw [if_neg nz]
      have eb : b01 (¬ (nI r = s.1 1 0 ∨ (s.1 10 r = 0 ∧ s.1 11 r = 0))) = 1 := if_pos nz
      rw [eb]
      rw [if_neg Z] at k2
      refine ⟨c', ?_, k2, k3⟩
      show pu sc 60 [.ref 0, .int (nI r)] (cset c.1 c.2.1 c.2.2.1, c.2.2.2) _
      refine w_iload_n rfl rfl ?_
      refine w_static rfl (by decide) rfl ⟨(Nat.le_of_ble_eq_true rfl), (Nat.le_of_ble_eq_true rfl), (Nat.le_of_ble_eq_true rfl)⟩ rfl (Nat.le_of_ble_eq_true rfl) (c_isRep (nI r)) ?_
      rintro _ _ ⟨rfl, rfl⟩
      refine ⟨_, rfl, ?_⟩
      rw [isR4 hr]
      refine w_ifCond_ne rfl rfl (fun c4 => ?_) (fun c4 => ?_)
      · refine w_iload_n rfl rfl ?_
        refine w_aload_n rfl rfl ?_
        refine w_getfield rfl (cs0 hc) rfl ?_
        refine w_if_icmp_eq rfl rfl (fun c22 => ?_) (fun c22 => ?_)
        · exact absurd (by rw [← e1f]; exact c22) F
        · refine w_aload_n rfl rfl ?_
          refine w_getfield rfl (cs0 hc) rfl ?_
          refine w_iload_n rfl rfl ?_
          refine w_ca6 (j := r) rfl hc rfl hr ?_
          refine w_virtual rfl rfl (cs7 hc hr) ⟨(Nat.le_of_ble_eq_true rfl), rfl, (Nat.le_of_ble_eq_true rfl), (Nat.le_of_ble_eq_true rfl)⟩ rfl (Nat.le_of_ble_eq_true rfl) (k1) ?_
          rintro _ _ ⟨rfl, rfl⟩
          refine ⟨_, rfl, ?_⟩
          refine w_ifCond_eq rfl rfl (fun c34 => ?_) (fun c34 => ?_)
          · replace c34 := b01_f c34
            exact absurd Z c34
          · replace c34 := b01_t c34
            refine w_iconst (v := 1) rfl (by decide) ?_
            refine w_goto rfl rfl ?_
            exact w_ireturn rfl (Or.inr ⟨rfl, Or.inr rfl⟩) ⟨rfl, rfl⟩
      · exact absurd c4 (by decide)
set_option maxRecDepth 100000 in
set_option maxHeartbeats 1000000 in
theorem c_lie0a {sc : pm_Sc} {cs : List pm_C} {a : MS} {Y : PT} {kn : Nat × Nat} (hc : 73 < cs.length) (x y : Int32) (h : ¬ (¬ x < 0 ∧ ¬ 4 ≤ x)) : pu sc 61 [.ref 0, .int x, .int y] (cset cs a Y, kn) (px 1 (cset cs a Y, kn)) := by
  refine w_iload_n rfl rfl ?_
  refine w_static rfl (by decide) rfl ⟨(Nat.le_of_ble_eq_true rfl), (Nat.le_of_ble_eq_true rfl), (Nat.le_of_ble_eq_true rfl)⟩ rfl (Nat.le_of_ble_eq_true rfl) (c_isRep x) ?_
  rintro _ _ ⟨rfl, rfl⟩
  refine ⟨_, rfl, ?_⟩
  refine w_ifCond_eq rfl rfl (fun c4 => ?_) (fun c4 => ?_)
  · replace c4 := b01_f c4
    exact w_throw rfl (by decide) (Nat.le_of_ble_eq_true rfl) ⟨rfl, rfl⟩
  · replace c4 := b01_t c4
    exact absurd c4 h
set_option maxRecDepth 100000 in
set_option maxHeartbeats 1000000 in
theorem c_lie0b {sc : pm_Sc} {cs : List pm_C} {a : MS} {Y : PT} {kn : Nat × Nat} (hc : 73 < cs.length) (x y : Int32) (h : ¬ x < 0 ∧ ¬ 4 ≤ x) (h2 : x = a.1 1 0) : pu sc 61 [.ref 0, .int x, .int y] (cset cs a Y, kn) (px 1 (cset cs a Y, kn)) := by
  refine w_iload_n rfl rfl ?_
  refine w_static rfl (by decide) rfl ⟨(Nat.le_of_ble_eq_true rfl), (Nat.le_of_ble_eq_true rfl), (Nat.le_of_ble_eq_true rfl)⟩ rfl (Nat.le_of_ble_eq_true rfl) (c_isRep x) ?_
  rintro _ _ ⟨rfl, rfl⟩
  refine ⟨_, rfl, ?_⟩
  refine w_ifCond_eq rfl rfl (fun c4 => ?_) (fun c4 => ?_)
  · replace c4 := b01_f c4
    exact absurd h c4
  · replace c4 := b01_t c4
    refine w_iload_n rfl rfl ?_
    refine w_aload_n rfl rfl ?_
    refine w_getfield rfl (cs0 hc) rfl ?_
    refine w_if_icmp_eq rfl rfl (fun c12 => ?_) (fun c12 => ?_)
    · exact w_throw rfl (by decide) (Nat.le_of_ble_eq_true rfl) ⟨rfl, rfl⟩
    · exact absurd h2 c12
set_option maxRecDepth 100000 in
set_option maxHeartbeats 1000000 in
theorem c_lie0c {sc : pm_Sc} {cs : List pm_C} {a : MS} {Y : PT} {kn : Nat × Nat} (hc : 73 < cs.length) (x y : Int32) (h : ¬ x < 0 ∧ ¬ 4 ≤ x) (h2 : ¬ x = a.1 1 0) (h3 : y < 0 ∨ a.1 2 0 ≤ y) : pu sc 61 [.ref 0, .int x, .int y] (cset cs a Y, kn) (px 1 (cset cs a Y, kn)) := by
  refine w_iload_n rfl rfl ?_
  refine w_static rfl (by decide) rfl ⟨(Nat.le_of_ble_eq_true rfl), (Nat.le_of_ble_eq_true rfl), (Nat.le_of_ble_eq_true rfl)⟩ rfl (Nat.le_of_ble_eq_true rfl) (c_isRep x) ?_
  rintro _ _ ⟨rfl, rfl⟩
  refine ⟨_, rfl, ?_⟩
  refine w_ifCond_eq rfl rfl (fun c4 => ?_) (fun c4 => ?_)
  · replace c4 := b01_f c4
    exact absurd h c4
  · replace c4 := b01_t c4
    refine w_iload_n rfl rfl ?_
    refine w_aload_n rfl rfl ?_
    refine w_getfield rfl (cs0 hc) rfl ?_
    refine w_if_icmp_eq rfl rfl (fun c12 => ?_) (fun c12 => ?_)
    · exact absurd c12 h2
    · refine w_aload_n rfl rfl ?_
      refine w_getfield rfl (cs0 hc) rfl ?_
      refine w_iload_n rfl rfl ?_
      refine w_virtual rfl rfl (cs4 hc) ⟨(Nat.le_of_ble_eq_true rfl), rfl, (Nat.le_of_ble_eq_true rfl), (Nat.le_of_ble_eq_true rfl)⟩ rfl (Nat.le_of_ble_eq_true rfl) (c_find0 hc y h3) ?_
      rintro _ _ ⟨rfl, rfl⟩
      refine ⟨_, rfl, ?_⟩
      refine w_ifnonnullN rfl rfl ?_
      exact w_throw rfl (by decide) (Nat.le_of_ble_eq_true rfl) ⟨rfl, rfl⟩
set_option maxRecDepth 100000 in
set_option maxHeartbeats 1000000 in
theorem c_lie1 {sc : pm_Sc} {s : MS} {c : CX} {t r q : Nat} (h : R s c) (hi : Inv s t) (hr : r < 4) (hq : q < nqN s) (F : ¬ nI r = s.1 1 0) (hg : s.1 1 0 < 0 ∨ ¬ rm4 (s.1 6 r) = s.1 1 0) : pu sc 61 [.ref 0, .int (nI r), .int (nI q)] (hx c) (pz (some (.int 0)) (hx c)) := by
  obtain ⟨cs, a, Y, kn⟩ := c
  have hc : 73 < cs.length := h.1
  have e1f : a.1 1 0 = s.1 1 0 := h.a 1 0 (by omega)
  have e6 : a.1 6 r = s.1 6 r := h.a 6 r (by omega)
  have hn : a.1 2 0 = nI (nqN s) := (h.a 2 0 (by omega)).trans hi.q.1
  obtain ⟨p, o, g, b1, b2, b3, b4, b5, b6⟩ := h.rg hq
  show pu sc 61 [.ref 0, .int (nI r), .int (nI q)] (cset cs a Y, kn) _
  have hm1 : s.1 1 0 < 0 → s.1 1 0 = -1 := fun z => by
    rcases hi.1.2.2.2 with w | ⟨u, hu, w⟩
    · exact w
    · rw [w] at z; exact absurd z (nI_pos (by omega))
  refine w_iload_n rfl rfl ?_
  refine w_static rfl (by decide) rfl ⟨(Nat.le_of_ble_eq_true rfl), (Nat.le_of_ble_eq_true rfl), (Nat.le_of_ble_eq_true rfl)⟩ rfl (Nat.le_of_ble_eq_true rfl) (c_isRep (nI r)) ?_
  rintro _ _ ⟨rfl, rfl⟩
  refine ⟨_, rfl, ?_⟩
  rw [isR4 hr]
  refine w_ifCond_eq rfl rfl (fun c4 => ?_) (fun c4 => ?_)
  · exact absurd c4 (by decide)
  · refine w_iload_n rfl rfl ?_
    refine w_aload_n rfl rfl ?_
    refine w_getfield rfl (cs0 hc) rfl ?_
    refine w_if_icmp_eq rfl rfl (fun c12 => ?_) (fun c12 => ?_)
    · exact absurd (by rw [← e1f]; exact c12) F
    · refine w_aload_n rfl rfl ?_
      refine w_getfield rfl (cs0 hc) rfl ?_
      refine w_iload_n rfl rfl ?_
      refine w_virtual rfl rfl (cs4 hc) ⟨(Nat.le_of_ble_eq_true rfl), rfl, (Nat.le_of_ble_eq_true rfl), (Nat.le_of_ble_eq_true rfl)⟩ rfl (Nat.le_of_ble_eq_true rfl) (c_find1 hc q hn hi.q.2 hq b1) ?_
      rintro _ _ ⟨rfl, rfl⟩
      refine ⟨_, rfl, ?_⟩
      refine w_ifnonnull rfl rfl ?_
      refine w_aload_n rfl rfl ?_
      refine w_getfield rfl (cs0 hc) rfl ?_
      refine w_iload_n rfl rfl ?_
      refine w_ca6 (j := r) rfl hc rfl hr ?_
      refine w_astore_n rfl (Nat.le_of_ble_eq_true rfl) ?_
      refine w_aload_n rfl rfl ?_
      refine w_getfield rfl (cs0 hc) rfl ?_
      refine w_iconst (v := (-1)) rfl (by decide) ?_
      refine w_if_icmp_eq rfl rfl (fun c48 => ?_) (fun c48 => ?_)
      · refine w_iconst (v := 0) rfl (by decide) ?_
        exact w_ireturn rfl (Or.inr ⟨rfl, Or.inl rfl⟩) ⟨rfl, rfl⟩
      · refine w_aload_n rfl rfl ?_
        refine w_getfield rfl (cs7 hc hr) rfl ?_
        refine w_static rfl (by decide) rfl ⟨(Nat.le_of_ble_eq_true rfl), (Nat.le_of_ble_eq_true rfl), (Nat.le_of_ble_eq_true rfl)⟩ rfl (Nat.le_of_ble_eq_true rfl) (c_prim _) ?_
        rintro _ _ ⟨rfl, rfl⟩
        refine ⟨_, rfl, ?_⟩
        refine w_aload_n rfl rfl ?_
        refine w_getfield rfl (cs0 hc) rfl ?_
        refine w_if_icmp_eq rfl rfl (fun c62 => ?_) (fun c62 => ?_)
        · exact absurd hg (fun w => w.elim (fun v => c48 (e1f.trans (hm1 v))) (fun v => v (by rw [← e6, ← e1f]; exact c62)))
        · refine w_iconst (v := 0) rfl (by decide) ?_
          exact w_ireturn rfl (Or.inr ⟨rfl, Or.inl rfl⟩) ⟨rfl, rfl⟩
set_option maxRecDepth 100000 in
set_option maxHeartbeats 1000000 in
theorem c_lie2 {sc : pm_Sc} {s : MS} {c : CX} {t r q : Nat} (h : R s c) (hi : Inv s t) (ht : t < 2 ^ 31) (hr : r < 4) (hq : q < nqN s) (hp : NP s r) (F : ¬ nI r = s.1 1 0) (hg : ¬ (s.1 1 0 < 0 ∨ ¬ rm4 (s.1 6 r) = s.1 1 0)) : ∃ c', pu sc 61 [.ref 0, .int (nI r), .int (nI q)] (hx c) (pz (some (.int (f_ordV s r (s.1 1 0) (s.1 6 r) (nI (lnN s r) + 1) (nI q) (31 * digN (s.2 8 r) (lnN s r) + nI q + 1)))) (hx c')) ∧ R (f_ord s r (s.1 1 0) (s.1 6 r) (nI (lnN s r) + 1) (nI q) (31 * digN (s.2 8 r) (lnN s r) + nI q + 1)) c' ∧ Ext c c' 60 := by
  obtain ⟨cs, a, Y, kn⟩ := c
  have hc : 73 < cs.length := h.1
  have e1f : a.1 1 0 = s.1 1 0 := h.a 1 0 (by omega)
  have e6 : a.1 6 r = s.1 6 r := h.a 6 r (by omega)
  have hn : a.1 2 0 = nI (nqN s) := (h.a 2 0 (by omega)).trans hi.q.1
  obtain ⟨p, o, g, b1, b2, b3, b4, b5, b6⟩ := h.rg hq
  have hnr : a.1 7 r = nI (lnN s r) := h.hn hi hr
  have h12 : lnN s r ≤ 12 := (hi.r hr).2.1
  have hdg : dgG (fun b => a.1 50 (12 * r + b)) (lnN s r) = digN (s.2 8 r) (lnN s r) := dg_dig (h.2.2.1 r hr).1 _ (Nat.le_refl _)
  have r1 := h.addC (fitL a r (lnN s r) (nI q)) 7
  have x1 := ext_addC (c := (cs, a, Y, kn)) hc (m := 7) (by omega) (fitL a r (lnN s r) (nI q))
  have hL : (cs ++ [fitL a r (lnN s r) (nI q)])[cs.length]? = some (letC 1 (s.1 6 r) (nI q) (nI (lnN s r) + 1) (31 * digN (s.2 8 r) (lnN s r) + nI q + 1) 0 none) := by
    rw [ga_new]
    unfold fitL
    rw [e6, hdg, nI_succ]
  obtain ⟨v1, v2⟩ := inv_ord (q := q) hi hr (s.1 1 0) (s.1 6 r) (nI (lnN s r) + 1) (31 * digN (s.2 8 r) (lnN s r) + nI q + 1) hq
  obtain ⟨c', k1, k2, k3⟩ := c_take1 (sc := sc) (s.1 1 0) hL hq r1 hi hr (by omega) ht v1
  rw [end_np (v2 r hp)] at k2
  have hc' : 73 < c'.1.length := k2.1
  have e7 : c'.2.1.1 7 r = (f_ord s r (s.1 1 0) (s.1 6 r) (nI (lnN s r) + 1) (nI q) (31 * digN (s.2 8 r) (lnN s r) + nI q + 1)).1 7 r := k2.a 7 r (by omega)
  have hc1 : 73 < (cs ++ [fitL a r (lnN s r) (nI q)]).length := hcA hc
  refine ⟨c', ?_, k2, (x1.tr k3).mono (by omega)⟩
  show pu sc 61 [.ref 0, .int (nI r), .int (nI q)] (cset cs a Y, kn) _
  unfold f_ordV
  by_cases O : s.1 10 r = 0 ∧ s.1 6 r = s.1 6 r ∧ s.1 1 0 = rm4 (s.1 6 r) ∧ nI (lnN s r) + 1 = s.1 7 r + 1 ∧ plN (s.2 8 r) (nI q) (lnN s r) ≤ 0 ∧ 31 * digN (s.2 8 r) (lnN s r) + nI q + 1 = 31 * digN (s.2 8 r) (lnN s r) + nI q + 1
  · have eb : b01 (s.1 10 r = 0 ∧ s.1 6 r = s.1 6 r ∧ s.1 1 0 = rm4 (s.1 6 r) ∧ nI (lnN s r) + 1 = s.1 7 r + 1 ∧ plN (s.2 8 r) (nI q) (lnN s r) ≤ 0 ∧ 31 * digN (s.2 8 r) (lnN s r) + nI q + 1 = 31 * digN (s.2 8 r) (lnN s r) + nI q + 1) = 1 := if_pos O
    rw [eb]
    have el : c'.2.1.1 7 r = nI (lnN s r + 1) := by
      rw [e7]
      unfold f_ord
      rw [if_pos O, fr_reply.1 7 r (by omega) (by omega), (app_get s r (nI q)).1, (hi.r hr).1, nI_succ]
    refine w_iload_n rfl rfl ?_
    refine w_static rfl (by decide) rfl ⟨(Nat.le_of_ble_eq_true rfl), (Nat.le_of_ble_eq_true rfl), (Nat.le_of_ble_eq_true rfl)⟩ rfl (Nat.le_of_ble_eq_true rfl) (c_isRep (nI r)) ?_
    rintro _ _ ⟨rfl, rfl⟩
    refine ⟨_, rfl, ?_⟩
    rw [isR4 hr]
    refine w_ifCond_eq rfl rfl (fun c4 => ?_) (fun c4 => ?_)
    · exact absurd c4 (by decide)
    · refine w_iload_n rfl rfl ?_
      refine w_aload_n rfl rfl ?_
      refine w_getfield rfl (cs0 hc) rfl ?_
      refine w_if_icmp_eq rfl rfl (fun c12 => ?_) (fun c12 => ?_)
      · exact absurd (by rw [← e1f]; exact c12) F
      · refine w_aload_n rfl rfl ?_
        refine w_getfield rfl (cs0 hc) rfl ?_
        refine w_iload_n rfl rfl ?_
        refine w_virtual rfl rfl (cs4 hc) ⟨(Nat.le_of_ble_eq_true rfl), rfl, (Nat.le_of_ble_eq_true rfl), (Nat.le_of_ble_eq_true rfl)⟩ rfl (Nat.le_of_ble_eq_true rfl) (c_find1 hc q hn hi.q.2 hq b1) ?_
        rintro _ _ ⟨rfl, rfl⟩
        refine ⟨_, rfl, ?_⟩
        refine w_ifnonnull rfl rfl ?_
        refine w_aload_n rfl rfl ?_
        refine w_getfield rfl (cs0 hc) rfl ?_
        refine w_iload_n rfl rfl ?_
        refine w_ca6 (j := r) rfl hc rfl hr ?_
        refine w_astore_n rfl (Nat.le_of_ble_eq_true rfl) ?_
        refine w_aload_n rfl rfl ?_
        refine w_getfield rfl (cs0 hc) rfl ?_
        refine w_iconst (v := (-1)) rfl (by decide) ?_
        refine w_if_icmp_eq rfl rfl (fun c48 => ?_) (fun c48 => ?_)
        · exact absurd (Or.inl (by rw [← e1f, c48]; exact m1_lt)) hg
        · refine w_aload_n rfl rfl ?_
          refine w_getfield rfl (cs7 hc hr) rfl ?_
          refine w_static rfl (by decide) rfl ⟨(Nat.le_of_ble_eq_true rfl), (Nat.le_of_ble_eq_true rfl), (Nat.le_of_ble_eq_true rfl)⟩ rfl (Nat.le_of_ble_eq_true rfl) (c_prim _) ?_
          rintro _ _ ⟨rfl, rfl⟩
          refine ⟨_, rfl, ?_⟩
          refine w_aload_n rfl rfl ?_
          refine w_getfield rfl (cs0 hc) rfl ?_
          refine w_if_icmp_eq rfl rfl (fun c62 => ?_) (fun c62 => ?_)
          · refine w_aload_n rfl rfl ?_
            refine w_getfield rfl (cs7 hc hr) rfl ?_
            refine w_getfield rfl (cs8 hc hr) rfl ?_
            refine w_istore rfl (Nat.le_of_ble_eq_true rfl) ?_
            refine w_aload_n rfl rfl ?_
            refine w_aload_n rfl rfl ?_
            refine w_getfield rfl (cs0 hc) rfl ?_
            refine w_aload_n rfl rfl ?_
            refine w_iload_n rfl rfl ?_
            refine w_virtual rfl rfl (cs7 hc hr) ⟨(Nat.le_of_ble_eq_true rfl), rfl, (Nat.le_of_ble_eq_true rfl), (Nat.le_of_ble_eq_true rfl)⟩ rfl (Nat.le_of_ble_eq_true rfl) (c_fit hc hr hnr h12 (nI q)) ?_
            rintro _ _ ⟨rfl, rfl⟩
            refine ⟨_, rfl, ?_⟩
            rw [e1f]
            refine w_virtual rfl rfl (cs7 hc1 hr) ⟨(Nat.le_of_ble_eq_true rfl), rfl, (Nat.le_of_ble_eq_true rfl), (Nat.le_of_ble_eq_true rfl)⟩ rfl (Nat.le_of_ble_eq_true rfl) k1 ?_
            rintro _ _ ⟨rfl, rfl⟩
            refine ⟨_, rfl, ?_⟩
            refine w_aload_n rfl rfl ?_
            refine w_getfield rfl (cs7 hc' hr) rfl ?_
            refine w_getfield rfl (cs8 hc' hr) rfl ?_
            refine w_iload rfl rfl ?_
            refine w_if_icmp_le rfl rfl (fun c98 => ?_) (fun c98 => ?_)
            · exact absurd (by rw [el, hnr] at c98; exact c98) (nI_ge (a := lnN s r) (b := lnN s r + 1) (by omega) (by omega))
            · refine w_iconst (v := 1) rfl (by decide) ?_
              refine w_goto rfl rfl ?_
              exact w_ireturn rfl (Or.inr ⟨rfl, Or.inr rfl⟩) ⟨rfl, rfl⟩
          · exact absurd (Or.inr (by rw [← e6, ← e1f]; exact c62)) hg
  · have eb : b01 (s.1 10 r = 0 ∧ s.1 6 r = s.1 6 r ∧ s.1 1 0 = rm4 (s.1 6 r) ∧ nI (lnN s r) + 1 = s.1 7 r + 1 ∧ plN (s.2 8 r) (nI q) (lnN s r) ≤ 0 ∧ 31 * digN (s.2 8 r) (lnN s r) + nI q + 1 = 31 * digN (s.2 8 r) (lnN s r) + nI q + 1) = 0 := if_neg O
    rw [eb]
    have el : c'.2.1.1 7 r = nI (lnN s r) := by
      rw [e7]
      unfold f_ord
      rw [if_neg O, (hi.r hr).1]
    refine w_iload_n rfl rfl ?_
    refine w_static rfl (by decide) rfl ⟨(Nat.le_of_ble_eq_true rfl), (Nat.le_of_ble_eq_true rfl), (Nat.le_of_ble_eq_true rfl)⟩ rfl (Nat.le_of_ble_eq_true rfl) (c_isRep (nI r)) ?_
    rintro _ _ ⟨rfl, rfl⟩
    refine ⟨_, rfl, ?_⟩
    rw [isR4 hr]
    refine w_ifCond_eq rfl rfl (fun c4 => ?_) (fun c4 => ?_)
    · exact absurd c4 (by decide)
    · refine w_iload_n rfl rfl ?_
      refine w_aload_n rfl rfl ?_
      refine w_getfield rfl (cs0 hc) rfl ?_
      refine w_if_icmp_eq rfl rfl (fun c12 => ?_) (fun c12 => ?_)
      · exact absurd (by rw [← e1f]; exact c12) F
      · refine w_aload_n rfl rfl ?_
        refine w_getfield rfl (cs0 hc) rfl ?_
        refine w_iload_n rfl rfl ?_
        refine w_virtual rfl rfl (cs4 hc) ⟨(Nat.le_of_ble_eq_true rfl), rfl, (Nat.le_of_ble_eq_true rfl), (Nat.le_of_ble_eq_true rfl)⟩ rfl (Nat.le_of_ble_eq_true rfl) (c_find1 hc q hn hi.q.2 hq b1) ?_
        rintro _ _ ⟨rfl, rfl⟩
        refine ⟨_, rfl, ?_⟩
        refine w_ifnonnull rfl rfl ?_
        refine w_aload_n rfl rfl ?_
        refine w_getfield rfl (cs0 hc) rfl ?_
        refine w_iload_n rfl rfl ?_
        refine w_ca6 (j := r) rfl hc rfl hr ?_
        refine w_astore_n rfl (Nat.le_of_ble_eq_true rfl) ?_
        refine w_aload_n rfl rfl ?_
        refine w_getfield rfl (cs0 hc) rfl ?_
        refine w_iconst (v := (-1)) rfl (by decide) ?_
        refine w_if_icmp_eq rfl rfl (fun c48 => ?_) (fun c48 => ?_)
        · exact absurd (Or.inl (by rw [← e1f, c48]; exact m1_lt)) hg
        · refine w_aload_n rfl rfl ?_
          refine w_getfield rfl (cs7 hc hr) rfl ?_
          refine w_static rfl (by decide) rfl ⟨(Nat.le_of_ble_eq_true rfl), (Nat.le_of_ble_eq_true rfl), (Nat.le_of_ble_eq_true rfl)⟩ rfl (Nat.le_of_ble_eq_true rfl) (c_prim _) ?_
          rintro _ _ ⟨rfl, rfl⟩
          refine ⟨_, rfl, ?_⟩
          refine w_aload_n rfl rfl ?_
          refine w_getfield rfl (cs0 hc) rfl ?_
          refine w_if_icmp_eq rfl rfl (fun c62 => ?_) (fun c62 => ?_)
          · refine w_aload_n rfl rfl ?_
            refine w_getfield rfl (cs7 hc hr) rfl ?_
            refine w_getfield rfl (cs8 hc hr) rfl ?_
            refine w_istore rfl (Nat.le_of_ble_eq_true rfl) ?_
            refine w_aload_n rfl rfl ?_
            refine w_aload_n rfl rfl ?_
            refine w_getfield rfl (cs0 hc) rfl ?_
            refine w_aload_n rfl rfl ?_
            refine w_iload_n rfl rfl ?_
            refine w_virtual rfl rfl (cs7 hc hr) ⟨(Nat.le_of_ble_eq_true rfl), rfl, (Nat.le_of_ble_eq_true rfl), (Nat.le_of_ble_eq_true rfl)⟩ rfl (Nat.le_of_ble_eq_true rfl) (c_fit hc hr hnr h12 (nI q)) ?_
            rintro _ _ ⟨rfl, rfl⟩
            refine ⟨_, rfl, ?_⟩
            rw [e1f]
            refine w_virtual rfl rfl (cs7 hc1 hr) ⟨(Nat.le_of_ble_eq_true rfl), rfl, (Nat.le_of_ble_eq_true rfl), (Nat.le_of_ble_eq_true rfl)⟩ rfl (Nat.le_of_ble_eq_true rfl) k1 ?_
            rintro _ _ ⟨rfl, rfl⟩
            refine ⟨_, rfl, ?_⟩
            refine w_aload_n rfl rfl ?_
            refine w_getfield rfl (cs7 hc' hr) rfl ?_
            refine w_getfield rfl (cs8 hc' hr) rfl ?_
            refine w_iload rfl rfl ?_
            refine w_if_icmp_le rfl rfl (fun c98 => ?_) (fun c98 => ?_)
            · refine w_iconst (v := 0) rfl (by decide) ?_
              exact w_ireturn rfl (Or.inr ⟨rfl, Or.inl rfl⟩) ⟨rfl, rfl⟩
            · exact absurd (by rw [el, hnr]; exact Int32.le_refl _) c98
          · exact absurd (Or.inr (by rw [← e6, ← e1f]; exact c62)) hg
set_option maxRecDepth 100000 in
set_option maxHeartbeats 1000000 in
theorem c_ec0a {sc : pm_Sc} {cs : List pm_C} {a : MS} {Y : PT} {kn : Nat × Nat} (hc : 73 < cs.length) (x y : Int32) (h : ¬ (¬ x < 0 ∧ ¬ 4 ≤ x)) (h3 : y < 0 ∨ a.1 2 0 ≤ y) : pu sc 62 [.ref 0, .int x, .int y] (cset cs a Y, kn) (px 1 (cset cs a Y, kn)) := by
  refine w_aload_n rfl rfl ?_
  refine w_getfield rfl (cs0 hc) rfl ?_
  refine w_iload_n rfl rfl ?_
  refine w_virtual rfl rfl (cs4 hc) ⟨(Nat.le_of_ble_eq_true rfl), rfl, (Nat.le_of_ble_eq_true rfl), (Nat.le_of_ble_eq_true rfl)⟩ rfl (Nat.le_of_ble_eq_true rfl) (c_find0 hc y h3) ?_
  rintro _ _ ⟨rfl, rfl⟩
  refine ⟨_, rfl, ?_⟩
  refine w_astore_nN rfl (Nat.le_of_ble_eq_true rfl) ?_
  refine w_iload_n rfl rfl ?_
  refine w_static rfl (by decide) rfl ⟨(Nat.le_of_ble_eq_true rfl), (Nat.le_of_ble_eq_true rfl), (Nat.le_of_ble_eq_true rfl)⟩ rfl (Nat.le_of_ble_eq_true rfl) (c_isRep x) ?_
  rintro _ _ ⟨rfl, rfl⟩
  refine ⟨_, rfl, ?_⟩
  refine w_ifCond_eq rfl rfl (fun c13 => ?_) (fun c13 => ?_)
  · replace c13 := b01_f c13
    exact w_throw rfl (by decide) (Nat.le_of_ble_eq_true rfl) ⟨rfl, rfl⟩
  · replace c13 := b01_t c13
    exact absurd c13 h
set_option maxRecDepth 100000 in
set_option maxHeartbeats 1000000 in
theorem c_ec0b {sc : pm_Sc} {cs : List pm_C} {a : MS} {Y : PT} {kn : Nat × Nat} (hc : 73 < cs.length) (x y : Int32) (h : ¬ x < 0 ∧ ¬ 4 ≤ x) (h3 : y < 0 ∨ a.1 2 0 ≤ y) : pu sc 62 [.ref 0, .int x, .int y] (cset cs a Y, kn) (px 1 (cset cs a Y, kn)) := by
  refine w_aload_n rfl rfl ?_
  refine w_getfield rfl (cs0 hc) rfl ?_
  refine w_iload_n rfl rfl ?_
  refine w_virtual rfl rfl (cs4 hc) ⟨(Nat.le_of_ble_eq_true rfl), rfl, (Nat.le_of_ble_eq_true rfl), (Nat.le_of_ble_eq_true rfl)⟩ rfl (Nat.le_of_ble_eq_true rfl) (c_find0 hc y h3) ?_
  rintro _ _ ⟨rfl, rfl⟩
  refine ⟨_, rfl, ?_⟩
  refine w_astore_nN rfl (Nat.le_of_ble_eq_true rfl) ?_
  refine w_iload_n rfl rfl ?_
  refine w_static rfl (by decide) rfl ⟨(Nat.le_of_ble_eq_true rfl), (Nat.le_of_ble_eq_true rfl), (Nat.le_of_ble_eq_true rfl)⟩ rfl (Nat.le_of_ble_eq_true rfl) (c_isRep x) ?_
  rintro _ _ ⟨rfl, rfl⟩
  refine ⟨_, rfl, ?_⟩
  refine w_ifCond_eq rfl rfl (fun c13 => ?_) (fun c13 => ?_)
  · replace c13 := b01_f c13
    exact absurd h c13
  · replace c13 := b01_t c13
    refine w_iload_n rfl rfl ?_
    refine w_aload_n rfl rfl ?_
    refine w_getfield rfl (cs0 hc) rfl ?_
    refine w_if_icmp_eq rfl rfl (fun c21 => ?_) (fun c21 => ?_)
    · exact w_throw rfl (by decide) (Nat.le_of_ble_eq_true rfl) ⟨rfl, rfl⟩
    · refine w_aload_nN rfl rfl ?_
      refine w_ifnonnullN rfl rfl ?_
      exact w_throw rfl (by decide) (Nat.le_of_ble_eq_true rfl) ⟨rfl, rfl⟩
set_option maxRecDepth 100000 in
set_option maxHeartbeats 1000000 in
theorem c_ec0c {sc : pm_Sc} {cs : List pm_C} {a : MS} {Y : PT} {kn : Nat × Nat} (hc : 73 < cs.length) (x : Int32) {q m p : Nat} (hm : a.1 2 0 = nI m) (h12 : m ≤ 12) (hq : q < m) (hp : Y 1 q = some p) (h : ¬ (¬ x < 0 ∧ ¬ 4 ≤ x)) : pu sc 62 [.ref 0, .int x, .int (nI q)] (cset cs a Y, kn) (px 1 (cset cs a Y, kn)) := by
  refine w_aload_n rfl rfl ?_
  refine w_getfield rfl (cs0 hc) rfl ?_
  refine w_iload_n rfl rfl ?_
  refine w_virtual rfl rfl (cs4 hc) ⟨(Nat.le_of_ble_eq_true rfl), rfl, (Nat.le_of_ble_eq_true rfl), (Nat.le_of_ble_eq_true rfl)⟩ rfl (Nat.le_of_ble_eq_true rfl) (c_find1 hc q hm h12 hq hp) ?_
  rintro _ _ ⟨rfl, rfl⟩
  refine ⟨_, rfl, ?_⟩
  refine w_astore_n rfl (Nat.le_of_ble_eq_true rfl) ?_
  refine w_iload_n rfl rfl ?_
  refine w_static rfl (by decide) rfl ⟨(Nat.le_of_ble_eq_true rfl), (Nat.le_of_ble_eq_true rfl), (Nat.le_of_ble_eq_true rfl)⟩ rfl (Nat.le_of_ble_eq_true rfl) (c_isRep x) ?_
  rintro _ _ ⟨rfl, rfl⟩
  refine ⟨_, rfl, ?_⟩
  refine w_ifCond_eq rfl rfl (fun c13 => ?_) (fun c13 => ?_)
  · replace c13 := b01_f c13
    exact w_throw rfl (by decide) (Nat.le_of_ble_eq_true rfl) ⟨rfl, rfl⟩
  · replace c13 := b01_t c13
    exact absurd c13 h
set_option maxRecDepth 100000 in
set_option maxHeartbeats 1000000 in
theorem c_ec0d {sc : pm_Sc} {cs : List pm_C} {a : MS} {Y : PT} {kn : Nat × Nat} (hc : 73 < cs.length) (x : Int32) {q m p : Nat} (hm : a.1 2 0 = nI m) (h12 : m ≤ 12) (hq : q < m) (hp : Y 1 q = some p) (h : ¬ x < 0 ∧ ¬ 4 ≤ x) (h2 : x = a.1 1 0) : pu sc 62 [.ref 0, .int x, .int (nI q)] (cset cs a Y, kn) (px 1 (cset cs a Y, kn)) := by
  refine w_aload_n rfl rfl ?_
  refine w_getfield rfl (cs0 hc) rfl ?_
  refine w_iload_n rfl rfl ?_
  refine w_virtual rfl rfl (cs4 hc) ⟨(Nat.le_of_ble_eq_true rfl), rfl, (Nat.le_of_ble_eq_true rfl), (Nat.le_of_ble_eq_true rfl)⟩ rfl (Nat.le_of_ble_eq_true rfl) (c_find1 hc q hm h12 hq hp) ?_
  rintro _ _ ⟨rfl, rfl⟩
  refine ⟨_, rfl, ?_⟩
  refine w_astore_n rfl (Nat.le_of_ble_eq_true rfl) ?_
  refine w_iload_n rfl rfl ?_
  refine w_static rfl (by decide) rfl ⟨(Nat.le_of_ble_eq_true rfl), (Nat.le_of_ble_eq_true rfl), (Nat.le_of_ble_eq_true rfl)⟩ rfl (Nat.le_of_ble_eq_true rfl) (c_isRep x) ?_
  rintro _ _ ⟨rfl, rfl⟩
  refine ⟨_, rfl, ?_⟩
  refine w_ifCond_eq rfl rfl (fun c13 => ?_) (fun c13 => ?_)
  · replace c13 := b01_f c13
    exact absurd h c13
  · replace c13 := b01_t c13
    refine w_iload_n rfl rfl ?_
    refine w_aload_n rfl rfl ?_
    refine w_getfield rfl (cs0 hc) rfl ?_
    refine w_if_icmp_eq rfl rfl (fun c21 => ?_) (fun c21 => ?_)
    · exact w_throw rfl (by decide) (Nat.le_of_ble_eq_true rfl) ⟨rfl, rfl⟩
    · exact absurd h2 c21
set_option maxRecDepth 100000 in
set_option maxHeartbeats 1000000 in
theorem c_ec1 {sc : pm_Sc} {s : MS} {c : CX} {t r q : Nat} (h : R s c) (hi : Inv s t) (hr : r < 4) (hq : q < nqN s) (F : ¬ nI r = s.1 1 0) (hg : s.1 1 0 < 0 ∨ ¬ 0 ≤ s.1 30 (4 * q + r)) : pu sc 62 [.ref 0, .int (nI r), .int (nI q)] (hx c) (pz (some (.int 0)) (hx c)) := by
  obtain ⟨cs, a, Y, kn⟩ := c
  have hc : 73 < cs.length := h.1
  have e1f : a.1 1 0 = s.1 1 0 := h.a 1 0 (by omega)
  have hn : a.1 2 0 = nI (nqN s) := (h.a 2 0 (by omega)).trans hi.q.1
  obtain ⟨p, o, g, b1, -, -, -, -, -⟩ := id (h.rg hq)
  have b1 : Y 1 q = some p := b1
  obtain ⟨o, g, z1, z2, z3, z4, z5⟩ := h.rq hq b1
  show pu sc 62 [.ref 0, .int (nI r), .int (nI q)] (cset cs a Y, kn) _
  have hm1 : s.1 1 0 < 0 → s.1 1 0 = -1 := fun z => by
    rcases hi.1.2.2.2 with w | ⟨u, hu, w⟩
    · exact w
    · rw [w] at z; exact absurd z (nI_pos (by omega))
  rcases z4 r hr with ⟨e1, e2⟩ | ⟨l, y, e1, e2, e3, e4⟩
  · skip
    refine w_aload_n rfl rfl ?_
    refine w_getfield rfl (cs0 hc) rfl ?_
    refine w_iload_n rfl rfl ?_
    refine w_virtual rfl rfl (cs4 hc) ⟨(Nat.le_of_ble_eq_true rfl), rfl, (Nat.le_of_ble_eq_true rfl), (Nat.le_of_ble_eq_true rfl)⟩ rfl (Nat.le_of_ble_eq_true rfl) (c_find1 hc q hn hi.q.2 hq b1) ?_
    rintro _ _ ⟨rfl, rfl⟩
    refine ⟨_, rfl, ?_⟩
    refine w_astore_n rfl (Nat.le_of_ble_eq_true rfl) ?_
    refine w_iload_n rfl rfl ?_
    refine w_static rfl (by decide) rfl ⟨(Nat.le_of_ble_eq_true rfl), (Nat.le_of_ble_eq_true rfl), (Nat.le_of_ble_eq_true rfl)⟩ rfl (Nat.le_of_ble_eq_true rfl) (c_isRep (nI r)) ?_
    rintro _ _ ⟨rfl, rfl⟩
    refine ⟨_, rfl, ?_⟩
    rw [isR4 hr]
    refine w_ifCond_eq rfl rfl (fun c13 => ?_) (fun c13 => ?_)
    · exact absurd c13 (by decide)
    · refine w_iload_n rfl rfl ?_
      refine w_aload_n rfl rfl ?_
      refine w_getfield rfl (cs0 hc) rfl ?_
      refine w_if_icmp_eq rfl rfl (fun c21 => ?_) (fun c21 => ?_)
      · exact absurd (by rw [← e1f]; exact c21) F
      · refine w_aload_n rfl rfl ?_
        refine w_ifnonnull rfl rfl ?_
        refine w_aload_n rfl rfl ?_
        refine w_getfield rfl ((cset_out (Nat.not_le_of_gt (Nat.lt_of_lt_of_le (by decide) z1))).trans z2) rfl ?_
        refine w_iload_n rfl rfl ?_
        refine w_halN (j := r) rfl ((cset_out (Nat.not_le_of_gt (Nat.lt_of_lt_of_le (by decide) (Nat.le_succ_of_le z1)))).trans z3) ⟨by decide, by decide⟩ rfl ⟨show r < 4 from hr, by decide⟩ e1 ?_
        refine w_astoreN rfl (Nat.le_of_ble_eq_true rfl) ?_
        refine w_aload_n rfl rfl ?_
        refine w_getfield rfl (cs0 hc) rfl ?_
        refine w_iconst (v := (-1)) rfl (by decide) ?_
        refine w_if_icmp_eq rfl rfl (fun c51 => ?_) (fun c51 => ?_)
        · refine w_iconst (v := 0) rfl (by decide) ?_
          exact w_ireturn rfl (Or.inr ⟨rfl, Or.inl rfl⟩) ⟨rfl, rfl⟩
        · refine w_aloadN rfl rfl ?_
          refine w_ifnonnullN rfl rfl ?_
          refine w_iconst (v := 0) rfl (by decide) ?_
          exact w_ireturn rfl (Or.inr ⟨rfl, Or.inl rfl⟩) ⟨rfl, rfl⟩
  · have hm2 : s.1 1 0 = -1 := hm1 (hg.elim id (fun z => absurd (Int32.not_lt.mp e4) z))
    refine w_aload_n rfl rfl ?_
    refine w_getfield rfl (cs0 hc) rfl ?_
    refine w_iload_n rfl rfl ?_
    refine w_virtual rfl rfl (cs4 hc) ⟨(Nat.le_of_ble_eq_true rfl), rfl, (Nat.le_of_ble_eq_true rfl), (Nat.le_of_ble_eq_true rfl)⟩ rfl (Nat.le_of_ble_eq_true rfl) (c_find1 hc q hn hi.q.2 hq b1) ?_
    rintro _ _ ⟨rfl, rfl⟩
    refine ⟨_, rfl, ?_⟩
    refine w_astore_n rfl (Nat.le_of_ble_eq_true rfl) ?_
    refine w_iload_n rfl rfl ?_
    refine w_static rfl (by decide) rfl ⟨(Nat.le_of_ble_eq_true rfl), (Nat.le_of_ble_eq_true rfl), (Nat.le_of_ble_eq_true rfl)⟩ rfl (Nat.le_of_ble_eq_true rfl) (c_isRep (nI r)) ?_
    rintro _ _ ⟨rfl, rfl⟩
    refine ⟨_, rfl, ?_⟩
    rw [isR4 hr]
    refine w_ifCond_eq rfl rfl (fun c13 => ?_) (fun c13 => ?_)
    · exact absurd c13 (by decide)
    · refine w_iload_n rfl rfl ?_
      refine w_aload_n rfl rfl ?_
      refine w_getfield rfl (cs0 hc) rfl ?_
      refine w_if_icmp_eq rfl rfl (fun c21 => ?_) (fun c21 => ?_)
      · exact absurd (by rw [← e1f]; exact c21) F
      · refine w_aload_n rfl rfl ?_
        refine w_ifnonnull rfl rfl ?_
        refine w_aload_n rfl rfl ?_
        refine w_getfield rfl ((cset_out (Nat.not_le_of_gt (Nat.lt_of_lt_of_le (by decide) z1))).trans z2) rfl ?_
        refine w_iload_n rfl rfl ?_
        refine w_hal (j := r) rfl ((cset_out (Nat.not_le_of_gt (Nat.lt_of_lt_of_le (by decide) (Nat.le_succ_of_le z1)))).trans z3) ⟨by decide, by decide⟩ rfl ⟨show r < 4 from hr, by decide⟩ e1 ?_
        refine w_astore rfl (Nat.le_of_ble_eq_true rfl) ?_
        refine w_aload_n rfl rfl ?_
        refine w_getfield rfl (cs0 hc) rfl ?_
        refine w_iconst (v := (-1)) rfl (by decide) ?_
        refine w_if_icmp_eq rfl rfl (fun c51 => ?_) (fun c51 => ?_)
        · refine w_iconst (v := 0) rfl (by decide) ?_
          exact w_ireturn rfl (Or.inr ⟨rfl, Or.inl rfl⟩) ⟨rfl, rfl⟩
        · exact absurd (e1f.trans hm2) c51
set_option maxRecDepth 100000 in
set_option maxHeartbeats 1000000 in
theorem c_ec2 {sc : pm_Sc} {s : MS} {c : CX} {t r q u : Nat} (h : R s c) (hi : Inv s t) (hr : r < 4) (hq : q < nqN s) (F : ¬ nI r = s.1 1 0) (hu : u < 4) (hfu : s.1 1 0 = nI u) (hg : 0 ≤ s.1 30 (4 * q + r)) : ∃ c', pu sc 62 [.ref 0, .int (nI r), .int (nI q)] (hx c) (pz (some (.int 1)) (hx c')) ∧ R (f_trep s u q (s.1 30 (4 * q + r)) (s.1 31 (4 * q + r)) (s.1 32 (4 * q + r)) (s.1 33 (4 * q + r))) c' ∧ Ext c c' 0 := by
  obtain ⟨cs, a, Y, kn⟩ := c
  have hc : 73 < cs.length := h.1
  have e1f : a.1 1 0 = s.1 1 0 := h.a 1 0 (by omega)
  have hn : a.1 2 0 = nI (nqN s) := (h.a 2 0 (by omega)).trans hi.q.1
  obtain ⟨p, o, g, b1, -, -, -, -, -⟩ := id (h.rg hq)
  have b1 : Y 1 q = some p := b1
  obtain ⟨o, g, z1, z2, z3, z4, z5⟩ := h.rq hq b1
  rcases z4 r hr with ⟨e1, e2⟩ | ⟨l, y, e1, e2, e3, e4⟩
  · rw [e2] at hg; exact absurd hg (by decide)
  · obtain ⟨c', k1, k2, k3⟩ := c_ctake2 (sc := sc) h hi hq hu e2 e3 e4
    rw [← hfu] at k1
    refine ⟨c', ?_, k2, k3⟩
    show pu sc 62 [.ref 0, .int (nI r), .int (nI q)] (cset cs a Y, kn) _
    refine w_aload_n rfl rfl ?_
    refine w_getfield rfl (cs0 hc) rfl ?_
    refine w_iload_n rfl rfl ?_
    refine w_virtual rfl rfl (cs4 hc) ⟨(Nat.le_of_ble_eq_true rfl), rfl, (Nat.le_of_ble_eq_true rfl), (Nat.le_of_ble_eq_true rfl)⟩ rfl (Nat.le_of_ble_eq_true rfl) (c_find1 hc q hn hi.q.2 hq b1) ?_
    rintro _ _ ⟨rfl, rfl⟩
    refine ⟨_, rfl, ?_⟩
    refine w_astore_n rfl (Nat.le_of_ble_eq_true rfl) ?_
    refine w_iload_n rfl rfl ?_
    refine w_static rfl (by decide) rfl ⟨(Nat.le_of_ble_eq_true rfl), (Nat.le_of_ble_eq_true rfl), (Nat.le_of_ble_eq_true rfl)⟩ rfl (Nat.le_of_ble_eq_true rfl) (c_isRep (nI r)) ?_
    rintro _ _ ⟨rfl, rfl⟩
    refine ⟨_, rfl, ?_⟩
    rw [isR4 hr]
    refine w_ifCond_eq rfl rfl (fun c13 => ?_) (fun c13 => ?_)
    · exact absurd c13 (by decide)
    · refine w_iload_n rfl rfl ?_
      refine w_aload_n rfl rfl ?_
      refine w_getfield rfl (cs0 hc) rfl ?_
      refine w_if_icmp_eq rfl rfl (fun c21 => ?_) (fun c21 => ?_)
      · exact absurd (by rw [← e1f]; exact c21) F
      · refine w_aload_n rfl rfl ?_
        refine w_ifnonnull rfl rfl ?_
        refine w_aload_n rfl rfl ?_
        refine w_getfield rfl ((cset_out (Nat.not_le_of_gt (Nat.lt_of_lt_of_le (by decide) z1))).trans z2) rfl ?_
        refine w_iload_n rfl rfl ?_
        refine w_hal (j := r) rfl ((cset_out (Nat.not_le_of_gt (Nat.lt_of_lt_of_le (by decide) (Nat.le_succ_of_le z1)))).trans z3) ⟨by decide, by decide⟩ rfl ⟨show r < 4 from hr, by decide⟩ e1 ?_
        refine w_astore rfl (Nat.le_of_ble_eq_true rfl) ?_
        refine w_aload_n rfl rfl ?_
        refine w_getfield rfl (cs0 hc) rfl ?_
        refine w_iconst (v := (-1)) rfl (by decide) ?_
        refine w_if_icmp_eq rfl rfl (fun c51 => ?_) (fun c51 => ?_)
        · exact absurd (by rw [← hfu, ← e1f]; exact c51) (nI_nm1 (v := u) (by omega))
        · refine w_aload rfl rfl ?_
          refine w_ifnonnull rfl rfl ?_
          refine w_aload_n rfl rfl ?_
          refine w_getfield rfl (cs0 hc) rfl ?_
          refine w_aload_n rfl rfl ?_
          refine w_getfield rfl (cs0 hc) rfl ?_
          refine w_aload rfl rfl ?_
          rw [e1f]
          refine w_virtual rfl rfl (cs4 hc) ⟨(Nat.le_of_ble_eq_true rfl), rfl, (Nat.le_of_ble_eq_true rfl), (Nat.le_of_ble_eq_true rfl)⟩ rfl (Nat.le_of_ble_eq_true rfl) (k1) ?_
          rintro _ _ ⟨rfl, rfl⟩
          refine ⟨_, rfl, ?_⟩
          refine w_iconst (v := 1) rfl (by decide) ?_
          exact w_ireturn rfl (Or.inr ⟨rfl, Or.inr rfl⟩) ⟨rfl, rfl⟩
