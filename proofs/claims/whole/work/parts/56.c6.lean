-- deps: 55.c5
/-! the client takes -/
theorem w_das {sc : pm_Sc} {i pc : Nat} {lv : pm_L} {st : List Value} {kn : Nat × Nat} {cs : List pm_C} {a : MS} {Y : PT} {Q : (Option Value ⊕ Nat) → pm_H → Prop} {j p q len : Nat} {fs : List Value} {x : Int32} {g : Nat → Option Nat} (ha : pm_at i pc = some (.aastore, len, [])) (hc : 73 < cs.length) (hp : 30 < p ∧ cs[p]? = some (arrC g)) (hq : (cset cs a Y)[q]? = some (.inr (2, fs))) (hx : x = nI j) (hj : j < 4) (kk : pw sc i (pc + 1, lv, st, (cset (cs.set p (arrC (fun w => if w = j then some q else g w))) a Y, kn)) Q) : pw sc i (pc, lv, .ref q :: .int x :: .ref p :: st, (cset cs a Y, kn)) Q := by
  subst hx
  refine w_aastore ha (h := (cset cs a Y, kn)) ((cset_out (by omega)).trans hp.2) hq ⟨nI_pos (by omega), by rw [nI_clamp (by omega), List.length_map, List.length_range]; exact hj, by omega, by omega, rfl⟩ ?_
  rw [nI_clamp (by omega), map_up 4 j hj]
  have e : (fun b => if b = j then Value.ref q else pv (g b)) = fun b => pv (if b = j then some q else g b) := by
    funext b; split <;> rfl
  rw [e]
  show pw sc i (pc + 1, lv, st, ((cset cs a Y).set p _, kn)) Q
  rw [cset_set hc hp.1]; exact kk
theorem mx_eq (x y : Int32) : (if x < y then y else x) = if y ≤ x then x else y := by
  by_cases h : y ≤ x
  · rw [if_pos h, if_neg (fun z => absurd (Int32.lt_of_lt_of_le z h) Int32.lt_irrefl)]
  · rw [if_neg h, if_pos (Int32.not_le.mp h)]
set_option maxRecDepth 100000 in
set_option maxHeartbeats 400000 in
theorem look_d {sc : pm_Sc} {cs : List pm_C} {a : MS} {Y : PT} {kn : Nat × Nat} (hc : 73 < cs.length) {s : MS} {q p : Nat} {x0 x1 x2 x6 x7 : Value} {g : Nat → Option Nat} {dn : Int32} {o : Option Nat} (h74 : 74 ≤ p) (hp : cs[p]? = some (.inr (6, [x0, x1, x2, .ref (p + 1), pv o, .int dn, x6, x7]))) (ha : cs[p + 1]? = some (arrC g)) (hP : ∀ u, u < 4 → RP cs s q u (g u)) (hdn : ¬ dn = 0) : pu sc 5 [.ref 4, .ref p] (cset cs a Y, kn) (pz none (cset cs a Y, kn)) := by
  refine w_aload_n rfl rfl ?_
  refine w_ifnull rfl rfl ?_
  refine w_aload_n rfl rfl ?_
  refine w_getfield rfl ((cset_out (Nat.not_le_of_gt (Nat.lt_of_lt_of_le (by decide) h74))).trans hp) rfl ?_
  refine w_ifCond_eq rfl rfl (fun c8 => ?_) (fun c8 => ?_)
  · exact absurd c8 hdn
  · exact w_return rfl rfl ⟨rfl, rfl⟩
set_option maxRecDepth 100000 in
set_option maxHeartbeats 400000 in
theorem look_4 {sc : pm_Sc} {cs : List pm_C} {a : MS} {Y : PT} {kn : Nat × Nat} (hc : 73 < cs.length) {s : MS} {q p : Nat} {x0 x1 x2 x6 x7 : Value} {g : Nat → Option Nat} {dn : Int32} {o : Option Nat} (h74 : 74 ≤ p) (hp : cs[p]? = some (.inr (6, [x0, x1, x2, .ref (p + 1), pv o, .int dn, x6, x7]))) (ha : cs[p + 1]? = some (arrC g)) (hP : ∀ u, u < 4 → RP cs s q u (g u)) (hdn : dn = 0){l : Nat} (h30l : 30 < l) {k v r pl d e : Int32} {y : Option Nat} (hl : cs[l]? = some (letC k v r pl d e y))  (hal : alN s q 0 4 = 4) (hg : g 0 = some l) : pu sc 5 [.ref 4, .ref p] (cset cs a Y, kn) (pz none (cset (cs.set p (.inr (6, [x0, x1, x2, .ref (p + 1), pv o, .int 1, .int e, .int pl]))) a Y, kn)) := by
  refine w_aload_n rfl rfl ?_
  refine w_ifnull rfl rfl ?_
  refine w_aload_n rfl rfl ?_
  refine w_getfield rfl ((cset_out (Nat.not_le_of_gt (Nat.lt_of_lt_of_le (by decide) h74))).trans hp) rfl ?_
  refine w_ifCond_eq rfl rfl (fun c8 => ?_) (fun c8 => ?_)
  · refine w_aload_n rfl rfl ?_
    refine w_iconst (v := 4) rfl (by decide) ?_
    refine w_virtual rfl rfl ((cset_out (Nat.not_le_of_gt (Nat.lt_of_lt_of_le (by decide) h74))).trans hp) ⟨(Nat.le_of_ble_eq_true rfl), rfl, (Nat.le_of_ble_eq_true rfl), (Nat.le_of_ble_eq_true rfl)⟩ rfl (Nat.le_of_ble_eq_true rfl) (c_agree (h := (cset cs a Y, kn)) (M := 4) ((cset_out (by omega)).trans hp) ((cset_out (by omega)).trans ha) (fun u hu => (hP u hu).out) (by decide)) ?_
    rintro _ _ ⟨rfl, rfl⟩
    refine ⟨_, rfl, ?_⟩
    have eF : fqN s q 4 4 0 = 0 := by rw [fq_4, if_pos hal]
    rw [eF, if_neg (by omega), hg]
    refine w_astore_n rfl (Nat.le_of_ble_eq_true rfl) ?_
    refine w_aload_n rfl rfl ?_
    refine w_ifnull rfl rfl ?_
    refine w_aload_n rfl rfl ?_
    refine w_aload_n rfl rfl ?_
    refine w_virtual rfl rfl ((cset_out (Nat.not_le_of_gt (Nat.lt_of_lt_of_le (by decide) h74))).trans hp) ⟨(Nat.le_of_ble_eq_true rfl), rfl, (Nat.le_of_ble_eq_true rfl), (Nat.le_of_ble_eq_true rfl)⟩ rfl (Nat.le_of_ble_eq_true rfl) (c_fin hc (by omega) hp h30l hl) ?_
    rintro _ _ ⟨rfl, rfl⟩
    refine ⟨_, rfl, ?_⟩
    refine w_goto rfl rfl ?_
    exact w_return rfl rfl ⟨rfl, rfl⟩
  · exact absurd hdn c8
set_option maxRecDepth 100000 in
set_option maxHeartbeats 400000 in
theorem look_n {sc : pm_Sc} {cs : List pm_C} {a : MS} {Y : PT} {kn : Nat × Nat} (hc : 73 < cs.length) {s : MS} {q p : Nat} {x0 x1 x2 x6 x7 : Value} {g : Nat → Option Nat} {dn : Int32} (h74 : 74 ≤ p) (hp : cs[p]? = some (.inr (6, [x0, x1, x2, .ref (p + 1), pv none, .int dn, x6, x7]))) (ha : cs[p + 1]? = some (arrC g)) (hP : ∀ u, u < 4 → RP cs s q u (g u)) (hdn : dn = 0) (hal : ¬ alN s q 0 4 = 4) : pu sc 5 [.ref 4, .ref p] (cset cs a Y, kn) (pz none (cset cs a Y, kn)) := by
  refine w_aload_n rfl rfl ?_
  refine w_ifnull rfl rfl ?_
  refine w_aload_n rfl rfl ?_
  refine w_getfield rfl ((cset_out (Nat.not_le_of_gt (Nat.lt_of_lt_of_le (by decide) h74))).trans hp) rfl ?_
  refine w_ifCond_eq rfl rfl (fun c8 => ?_) (fun c8 => ?_)
  · refine w_aload_n rfl rfl ?_
    refine w_iconst (v := 4) rfl (by decide) ?_
    refine w_virtual rfl rfl ((cset_out (Nat.not_le_of_gt (Nat.lt_of_lt_of_le (by decide) h74))).trans hp) ⟨(Nat.le_of_ble_eq_true rfl), rfl, (Nat.le_of_ble_eq_true rfl), (Nat.le_of_ble_eq_true rfl)⟩ rfl (Nat.le_of_ble_eq_true rfl) (c_agree (h := (cset cs a Y, kn)) (M := 4) ((cset_out (by omega)).trans hp) ((cset_out (by omega)).trans ha) (fun u hu => (hP u hu).out) (by decide)) ?_
    rintro _ _ ⟨rfl, rfl⟩
    refine ⟨_, rfl, ?_⟩
    have eF : fqN s q 4 4 0 = 4 := by rw [fq_4, if_neg hal]
    rw [eF, if_pos rfl]
    refine w_astore_nN rfl (Nat.le_of_ble_eq_true rfl) ?_
    refine w_aload_nN rfl rfl ?_
    refine w_ifnullN rfl rfl ?_
    refine w_aload_n rfl rfl ?_
    refine w_getfield rfl ((cset_out (Nat.not_le_of_gt (Nat.lt_of_lt_of_le (by decide) h74))).trans hp) rfl ?_
    refine w_ifnullN rfl rfl ?_
    exact w_return rfl rfl ⟨rfl, rfl⟩
  · exact absurd hdn c8
set_option maxRecDepth 100000 in
set_option maxHeartbeats 400000 in
theorem look_a {sc : pm_Sc} {cs : List pm_C} {a : MS} {Y : PT} {kn : Nat × Nat} (hc : 73 < cs.length) {s : MS} {l : Nat} {q p : Nat} {x0 x1 x2 x6 x7 : Value} {g : Nat → Option Nat} {dn : Int32} (h74 : 74 ≤ p) (hp : cs[p]? = some (.inr (6, [x0, x1, x2, .ref (p + 1), pv (some l), .int dn, x6, x7]))) (ha : cs[p + 1]? = some (arrC g)) (hP : ∀ u, u < 4 → RP cs s q u (g u)) (hdn : dn = 0)(h30l : 30 < l) {y : Option Nat} (hl : cs[l]? = some (letC 2 (s.1 38 q) (nI q) (s.1 39 q) (s.1 40 q) (s.1 41 q) y)) (h37 : s.1 37 q = 1) (hpos : ¬ s.1 38 q < 0) (hA : ∀ u, u < 4 → RH cs Y s u)  (hal : ¬ alN s q 0 4 = 4) (hak : akN s q 4 < 3) : pu sc 5 [.ref 4, .ref p] (cset cs a Y, kn) (pz none (cset cs a Y, kn)) := by
  refine w_aload_n rfl rfl ?_
  refine w_ifnull rfl rfl ?_
  refine w_aload_n rfl rfl ?_
  refine w_getfield rfl ((cset_out (Nat.not_le_of_gt (Nat.lt_of_lt_of_le (by decide) h74))).trans hp) rfl ?_
  refine w_ifCond_eq rfl rfl (fun c8 => ?_) (fun c8 => ?_)
  · refine w_aload_n rfl rfl ?_
    refine w_iconst (v := 4) rfl (by decide) ?_
    refine w_virtual rfl rfl ((cset_out (Nat.not_le_of_gt (Nat.lt_of_lt_of_le (by decide) h74))).trans hp) ⟨(Nat.le_of_ble_eq_true rfl), rfl, (Nat.le_of_ble_eq_true rfl), (Nat.le_of_ble_eq_true rfl)⟩ rfl (Nat.le_of_ble_eq_true rfl) (c_agree (h := (cset cs a Y, kn)) (M := 4) ((cset_out (by omega)).trans hp) ((cset_out (by omega)).trans ha) (fun u hu => (hP u hu).out) (by decide)) ?_
    rintro _ _ ⟨rfl, rfl⟩
    refine ⟨_, rfl, ?_⟩
    have eF : fqN s q 4 4 0 = 4 := by rw [fq_4, if_neg hal]
    rw [eF, if_pos rfl]
    refine w_astore_nN rfl (Nat.le_of_ble_eq_true rfl) ?_
    refine w_aload_nN rfl rfl ?_
    refine w_ifnullN rfl rfl ?_
    refine w_aload_n rfl rfl ?_
    refine w_getfield rfl ((cset_out (Nat.not_le_of_gt (Nat.lt_of_lt_of_le (by decide) h74))).trans hp) rfl ?_
    refine w_ifnull rfl rfl ?_
    refine w_aload_n rfl rfl ?_
    refine w_aload_n rfl rfl ?_
    refine w_getfield rfl ((cset_out (Nat.not_le_of_gt (Nat.lt_of_lt_of_le (by decide) h74))).trans hp) rfl ?_
    refine w_virtual rfl rfl (cs4 hc) ⟨(Nat.le_of_ble_eq_true rfl), rfl, (Nat.le_of_ble_eq_true rfl), (Nat.le_of_ble_eq_true rfl)⟩ rfl (Nat.le_of_ble_eq_true rfl) (c_cAck hc ((cset_out (by omega)).trans hl) h37 hpos (fun u hu => (hA u hu).out)) ?_
    rintro _ _ ⟨rfl, rfl⟩
    refine ⟨_, rfl, ?_⟩
    refine w_iconst (v := 3) rfl (by decide) ?_
    refine w_if_icmp_lt rfl rfl (fun c46 => ?_) (fun c46 => ?_)
    · exact w_return rfl rfl ⟨rfl, rfl⟩
    · exact absurd hak c46
  · exact absurd hdn c8
set_option maxRecDepth 100000 in
set_option maxHeartbeats 400000 in
theorem look_f {sc : pm_Sc} {cs : List pm_C} {a : MS} {Y : PT} {kn : Nat × Nat} (hc : 73 < cs.length) {s : MS} {l : Nat} {q p : Nat} {x0 x1 x2 x6 x7 : Value} {g : Nat → Option Nat} {dn : Int32} (h74 : 74 ≤ p) (hp : cs[p]? = some (.inr (6, [x0, x1, x2, .ref (p + 1), pv (some l), .int dn, x6, x7]))) (ha : cs[p + 1]? = some (arrC g)) (hP : ∀ u, u < 4 → RP cs s q u (g u)) (hdn : dn = 0)(h30l : 30 < l) {y : Option Nat} (hl : cs[l]? = some (letC 2 (s.1 38 q) (nI q) (s.1 39 q) (s.1 40 q) (s.1 41 q) y)) (h37 : s.1 37 q = 1) (hpos : ¬ s.1 38 q < 0) (hA : ∀ u, u < 4 → RH cs Y s u)  (hal : ¬ alN s q 0 4 = 4) (hak : ¬ akN s q 4 < 3) : pu sc 5 [.ref 4, .ref p] (cset cs a Y, kn) (pz none (cset (cs.set p (.inr (6, [x0, x1, x2, .ref (p + 1), pv (some l), .int 1, .int (s.1 41 q), .int (s.1 39 q)]))) a Y, kn)) := by
  refine w_aload_n rfl rfl ?_
  refine w_ifnull rfl rfl ?_
  refine w_aload_n rfl rfl ?_
  refine w_getfield rfl ((cset_out (Nat.not_le_of_gt (Nat.lt_of_lt_of_le (by decide) h74))).trans hp) rfl ?_
  refine w_ifCond_eq rfl rfl (fun c8 => ?_) (fun c8 => ?_)
  · refine w_aload_n rfl rfl ?_
    refine w_iconst (v := 4) rfl (by decide) ?_
    refine w_virtual rfl rfl ((cset_out (Nat.not_le_of_gt (Nat.lt_of_lt_of_le (by decide) h74))).trans hp) ⟨(Nat.le_of_ble_eq_true rfl), rfl, (Nat.le_of_ble_eq_true rfl), (Nat.le_of_ble_eq_true rfl)⟩ rfl (Nat.le_of_ble_eq_true rfl) (c_agree (h := (cset cs a Y, kn)) (M := 4) ((cset_out (by omega)).trans hp) ((cset_out (by omega)).trans ha) (fun u hu => (hP u hu).out) (by decide)) ?_
    rintro _ _ ⟨rfl, rfl⟩
    refine ⟨_, rfl, ?_⟩
    have eF : fqN s q 4 4 0 = 4 := by rw [fq_4, if_neg hal]
    rw [eF, if_pos rfl]
    refine w_astore_nN rfl (Nat.le_of_ble_eq_true rfl) ?_
    refine w_aload_nN rfl rfl ?_
    refine w_ifnullN rfl rfl ?_
    refine w_aload_n rfl rfl ?_
    refine w_getfield rfl ((cset_out (Nat.not_le_of_gt (Nat.lt_of_lt_of_le (by decide) h74))).trans hp) rfl ?_
    refine w_ifnull rfl rfl ?_
    refine w_aload_n rfl rfl ?_
    refine w_aload_n rfl rfl ?_
    refine w_getfield rfl ((cset_out (Nat.not_le_of_gt (Nat.lt_of_lt_of_le (by decide) h74))).trans hp) rfl ?_
    refine w_virtual rfl rfl (cs4 hc) ⟨(Nat.le_of_ble_eq_true rfl), rfl, (Nat.le_of_ble_eq_true rfl), (Nat.le_of_ble_eq_true rfl)⟩ rfl (Nat.le_of_ble_eq_true rfl) (c_cAck hc ((cset_out (by omega)).trans hl) h37 hpos (fun u hu => (hA u hu).out)) ?_
    rintro _ _ ⟨rfl, rfl⟩
    refine ⟨_, rfl, ?_⟩
    refine w_iconst (v := 3) rfl (by decide) ?_
    refine w_if_icmp_lt rfl rfl (fun c46 => ?_) (fun c46 => ?_)
    · exact absurd c46 hak
    · refine w_aload_n rfl rfl ?_
      refine w_aload_n rfl rfl ?_
      refine w_getfield rfl ((cset_out (Nat.not_le_of_gt (Nat.lt_of_lt_of_le (by decide) h74))).trans hp) rfl ?_
      refine w_virtual rfl rfl ((cset_out (Nat.not_le_of_gt (Nat.lt_of_lt_of_le (by decide) h74))).trans hp) ⟨(Nat.le_of_ble_eq_true rfl), rfl, (Nat.le_of_ble_eq_true rfl), (Nat.le_of_ble_eq_true rfl)⟩ rfl (Nat.le_of_ble_eq_true rfl) (c_fin hc (by omega) hp h30l hl) ?_
      rintro _ _ ⟨rfl, rfl⟩
      refine ⟨_, rfl, ?_⟩
      exact w_return rfl rfl ⟨rfl, rfl⟩
  · exact absurd hdn c8
theorem R.rg {s : MS} {c : CX} {q : Nat} (h : R s c) (hq : q < nqN s) : RG c.1 c.2.2.1 s q := h.2.2.2.2.2.2.1 q hq
theorem R.rh {s : MS} {c : CX} {u : Nat} (h : R s c) (hu : u < 4) : RH c.1 c.2.2.1 s u := h.2.2.2.2.2.2.2.2.2 u hu
theorem R.fin {s : MS} {cs : List pm_C} {a : MS} {Y : PT} {kn : Nat × Nat} {q p : Nat} {o : Option Nat} {g : Nat → Option Nat} (res pl : Int32) (h : R s (cs, a, Y, kn)) (hq : q < nqN s) (hp : Y 1 q = some p) (h74 : 74 ≤ p) (hp1 : cs[p]? = some (reqC s q p o)) (hp2 : cs[p + 1]? = some (arrC g)) (hP : ∀ u, u < 4 → RP cs s q u (g u)) (hQ : RQ cs s q o) : R (f_fin s q res pl) (cs.set p (.inr (6, [.int (s.1 3 q), .int (s.1 4 q), .int (s.1 5 q), .ref (p + 1), pv o, .int 1, .int res, .int pl])), a, Y, kn) ∧ Ext (cs, a, Y, kn) (cs.set p (.inr (6, [.int (s.1 3 q), .int (s.1 4 q), .int (s.1 5 q), .ref (p + 1), pv o, .int 1, .int res, .int pl])), a, Y, kn) 0 := by
  refine ⟨h.req (o' := o) (g' := g) hq hp h74 hp1 hp2 (fun f j h1 h2 h3 h4 => fin_ne (by omega)) rfl (List.length_set ..) (fun i h1 h2 => gs_ne (fun z => h1 z.symm)) ?_ ((gs_ne (by omega)).trans hp2) (fun u hu => (hP u hu).cong (KC.rf _) (fun x _ _ => fin_ne (by omega))) (hQ.cong (KC.rf _) (fun x _ _ => fin_ne (by omega))), ext_set h74 hp1 nlk6⟩
  rw [gs_self hp1]
  unfold reqC
  have e42 : (f_fin s q res pl).1 42 q = 1 := by
    unfold f_fin
    rw [up_n (by omega), up_n (by omega), up_i]
  have e43 : (f_fin s q res pl).1 43 q = res := by
    unfold f_fin
    rw [up_n (by omega), up_i]
  have e44 : (f_fin s q res pl).1 44 q = pl := up_i
  rw [e42, e43, e44, fin_ne (by omega), fin_ne (by omega), fin_ne (by omega)]
theorem c_look {sc : pm_Sc} {s : MS} {c : CX} {q p : Nat} (h : R s c) (hq : q < nqN s) (hp : c.2.2.1 1 q = some p) : ∃ c', pu sc 5 [.ref 4, .ref p] (hx c) (pz none (hx c')) ∧ R (f_look s q) c' ∧ Ext c c' 0 ∧ c'.2.2.1 = c.2.2.1 := by
  obtain ⟨cs, a, Y, kn⟩ := c
  have hc : 73 < cs.length := h.1
  obtain ⟨p', o, g, b1, b2, b3, b4, b5, b6⟩ := h.rg hq
  have ep : p' = p := by
    have := b1.symm.trans hp
    cases this; rfl
  subst ep
  unfold f_look
  by_cases d : s.1 42 q = 0
  · rw [if_pos d]
    by_cases A : alN s q 0 4 = 4
    · rw [if_pos A]
      have hpos : ¬ s.1 30 (4 * q) < 0 := fun z => by
        have := alN_neg (s := s) (q := q) (r := 0) z 4
        rw [this] at A
        exact absurd A (by decide)
      rcases b5 0 (by omega) with ⟨e1, e2⟩ | ⟨l, y, e1, e2, e3, e4⟩
      · rw [Nat.add_zero] at e2
        exact absurd (by rw [e2]; exact m1_lt) hpos
      · obtain ⟨r1, r2⟩ := R.fin (s.1 33 (4 * q)) (s.1 31 (4 * q)) h hq b1 b2 b3 b4 b5 b6
        exact ⟨_, look_4 hc b2 b3 b4 b5 d (by omega) e3 A e1, r1, r2, rfl⟩
    · rw [if_neg A]
      rcases b6 with ⟨e1, e2⟩ | ⟨l, y, e1, e2, e3, e4, e5⟩
      · subst e1
        rw [ak_0 e2, if_pos (by decide)]
        exact ⟨_, look_n hc b2 b3 b4 b5 d A, h, Ext.rf _, rfl⟩
      · subst e1
        by_cases C : akN s q 4 < 3
        · rw [if_pos C]
          exact ⟨_, look_a hc b2 b3 b4 b5 d (by omega) e4 e3 e5 (fun u hu => h.rh hu) A C, h, Ext.rf _, rfl⟩
        · rw [if_neg C]
          obtain ⟨r1, r2⟩ := R.fin (s.1 41 q) (s.1 39 q) h hq b1 b2 b3 b4 b5 (Or.inr ⟨l, y, rfl, e2, e3, e4, e5⟩)
          exact ⟨_, look_f hc b2 b3 b4 b5 d (by omega) e4 e3 e5 (fun u hu => h.rh hu) A C, r1, r2, rfl⟩
  · rw [if_neg d]
    exact ⟨_, look_d hc b2 b3 b4 b5 d, h, Ext.rf _, rfl⟩
set_option maxRecDepth 100000 in
set_option maxHeartbeats 400000 in
theorem keep_n {sc : pm_Sc} {cs : List pm_C} {a : MS} {Y : PT} {kn : Nat × Nat} (hc : 73 < cs.length) {p u l : Nat} {x0 x1 x2 x4 x5 x6 x7 : Value} {g : Nat → Option Nat} (h74 : 74 ≤ p) (hp : cs[p]? = some (.inr (6, [x0, x1, x2, .ref (p + 1), x4, x5, x6, x7]))) (ha : cs[p + 1]? = some (arrC g)) (hu : u < 4) (h30l : 30 < l) {k v r pl d e : Int32} {y : Option Nat} (hl : cs[l]? = some (letC k v r pl d e y)) (hg : g u = none) : pu sc 48 [.ref p, .int (nI u), .ref l] (cset cs a Y, kn) (pz none (cset (cs.set (p + 1) (arrC (fun w => if w = u then some l else g w))) a Y, kn)) := by
  refine w_aload_n rfl rfl ?_
  refine w_getfield rfl ((cset_out (Nat.not_le_of_gt (Nat.lt_of_lt_of_le (by decide) h74))).trans hp) rfl ?_
  refine w_iload_n rfl rfl ?_
  refine w_halN (j := u) rfl ((cset_out (Nat.not_le_of_gt (Nat.lt_of_lt_of_le (by decide) (Nat.le_succ_of_le h74)))).trans ha) ⟨by decide, by decide⟩ rfl ⟨show u < 4 from hu, by decide⟩ hg ?_
  refine w_astore_nN rfl (Nat.le_of_ble_eq_true rfl) ?_
  refine w_aload_nN rfl rfl ?_
  refine w_ifnullN rfl rfl ?_
  refine w_aload_n rfl rfl ?_
  refine w_getfield rfl ((cset_out (Nat.not_le_of_gt (Nat.lt_of_lt_of_le (by decide) h74))).trans hp) rfl ?_
  refine w_iload_n rfl rfl ?_
  refine w_aload_n rfl rfl ?_
  refine w_das (j := u) rfl hc ⟨by omega, ha⟩ ((cset_out (by omega)).trans hl) rfl hu ?_
  exact w_return rfl rfl ⟨rfl, rfl⟩
set_option maxRecDepth 100000 in
set_option maxHeartbeats 400000 in
theorem keep_y {sc : pm_Sc} {cs : List pm_C} {a : MS} {Y : PT} {kn : Nat × Nat} (hc : 73 < cs.length) {p u l : Nat} {x0 x1 x2 x4 x5 x6 x7 : Value} {g : Nat → Option Nat} (h74 : 74 ≤ p) (hp : cs[p]? = some (.inr (6, [x0, x1, x2, .ref (p + 1), x4, x5, x6, x7]))) (ha : cs[p + 1]? = some (arrC g)) (hu : u < 4) (h30l : 30 < l) {k v r pl d e : Int32} {y : Option Nat} (hl : cs[l]? = some (letC k v r pl d e y)) {l0 : Nat} (h30o : 30 < l0) {k0 v0 r0 pl0 d0 e0 : Int32} {y0 : Option Nat} (hl0 : cs[l0]? = some (letC k0 v0 r0 pl0 d0 e0 y0)) (hg : g u = some l0) (hv : v0 ≤ v) : pu sc 48 [.ref p, .int (nI u), .ref l] (cset cs a Y, kn) (pz none (cset (cs.set (p + 1) (arrC (fun w => if w = u then some l else g w))) a Y, kn)) := by
  refine w_aload_n rfl rfl ?_
  refine w_getfield rfl ((cset_out (Nat.not_le_of_gt (Nat.lt_of_lt_of_le (by decide) h74))).trans hp) rfl ?_
  refine w_iload_n rfl rfl ?_
  refine w_hal (j := u) rfl ((cset_out (Nat.not_le_of_gt (Nat.lt_of_lt_of_le (by decide) (Nat.le_succ_of_le h74)))).trans ha) ⟨by decide, by decide⟩ rfl ⟨show u < 4 from hu, by decide⟩ hg ?_
  refine w_astore_n rfl (Nat.le_of_ble_eq_true rfl) ?_
  refine w_aload_n rfl rfl ?_
  refine w_ifnull rfl rfl ?_
  refine w_aload_n rfl rfl ?_
  refine w_getfield rfl ((cset_out (Nat.not_le_of_gt h30o)).trans hl0) rfl ?_
  refine w_aload_n rfl rfl ?_
  refine w_getfield rfl ((cset_out (Nat.not_le_of_gt h30l)).trans hl) rfl ?_
  refine w_if_icmp_gt rfl rfl (fun c19 => ?_) (fun c19 => ?_)
  · exact absurd (Int32.lt_of_lt_of_le c19 hv) Int32.lt_irrefl
  · refine w_aload_n rfl rfl ?_
    refine w_getfield rfl ((cset_out (Nat.not_le_of_gt (Nat.lt_of_lt_of_le (by decide) h74))).trans hp) rfl ?_
    refine w_iload_n rfl rfl ?_
    refine w_aload_n rfl rfl ?_
    refine w_das (j := u) rfl hc ⟨by omega, ha⟩ ((cset_out (by omega)).trans hl) rfl hu ?_
    exact w_return rfl rfl ⟨rfl, rfl⟩
set_option maxRecDepth 100000 in
set_option maxHeartbeats 400000 in
theorem keep_o {sc : pm_Sc} {cs : List pm_C} {a : MS} {Y : PT} {kn : Nat × Nat} (hc : 73 < cs.length) {p u l : Nat} {x0 x1 x2 x4 x5 x6 x7 : Value} {g : Nat → Option Nat} (h74 : 74 ≤ p) (hp : cs[p]? = some (.inr (6, [x0, x1, x2, .ref (p + 1), x4, x5, x6, x7]))) (ha : cs[p + 1]? = some (arrC g)) (hu : u < 4) (h30l : 30 < l) {k v r pl d e : Int32} {y : Option Nat} (hl : cs[l]? = some (letC k v r pl d e y)) {l0 : Nat} (h30o : 30 < l0) {k0 v0 r0 pl0 d0 e0 : Int32} {y0 : Option Nat} (hl0 : cs[l0]? = some (letC k0 v0 r0 pl0 d0 e0 y0)) (hg : g u = some l0) (hv : ¬ v0 ≤ v) : pu sc 48 [.ref p, .int (nI u), .ref l] (cset cs a Y, kn) (pz none (cset cs a Y, kn)) := by
  refine w_aload_n rfl rfl ?_
  refine w_getfield rfl ((cset_out (Nat.not_le_of_gt (Nat.lt_of_lt_of_le (by decide) h74))).trans hp) rfl ?_
  refine w_iload_n rfl rfl ?_
  refine w_hal (j := u) rfl ((cset_out (Nat.not_le_of_gt (Nat.lt_of_lt_of_le (by decide) (Nat.le_succ_of_le h74)))).trans ha) ⟨by decide, by decide⟩ rfl ⟨show u < 4 from hu, by decide⟩ hg ?_
  refine w_astore_n rfl (Nat.le_of_ble_eq_true rfl) ?_
  refine w_aload_n rfl rfl ?_
  refine w_ifnull rfl rfl ?_
  refine w_aload_n rfl rfl ?_
  refine w_getfield rfl ((cset_out (Nat.not_le_of_gt h30o)).trans hl0) rfl ?_
  refine w_aload_n rfl rfl ?_
  refine w_getfield rfl ((cset_out (Nat.not_le_of_gt h30l)).trans hl) rfl ?_
  refine w_if_icmp_gt rfl rfl (fun c19 => ?_) (fun c19 => ?_)
  · exact w_return rfl rfl ⟨rfl, rfl⟩
  · exact absurd (Int32.not_lt.mp c19) hv
theorem c_keep {sc : pm_Sc} {s : MS} {c : CX} {q p u l : Nat} {v pl d res : Int32} {y : Option Nat} (h : R s c) (hq : q < nqN s) (hp : c.2.2.1 1 q = some p) (hu : u < 4) (hl : 74 ≤ l) (hL : c.1[l]? = some (letC 2 v (nI q) pl d res y)) (hv : ¬ v < 0) : ∃ c', pu sc 48 [.ref p, .int (nI u), .ref l] (hx c) (pz none (hx c')) ∧ R (krp s (4 * q + u) v pl d res) c' ∧ Ext c c' 0 ∧ c'.2.2.1 = c.2.2.1 := by
  obtain ⟨cs, a, Y, kn⟩ := c
  have hc : 73 < cs.length := h.1
  obtain ⟨p', o, g, b1, b2, b3, b4, b5, b6⟩ := h.rg hq
  have ep : p' = p := by
    have := b1.symm.trans hp
    cases this; rfl
  subst ep
  have hst : ¬ v < s.1 30 (4 * q + u) → R (krp s (4 * q + u) v pl d res) (cs.set (p' + 1) (arrC (fun w => if w = u then some l else g w)), a, Y, kn) ∧ Ext (cs, a, Y, kn) (cs.set (p' + 1) (arrC (fun w => if w = u then some l else g w)), a, Y, kn) 0 := fun hn => by
    refine ⟨h.req (o' := o) (g' := fun w => if w = u then some l else g w) hq b1 b2 b3 b4 (fun f j h1 h2 h3 h4 => krp_ne (by omega)) krp_l (List.length_set ..) (fun i h1 h2 => gs_ne (fun z => h2 z.symm)) ?_ (gs_self b4) (fun w hw => ?_) (b6.cong (KC.rf _) (fun x _ _ => krp_ne (by omega))), ext_set (by omega) b4 nlkA⟩
    · rw [gs_ne (by omega), b3]
      unfold reqC
      rw [krp_ne (by omega), krp_ne (by omega), krp_ne (by omega), krp_ne (by omega), krp_ne (by omega), krp_ne (by omega)]
    · by_cases e : w = u
      · subst e
        have k0 : krp s (4 * q + w) v pl d res = up (up (up (up s 30 (4 * q + w) v) 31 (4 * q + w) pl) 32 (4 * q + w) d) 33 (4 * q + w) res := by unfold krp; rw [if_neg hn]
        refine Or.inr ⟨l, y, if_pos rfl, hl, ?_, ?_⟩
        · rw [k0, up_i, up_n (by omega), up_n (by omega), up_n (by omega), up_i, up_n (by omega), up_n (by omega), up_i, up_n (by omega), up_i]; exact hL
        · rw [k0, up_n (by omega), up_n (by omega), up_n (by omega), up_i]; exact hv
      · show RP cs _ q w (if w = u then some l else g w)
        rw [if_neg e]
        exact (b5 w hw).cong (KC.rf _) (fun x _ _ => krp_ne (by omega))
  rcases b5 u hu with ⟨e1, e2⟩ | ⟨l0, y0, e1, e2, e3, e4⟩
  · obtain ⟨r1, r2⟩ := hst (fun z => hv (by rw [e2] at z; exact Int32.lt_trans z m1_lt))
    exact ⟨_, keep_n hc b2 b3 b4 hu (by omega) hL e1, r1, r2, rfl⟩
  · by_cases hle : s.1 30 (4 * q + u) ≤ v
    · obtain ⟨r1, r2⟩ := hst (fun z => absurd (Int32.lt_of_lt_of_le z hle) Int32.lt_irrefl)
      exact ⟨_, keep_y hc b2 b3 b4 hu (by omega) hL (by omega) e3 e1 hle, r1, r2, rfl⟩
    · have e : krp s (4 * q + u) v pl d res = s := by unfold krp; rw [if_pos (Int32.not_le.mp hle)]
      rw [e]
      exact ⟨_, keep_o hc b2 b3 b4 hu (by omega) hL (by omega) e3 e1 hle, h, Ext.rf _, rfl⟩
theorem isR4 {u : Nat} (hu : u < 4) : b01 (¬ nI u < 0 ∧ ¬ 4 ≤ nI u) = 1 := if_pos ⟨nI_pos (by omega), nI_ge (a := u) (b := 4) hu (by omega)⟩
set_option maxRecDepth 100000 in
set_option maxHeartbeats 400000 in
theorem c_ctake2 {sc : pm_Sc} {s : MS} {c : CX} {t q u l : Nat} {v pl d res : Int32} {y : Option Nat} (h : R s c) (hi : Inv s t) (hq : q < nqN s) (hu : u < 4) (hl : 74 ≤ l) (hL : c.1[l]? = some (letC 2 v (nI q) pl d res y)) (hv : ¬ v < 0) : ∃ c', pu sc 4 [.ref 4, .int (nI u), .ref l] (hx c) (pz none (hx c')) ∧ R (f_trep s u q v pl d res) c' ∧ Ext c c' 0 := by
  obtain ⟨cs, a, Y, kn⟩ := c
  have hc : 73 < cs.length := h.1
  have h30l : 30 < l := by omega
  have h1 : R (cvw s v) (cs, up a 29 0 (if v ≤ s.1 29 0 then s.1 29 0 else v), Y, kn) := h.fld 29 0 _ (by omega)
  have eq1 : nqN (cvw s v) = nqN s := nq_cong (up_n (by omega))
  obtain ⟨p, o, g, b1, b2, b3, b4, b5, b6⟩ := h.rg hq
  obtain ⟨c2, k1, k2, k3, k4⟩ := c_keep (sc := sc) h1 (by omega) b1 hu hl hL hv
  have eq2 : nqN (krp (cvw s v) (4 * q + u) v pl d res) = nqN (cvw s v) := nq_cong (krp_ne (by omega))
  have hY2 : c2.2.2.1 1 q = some p := by rw [k4]; exact b1
  obtain ⟨c3, m1, m2, m3, m4⟩ := c_look (sc := sc) k2 (by omega) hY2
  refine ⟨c3, ?_, m2, (k3.tr m3 : Ext (cs, _, Y, kn) c3 0)⟩
  have hq12 := hi.q.2
  have ha2 : (up a 29 0 (if v ≤ s.1 29 0 then s.1 29 0 else v)).1 2 0 = nI (nqN s) := (h.a 2 0 (by omega)).trans hi.q.1
  have e29 : a.1 29 0 = s.1 29 0 := h.a 29 0 (by omega)
  obtain ⟨p2, o2, g2, z1, z2, z3, z4, z5, z6⟩ := k2.rg (q := q) (by omega)
  have ep : p2 = p := by
    have := z1.symm.trans hY2
    cases this; rfl
  subst ep
  have hc2 : 73 < c2.1.length := k2.1
  show pu sc 4 [.ref 4, .int (nI u), .ref l] (cset cs a Y, kn) (pz none (hx c3))
  refine w_iload_n rfl rfl ?_
  refine w_static rfl (by decide) rfl ⟨(Nat.le_of_ble_eq_true rfl), (Nat.le_of_ble_eq_true rfl), (Nat.le_of_ble_eq_true rfl)⟩ rfl (Nat.le_of_ble_eq_true rfl) (c_isRep (nI u)) ?_
  rintro _ _ ⟨rfl, rfl⟩
  refine ⟨_, rfl, ?_⟩
  rw [isR4 hu]
  refine w_ifCond_ne rfl rfl (fun c4 => ?_) (fun c4 => ?_)
  · refine w_aload_n rfl rfl ?_
    refine w_getfield rfl ((cset_out (Nat.not_le_of_gt h30l)).trans hL) rfl ?_
    refine w_iconst (v := 2) rfl (by decide) ?_
    refine w_if_icmp_ne rfl rfl (fun c13 => ?_) (fun c13 => ?_)
    · exact absurd rfl c13
    · refine w_aload_n rfl rfl ?_
      refine w_aload_n rfl rfl ?_
      refine w_getfield rfl (cs4 hc) rfl ?_
      refine w_aload_n rfl rfl ?_
      refine w_getfield rfl ((cset_out (Nat.not_le_of_gt h30l)).trans hL) rfl ?_
      refine w_max rfl ⟨(Nat.le_of_ble_eq_true rfl), (Nat.le_of_ble_eq_true rfl)⟩ ?_
      refine w_cpC (f := 29) rfl hc (by decide) rfl ?_
      rw [e29, mx_eq]
      refine w_aload_n rfl rfl ?_
      refine w_aload_n rfl rfl ?_
      refine w_getfield rfl ((cset_out (Nat.not_le_of_gt h30l)).trans hL) rfl ?_
      refine w_virtual rfl rfl (cs4 hc) ⟨(Nat.le_of_ble_eq_true rfl), rfl, (Nat.le_of_ble_eq_true rfl), (Nat.le_of_ble_eq_true rfl)⟩ rfl (Nat.le_of_ble_eq_true rfl) (c_find1 hc q ha2 hq12 hq b1) ?_
      rintro _ _ ⟨rfl, rfl⟩
      refine ⟨_, rfl, ?_⟩
      refine w_astore_n rfl (Nat.le_of_ble_eq_true rfl) ?_
      refine w_aload_n rfl rfl ?_
      refine w_ifnull rfl rfl ?_
      refine w_aload_n rfl rfl ?_
      refine w_iload_n rfl rfl ?_
      refine w_aload_n rfl rfl ?_
      refine w_virtual rfl rfl ((cset_out (Nat.not_le_of_gt (Nat.lt_of_lt_of_le (by decide) b2))).trans b3) ⟨(Nat.le_of_ble_eq_true rfl), rfl, (Nat.le_of_ble_eq_true rfl), (Nat.le_of_ble_eq_true rfl)⟩ rfl (Nat.le_of_ble_eq_true rfl) (k1) ?_
      rintro _ _ ⟨rfl, rfl⟩
      refine ⟨_, rfl, ?_⟩
      refine w_aload_n rfl rfl ?_
      refine w_aload_n rfl rfl ?_
      refine w_virtual rfl rfl (cs4 hc2) ⟨(Nat.le_of_ble_eq_true rfl), rfl, (Nat.le_of_ble_eq_true rfl), (Nat.le_of_ble_eq_true rfl)⟩ rfl (Nat.le_of_ble_eq_true rfl) m1 ?_
      rintro _ _ ⟨rfl, rfl⟩
      refine ⟨_, rfl, ?_⟩
      refine w_goto rfl rfl ?_
      exact w_return rfl rfl ⟨rfl, rfl⟩
  · exact absurd c4 (by decide)
set_option maxRecDepth 100000 in
set_option maxHeartbeats 400000 in
theorem l_ack {sc : pm_Sc} {s : MS} {n : Nat} (hn : nqN s = n) (h12 : n ≤ 12) (h2 : s.1 2 0 = nI n) {Y0 : PT} : ∀ (d k : Nat) (c : CX) (lv : pm_L), k + d = n → R (lkN s k) c → c.2.2.1 = Y0 → pm_ld lv 0 = some (.ref 4) → pm_ld lv 3 = some (.int (nI k)) → ∃ c', pw sc 4 (75, lv, [], hx c) (pz none (hx c')) ∧ R (lkN s n) c' ∧ Ext c c' 0 := by
  intro d
  induction d with
  | zero =>
    intro k c lv hk h hY g0 g3
    obtain rfl : n = k := by omega
    have hck : 73 < c.1.length := h.1
    have hak : c.2.1.1 2 0 = nI n := (h.a 2 0 (by omega)).trans ((lkN_k (by omega) _).trans h2)
    refine ⟨c, ?_, h, Ext.rf _⟩
    show pw sc 4 (75, lv, [], (cset c.1 c.2.1 c.2.2.1, c.2.2.2)) _
    refine w_iload_n rfl g3 ?_
    refine w_aload_n rfl g0 ?_
    refine w_getfield rfl (cs4 hck) rfl ?_
    refine w_if_icmp_ge rfl rfl (fun c80 => ?_) (fun c80 => ?_)
    · exact w_return rfl rfl ⟨rfl, rfl⟩
    · exact absurd (by rw [hak]; exact Int32.le_refl _) c80
  | succ d ih =>
    intro k c lv hk h hY g0 g3
    have hck : 73 < c.1.length := h.1
    have hak : c.2.1.1 2 0 = nI n := (h.a 2 0 (by omega)).trans ((lkN_k (by omega) _).trans h2)
    have eq : nqN (lkN s k) = n := (nq_cong (lkN_k (by omega) _)).trans hn
    obtain ⟨p, o, g, hYk, b2, b3, b4, b5, b6⟩ := h.rg (q := k) (by omega)
    obtain ⟨ck2, m1, m2, m3, m4⟩ := c_look (sc := sc) h (by omega) hYk
    obtain ⟨c', r1, r2, r3⟩ := ih (k + 1) ck2 (pm_s1 lv 3 (.int (nI (k + 1)))) (by omega) m2 (m4.trans hY) (ld_s1 (by decide) g0 (fun _ => rfl)) ld_self
    refine ⟨c', ?_, r2, (m3.tr r3 : Ext c c' 0)⟩
    show pw sc 4 (75, lv, [], (cset c.1 c.2.1 c.2.2.1, c.2.2.2)) _
    refine w_iload_n rfl g3 ?_
    refine w_aload_n rfl g0 ?_
    refine w_getfield rfl (cs4 hck) rfl ?_
    refine w_if_icmp_ge rfl rfl (fun c80 => ?_) (fun c80 => ?_)
    · exact absurd c80 (by rw [hak]; exact nI_ge (a := k) (b := n) (by omega) (by omega))
    · refine w_aload_n rfl g0 ?_
      refine w_aload_n rfl g0 ?_
      refine w_getfield rfl (cs4 hck) rfl ?_
      refine w_iload_n rfl g3 ?_
      refine w_hal (j := k) rfl (cs1 hck) ⟨by decide, by decide⟩ rfl ⟨show k < 12 from (by omega), by decide⟩ hYk ?_
      refine w_virtual rfl rfl (cs4 hck) ⟨(Nat.le_of_ble_eq_true rfl), rfl, (Nat.le_of_ble_eq_true rfl), (Nat.le_of_ble_eq_true rfl)⟩ rfl (Nat.le_of_ble_eq_true rfl) (m1) ?_
      rintro _ _ ⟨rfl, rfl⟩
      refine ⟨_, rfl, ?_⟩
      refine w_iincN (j := k) rfl rfl g3 (Nat.le_of_ble_eq_true rfl) ?_
      refine w_goto rfl rfl ?_
      exact r1
set_option maxRecDepth 100000 in
set_option maxHeartbeats 400000 in
theorem c_ctake4 {sc : pm_Sc} {s : MS} {c : CX} {t j u l : Nat} {q e : Int32} {y : Option Nat} (h : R s c) (hi : Inv s t) (hu : u < 4) (hl : 74 ≤ l) (hL : c.1[l]? = some (letC 4 (s.1 21 j) q (s.1 22 j) (s.1 24 j) e y)) : ∃ c', pu sc 4 [.ref 4, .int (nI u), .ref l] (hx c) (pz none (hx c')) ∧ R (f_tack s u j) c' ∧ Ext c c' 0 := by
  obtain ⟨cs, a, Y, kn⟩ := c
  have hc : 73 < cs.length := h.1
  have h30l : 30 < l := by omega
  have h1 : R (ackS s u j) (cs, a, uy Y 5 u (some l), kn) := h.ack hl hL
  have eq1 : nqN (ackS s u j) = nqN s := nq_cong (ack_ne (by omega))
  obtain ⟨c', r1, r2, r3⟩ := l_ack (sc := sc) eq1 hi.q.2 ((ack_ne (by omega)).trans hi.q.1) (nqN s) 0 (cs, a, uy Y 5 u (some l), kn) (pm_s1 (lv_args 0 [.ref 4, .int (nI u), .ref l]) 3 (.int (nI 0))) (by omega) h1 rfl rfl rfl
  refine ⟨c', ?_, r2, (r3 : Ext (cs, a, uy Y 5 u (some l), kn) c' 0)⟩
  show pu sc 4 [.ref 4, .int (nI u), .ref l] (cset cs a Y, kn) (pz none (hx c'))
  refine w_iload_n rfl rfl ?_
  refine w_static rfl (by decide) rfl ⟨(Nat.le_of_ble_eq_true rfl), (Nat.le_of_ble_eq_true rfl), (Nat.le_of_ble_eq_true rfl)⟩ rfl (Nat.le_of_ble_eq_true rfl) (c_isRep (nI u)) ?_
  rintro _ _ ⟨rfl, rfl⟩
  refine ⟨_, rfl, ?_⟩
  rw [isR4 hu]
  refine w_ifCond_ne rfl rfl (fun c4 => ?_) (fun c4 => ?_)
  · refine w_aload_n rfl rfl ?_
    refine w_getfield rfl ((cset_out (Nat.not_le_of_gt h30l)).trans hL) rfl ?_
    refine w_iconst (v := 2) rfl (by decide) ?_
    refine w_if_icmp_ne rfl rfl (fun c13 => ?_) (fun c13 => ?_)
    · refine w_aload_n rfl rfl ?_
      refine w_getfield rfl ((cset_out (Nat.not_le_of_gt h30l)).trans hL) rfl ?_
      refine w_iconst (v := 4) rfl (by decide) ?_
      refine w_if_icmp_ne rfl rfl (fun c63 => ?_) (fun c63 => ?_)
      · exact absurd rfl c63
      · refine w_aload_n rfl rfl ?_
        refine w_getfield rfl (cs4 hc) rfl ?_
        refine w_iload_n rfl rfl ?_
        refine w_aload_n rfl rfl ?_
        refine w_cs5 (j := u) rfl hc ((cset_out (Nat.not_le_of_gt h30l)).trans hL) rfl rfl hu ?_
        refine w_iconst (v := 0) rfl (by decide) ?_
        refine w_istore_n rfl (Nat.le_of_ble_eq_true rfl) ?_
        exact r1
    · exact absurd c13 (by decide)
  · exact absurd c4 (by decide)
