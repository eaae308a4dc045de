-- deps: 57.c7
/-! HATE, CHANGE, the turn -/
theorem mg_sl {cs : List pm_C} {x L : pm_C} {n : Nat} {f : Int32} {g : Nat → Int32} : (mgC (cs ++ [x]) n f g).set cs.length L = mgC (cs ++ [L]) n f g := by
  unfold mgC
  have e1 : (cs ++ [x]).length = cs.length + 1 := by rw [List.length_append]; rfl
  have e2 : (cs ++ [L]).length = cs.length + 1 := by rw [List.length_append]; rfl
  rw [e1, e2, List.set_append_left _ _ (by rw [List.length_append, List.length_append]; show cs.length < cs.length + 1 + 1; omega), List.set_append_left _ _ (by rw [List.length_append]; exact Nat.lt_succ_self _), set_app]
theorem mg_kc {P : pm_C → Prop} {cs : List pm_C} {n : Nat} {f : Int32} {g : Nat → Int32} : KC P cs (mgC cs n f g) := KC.app.tr KC.app
set_option maxRecDepth 100000 in
set_option maxHeartbeats 1000000 in
theorem c_kc1 {sc : pm_Sc} {cs : List pm_C} {a : MS} {Y : PT} {kn : Nat × Nat} (hc : 73 < cs.length) {r u : Nat} (hr : r < 4) (hu : u < 4) {l : Nat} (h30l : 30 < l) {k v q pl d e : Int32} {y : Option Nat} (hl : cs[l]? = some (letC k v q pl d e y)) (hv : rm4 v = nI r) (hle : a.1 6 r ≤ v) : pu sc 34 [.ref (7 + 6 * r), .int (nI u), .ref l] (cset cs a Y, kn) (pz none (cset cs a (uy Y 12 (4 * r + u) (some l)), kn)) := by
  refine w_aload_n rfl rfl ?_
  refine w_getfield rfl ((cset_out (Nat.not_le_of_gt h30l)).trans hl) rfl ?_
  refine w_static rfl (by decide) rfl ⟨(Nat.le_of_ble_eq_true rfl), (Nat.le_of_ble_eq_true rfl), (Nat.le_of_ble_eq_true rfl)⟩ rfl (Nat.le_of_ble_eq_true rfl) (c_prim _) ?_
  rintro _ _ ⟨rfl, rfl⟩
  refine ⟨_, rfl, ?_⟩
  refine w_aload_n rfl rfl ?_
  refine w_getfield rfl (cs7 hc hr) rfl ?_
  refine w_if_icmp_ne rfl rfl (fun c11 => ?_) (fun c11 => ?_)
  · exact absurd hv c11
  · refine w_aload_n rfl rfl ?_
    refine w_getfield rfl ((cset_out (Nat.not_le_of_gt h30l)).trans hl) rfl ?_
    refine w_aload_n rfl rfl ?_
    refine w_getfield rfl (cs7 hc hr) rfl ?_
    refine w_if_icmp_lt rfl rfl (fun c22 => ?_) (fun c22 => ?_)
    · exact absurd (Int32.lt_of_lt_of_le c22 hle) Int32.lt_irrefl
    · refine w_iload_n rfl rfl ?_
      refine w_static rfl (by decide) rfl ⟨(Nat.le_of_ble_eq_true rfl), (Nat.le_of_ble_eq_true rfl), (Nat.le_of_ble_eq_true rfl)⟩ rfl (Nat.le_of_ble_eq_true rfl) (c_isRep (nI u)) ?_
      rintro _ _ ⟨rfl, rfl⟩
      refine ⟨_, rfl, ?_⟩
      rw [isR4 hu]
      refine w_ifCond_eq rfl rfl (fun c29 => ?_) (fun c29 => ?_)
      · exact absurd c29 (by decide)
      · refine w_aload_n rfl rfl ?_
        refine w_getfield rfl (cs7 hc hr) rfl ?_
        refine w_iload_n rfl rfl ?_
        refine w_aload_n rfl rfl ?_
        refine w_cs12 (j := u) rfl hc hr ((cset_out (Nat.not_le_of_gt h30l)).trans hl) rfl rfl hu ?_
        exact w_return rfl rfl ⟨rfl, rfl⟩
set_option maxRecDepth 100000 in
set_option maxHeartbeats 1000000 in
theorem c_kc0 {sc : pm_Sc} {cs : List pm_C} {a : MS} {Y : PT} {kn : Nat × Nat} (hc : 73 < cs.length) {r u : Nat} (hr : r < 4) (hu : u < 4) {l : Nat} (h30l : 30 < l) {k v q pl d e : Int32} {y : Option Nat} (hl : cs[l]? = some (letC k v q pl d e y)) (hv : ¬ (rm4 v = nI r ∧ a.1 6 r ≤ v)) : pu sc 34 [.ref (7 + 6 * r), .int (nI u), .ref l] (cset cs a Y, kn) (pz none (cset cs a Y, kn)) := by
  refine w_aload_n rfl rfl ?_
  refine w_getfield rfl ((cset_out (Nat.not_le_of_gt h30l)).trans hl) rfl ?_
  refine w_static rfl (by decide) rfl ⟨(Nat.le_of_ble_eq_true rfl), (Nat.le_of_ble_eq_true rfl), (Nat.le_of_ble_eq_true rfl)⟩ rfl (Nat.le_of_ble_eq_true rfl) (c_prim _) ?_
  rintro _ _ ⟨rfl, rfl⟩
  refine ⟨_, rfl, ?_⟩
  refine w_aload_n rfl rfl ?_
  refine w_getfield rfl (cs7 hc hr) rfl ?_
  refine w_if_icmp_ne rfl rfl (fun c11 => ?_) (fun c11 => ?_)
  · exact w_return rfl rfl ⟨rfl, rfl⟩
  · refine w_aload_n rfl rfl ?_
    refine w_getfield rfl ((cset_out (Nat.not_le_of_gt h30l)).trans hl) rfl ?_
    refine w_aload_n rfl rfl ?_
    refine w_getfield rfl (cs7 hc hr) rfl ?_
    refine w_if_icmp_lt rfl rfl (fun c22 => ?_) (fun c22 => ?_)
    · exact w_return rfl rfl ⟨rfl, rfl⟩
    · exact absurd ⟨c11, Int32.not_lt.mp c22⟩ hv
theorem c_keepc {sc : pm_Sc} {s : MS} {c : CX} {r u l yh n : Nat} {v q d e f : Int32} {x : Int64} (h : R s c) (hr : r < 4) (hu : u < 4) (hl : 74 ≤ l) (hL : c.1[l]? = some (letC 6 v q (nI n) d e (some yh))) (hH : HisX c.1 yh n f x) : ∃ c', pu sc 34 [.ref (7 + 6 * r), .int (nI u), .ref l] (hx c) (pz none (hx c')) ∧ R (if rm4 v = nI r ∧ s.1 6 r ≤ v then kept s r u v x (nI n) f else s) c' ∧ Ext c c' 0 := by
  obtain ⟨cs, a, Y, kn⟩ := c
  have hc : 73 < cs.length := h.1
  have e6 : a.1 6 r = s.1 6 r := h.a 6 r (by omega)
  by_cases C : rm4 v = nI r ∧ s.1 6 r ≤ v
  · rw [if_pos C]
    exact ⟨_, c_kc1 hc hr hu (by omega) hL C.1 (by rw [e6]; exact C.2), h.keepc hr hu hl hL hH, ext_eq⟩
  · rw [if_neg C]
    exact ⟨_, c_kc0 hc hr hu (by omega) hL (by rw [e6]; exact C), h, Ext.rf _⟩
def h4 (s : MS) (r : Nat) : MS := up (up (up s 6 r (s.1 6 r + 1)) 12 r 0) 10 r 1
def chvS (s : MS) (r : Nat) : MS := if rm4 (s.1 6 r) = nI r then kept s r r (s.1 6 r) (s.2 8 r) (s.1 7 r) (s.1 9 r) else f_row s 6 (nI r) (rm4 (s.1 6 r)) (s.1 6 r) (s.2 8 r) (s.1 7 r) (s.1 9 r)
def cpG (a : MS) (r n : Nat) : Nat → Int32 := fun b => if b < n then a.1 50 (12 * r + b) else 0
def chgL (a : MS) (r k : Nat) : pm_C := letC 6 (a.1 6 r) (-1) (a.1 7 r) 0 0 (some k)
set_option maxRecDepth 100000 in
set_option maxHeartbeats 1000000 in
theorem c_chv {sc : pm_Sc} {s : MS} {c : CX} {t r : Nat} (h : R s c) (hi : Inv (h4 s r) t) (hr : r < 4) : ∃ c', pu sc 33 [.ref (7 + 6 * r)] (hx c) (pz none (hx c')) ∧ R (chvS (h4 s r) r) c' ∧ Ext c c' 4 := by
  obtain ⟨cs, a, Y, kn⟩ := c
  have hc : 73 < cs.length := h.1
  have e6 : a.1 6 r = s.1 6 r := h.a 6 r (by omega)
  generalize ha4 : up (up (up a 6 r (s.1 6 r + 1)) 12 r 0) 10 r 1 = a4
  have r0 : R (h4 s r) (cs, a4, Y, kn) := by
    rw [← ha4]
    exact ((h.fld (kn' := kn) 6 r (s.1 6 r + 1) (by omega)).fld (kn' := kn) 12 r 0 (by omega)).fld 10 r 1 (by omega)
  have l4 : lnN (h4 s r) r = lnN s r := ln_cong ((up_n (by omega)).trans ((up_n (by omega)).trans (up_n (by omega))))
  have hn4 : a4.1 7 r = nI (lnN s r) := by have z := r0.hn hi hr; rw [l4] at z; exact z
  have h12 : lnN s r ≤ 12 := by rw [← l4]; exact (hi.r hr).2.1
  have hm : a4.1 17 0 = nI (mN (h4 s r)) := (r0.am hi).1
  have h6 : mN (h4 s r) ≤ 600 := hi.m.2
  have e64 : a4.1 6 r = (h4 s r).1 6 r := r0.a 6 r (by omega)
  have e94 : a4.1 9 r = (h4 s r).1 9 r := r0.a 9 r (by omega)
  have el : ∀ x : pm_C, (cs ++ [x]).length = cs.length + 1 := fun x => by rw [List.length_append]; rfl
  have hLL : (mgC (cs ++ [chgL a4 r (cs.length + 1)]) (lnN s r) (a4.1 9 r) (cpG a4 r (lnN s r)))[cs.length]? = some (chgL a4 r (cs.length + 1)) := ga_old (ga_old ga_new)
  have r1 : R (h4 s r) (mgC (cs ++ [chgL a4 r (cs.length + 1)]) (lnN s r) (a4.1 9 r) (cpG a4 r (lnN s r)), a4, Y, kn.1 + 3, kn.2 + 22) := r0.keep (mg_hc (hcA hc)) (fun P => KC.app.tr mg_kc)
  have x1 : Ext (cs, a, Y, kn) (mgC (cs ++ [chgL a4 r (cs.length + 1)]) (lnN s r) (a4.1 9 r) (cpG a4 r (lnN s r)), a4, Y, kn.1 + 3, kn.2 + 22) 3 := by
    refine ⟨fun p _ h2 => ?_, ?_, KC.app.tr mg_kc, Nat.le_refl _, by show kn.2 + 22 ≤ kn.2 + 12 * 3; omega⟩
    · show (mgC _ _ _ _)[p]? = cs[p]?
      unfold mgC
      rw [List.getElem?_append_left (by rw [List.length_append, List.length_append]; show p < cs.length + 1 + 1; omega), List.getElem?_append_left (by rw [List.length_append]; show p < cs.length + 1; omega), List.getElem?_append_left (by omega)]
    · show cs.length ≤ (mgC _ _ _ _).length
      rw [mg_len, el]; omega
  have hH : HisX (mgC (cs ++ [chgL a4 r (cs.length + 1)]) (lnN s r) (a4.1 9 r) (cpG a4 r (lnN s r))) (cs.length + 1) (lnN s r) (a4.1 9 r) ((h4 s r).2 8 r) := by
    have z := mg_hisx (cs := cs ++ [chgL a4 r (cs.length + 1)]) (f := a4.1 9 r) (g := cpG a4 r (lnN s r)) (x := (h4 s r).2 8 r) (hcA hc) h12 (fun k hk => by
      unfold cpG
      rw [if_pos hk]
      exact (r0.2.2.1 r hr).1 k (by omega))
    rw [el] at z
    exact z
  have hL : (mgC (cs ++ [chgL a4 r (cs.length + 1)]) (lnN s r) (a4.1 9 r) (cpG a4 r (lnN s r)))[cs.length]? = some (letC 6 ((h4 s r).1 6 r) (-1) (nI (lnN s r)) 0 0 (some (cs.length + 1))) := by
    rw [hLL]; unfold chgL; rw [hn4, e64]
  have e74 : (h4 s r).1 7 r = nI (lnN s r) := (r0.a 7 r (by omega)).symm.trans hn4
  have hc1 : 73 < (mgC (cs ++ [chgL a4 r (cs.length + 1)]) (lnN s r) (a4.1 9 r) (cpG a4 r (lnN s r))).length := mg_hc (hcA hc)
  unfold chvS
  rw [e74, ← e94]
  by_cases pr : rm4 ((h4 s r).1 6 r) = nI r
  · rw [if_pos pr]
    refine ⟨_, ?_, r1.keepc (kn' := (kn.1 + 3, kn.2 + 22)) hr hr (by omega) hL hH, (x1.tr ext_eq).mono (by omega)⟩
    show pu sc 33 [.ref (7 + 6 * r)] (cset cs a Y, kn) _
    refine w_aload_n rfl rfl ?_
    refine w_dup rfl rfl ?_
    refine w_getfield rfl (cs7 hc hr) rfl ?_
    refine w_iconst (v := 1) rfl (by decide) ?_
    refine w_iadd rfl ?_
    refine w_cpR (f := 6) rfl hc hr (by decide) rfl ?_
    rw [e6]
    refine w_aload_n rfl rfl ?_
    refine w_iconst (v := 0) rfl (by decide) ?_
    refine w_cpR (f := 12) rfl hc hr (by decide) rfl ?_
    refine w_aload_n rfl rfl ?_
    refine w_iconst (v := 1) rfl (by decide) ?_
    refine w_cpR (f := 10) rfl hc hr (by decide) rfl ?_
    show pw sc 33 (20, _, _, (cset cs (up (up (up a 6 r (s.1 6 r + 1)) 12 r 0) 10 r 1) Y, kn)) _
    rw [ha4]
    refine w_cnew rfl hc (Nat.le_of_ble_eq_true rfl) ?_
    refine w_dup rfl rfl ?_
    refine w_bipush (v := 6) rfl (by decide) ?_
    refine w_aload_n rfl rfl ?_
    refine w_getfield rfl (cs7 (hcA hc) hr) rfl ?_
    refine w_iconst (v := (-1)) rfl (by decide) ?_
    refine w_aload_n rfl rfl ?_
    refine w_getfield rfl (cs7 (hcA hc) hr) rfl ?_
    refine w_getfield rfl (cs8 (hcA hc) hr) rfl ?_
    refine w_iconst (v := 0) rfl (by decide) ?_
    refine w_iconst (v := 0) rfl (by decide) ?_
    refine w_aload_n rfl rfl ?_
    refine w_getfield rfl (cs7 (hcA hc) hr) rfl ?_
    refine w_virtual rfl rfl (cs8 (hcA hc) hr) ⟨(Nat.le_of_ble_eq_true rfl), rfl, (Nat.le_of_ble_eq_true rfl), (Nat.le_of_ble_eq_true rfl)⟩ rfl (Nat.le_of_ble_eq_true rfl) (c_copy (hcA hc) hr hn4 h12) ?_
    rintro _ _ ⟨rfl, rfl⟩
    refine ⟨_, rfl, ?_⟩
    refine w_special rfl (by decide) rfl ⟨(Nat.le_of_ble_eq_true rfl), (Nat.le_of_ble_eq_true rfl), (Nat.le_of_ble_eq_true rfl)⟩ rfl (Nat.le_of_ble_eq_true rfl) (c_let_initR (mg_hc (hcA hc)) (hc30 hc) (ga_old (ga_old ga_new)) _ _ _ _ _ _ _) ?_
    rintro _ _ ⟨rfl, rfl⟩
    refine ⟨_, rfl, ?_⟩
    rw [mg_sl, el]
    show pw sc 33 (50, _, _, (cset (mgC (cs ++ [chgL a4 r (cs.length + 1)]) (lnN s r) (a4.1 9 r) (cpG a4 r (lnN s r))) a4 Y, kn.1 + 3, kn.2 + 22)) _
    refine w_astore_n rfl (Nat.le_of_ble_eq_true rfl) ?_
    refine w_aload_n rfl rfl ?_
    refine w_getfield rfl (cs7 (mg_hc (hcA hc)) hr) rfl ?_
    refine w_static rfl (by decide) rfl ⟨(Nat.le_of_ble_eq_true rfl), (Nat.le_of_ble_eq_true rfl), (Nat.le_of_ble_eq_true rfl)⟩ rfl (Nat.le_of_ble_eq_true rfl) (c_prim _) ?_
    rintro _ _ ⟨rfl, rfl⟩
    refine ⟨_, rfl, ?_⟩
    refine w_aload_n rfl rfl ?_
    refine w_getfield rfl (cs7 (mg_hc (hcA hc)) hr) rfl ?_
    refine w_if_icmp_ne rfl rfl (fun c62 => ?_) (fun c62 => ?_)
    · exact absurd (by rw [e64]; exact pr) c62
    · refine w_aload_n rfl rfl ?_
      refine w_aload_n rfl rfl ?_
      refine w_getfield rfl (cs7 (mg_hc (hcA hc)) hr) rfl ?_
      refine w_aload_n rfl rfl ?_
      refine w_virtual rfl rfl (cs7 (mg_hc (hcA hc)) hr) ⟨(Nat.le_of_ble_eq_true rfl), rfl, (Nat.le_of_ble_eq_true rfl), (Nat.le_of_ble_eq_true rfl)⟩ rfl (Nat.le_of_ble_eq_true rfl) (c_kc1 hc1 hr hr (hc30 hc) hLL (by rw [e64]; exact pr) (Int32.le_refl _)) ?_
      rintro _ _ ⟨rfl, rfl⟩
      refine ⟨_, rfl, ?_⟩
      refine w_goto rfl rfl ?_
      exact w_return rfl rfl ⟨rfl, rfl⟩
  · rw [if_neg pr]
    refine ⟨_, ?_, R_row (d := 0) (nI r) (rm4 ((h4 s r).1 6 r)) r1 hi (by omega) hL (by decide) hH, (x1.tr (ext_snd hc1 _ _ _)).mono (by omega)⟩
    show pu sc 33 [.ref (7 + 6 * r)] (cset cs a Y, kn) _
    refine w_aload_n rfl rfl ?_
    refine w_dup rfl rfl ?_
    refine w_getfield rfl (cs7 hc hr) rfl ?_
    refine w_iconst (v := 1) rfl (by decide) ?_
    refine w_iadd rfl ?_
    refine w_cpR (f := 6) rfl hc hr (by decide) rfl ?_
    rw [e6]
    refine w_aload_n rfl rfl ?_
    refine w_iconst (v := 0) rfl (by decide) ?_
    refine w_cpR (f := 12) rfl hc hr (by decide) rfl ?_
    refine w_aload_n rfl rfl ?_
    refine w_iconst (v := 1) rfl (by decide) ?_
    refine w_cpR (f := 10) rfl hc hr (by decide) rfl ?_
    show pw sc 33 (20, _, _, (cset cs (up (up (up a 6 r (s.1 6 r + 1)) 12 r 0) 10 r 1) Y, kn)) _
    rw [ha4]
    refine w_cnew rfl hc (Nat.le_of_ble_eq_true rfl) ?_
    refine w_dup rfl rfl ?_
    refine w_bipush (v := 6) rfl (by decide) ?_
    refine w_aload_n rfl rfl ?_
    refine w_getfield rfl (cs7 (hcA hc) hr) rfl ?_
    refine w_iconst (v := (-1)) rfl (by decide) ?_
    refine w_aload_n rfl rfl ?_
    refine w_getfield rfl (cs7 (hcA hc) hr) rfl ?_
    refine w_getfield rfl (cs8 (hcA hc) hr) rfl ?_
    refine w_iconst (v := 0) rfl (by decide) ?_
    refine w_iconst (v := 0) rfl (by decide) ?_
    refine w_aload_n rfl rfl ?_
    refine w_getfield rfl (cs7 (hcA hc) hr) rfl ?_
    refine w_virtual rfl rfl (cs8 (hcA hc) hr) ⟨(Nat.le_of_ble_eq_true rfl), rfl, (Nat.le_of_ble_eq_true rfl), (Nat.le_of_ble_eq_true rfl)⟩ rfl (Nat.le_of_ble_eq_true rfl) (c_copy (hcA hc) hr hn4 h12) ?_
    rintro _ _ ⟨rfl, rfl⟩
    refine ⟨_, rfl, ?_⟩
    refine w_special rfl (by decide) rfl ⟨(Nat.le_of_ble_eq_true rfl), (Nat.le_of_ble_eq_true rfl), (Nat.le_of_ble_eq_true rfl)⟩ rfl (Nat.le_of_ble_eq_true rfl) (c_let_initR (mg_hc (hcA hc)) (hc30 hc) (ga_old (ga_old ga_new)) _ _ _ _ _ _ _) ?_
    rintro _ _ ⟨rfl, rfl⟩
    refine ⟨_, rfl, ?_⟩
    rw [mg_sl, el]
    show pw sc 33 (50, _, _, (cset (mgC (cs ++ [chgL a4 r (cs.length + 1)]) (lnN s r) (a4.1 9 r) (cpG a4 r (lnN s r))) a4 Y, kn.1 + 3, kn.2 + 22)) _
    refine w_astore_n rfl (Nat.le_of_ble_eq_true rfl) ?_
    refine w_aload_n rfl rfl ?_
    refine w_getfield rfl (cs7 (mg_hc (hcA hc)) hr) rfl ?_
    refine w_static rfl (by decide) rfl ⟨(Nat.le_of_ble_eq_true rfl), (Nat.le_of_ble_eq_true rfl), (Nat.le_of_ble_eq_true rfl)⟩ rfl (Nat.le_of_ble_eq_true rfl) (c_prim _) ?_
    rintro _ _ ⟨rfl, rfl⟩
    refine ⟨_, rfl, ?_⟩
    refine w_aload_n rfl rfl ?_
    refine w_getfield rfl (cs7 (mg_hc (hcA hc)) hr) rfl ?_
    refine w_if_icmp_ne rfl rfl (fun c62 => ?_) (fun c62 => ?_)
    · refine w_aload_n rfl rfl ?_
      refine w_getfield rfl (cs7 (mg_hc (hcA hc)) hr) rfl ?_
      refine w_aload_n rfl rfl ?_
      refine w_getfield rfl (cs7 (mg_hc (hcA hc)) hr) rfl ?_
      refine w_aload_n rfl rfl ?_
      refine w_getfield rfl (cs7 (mg_hc (hcA hc)) hr) rfl ?_
      refine w_static rfl (by decide) rfl ⟨(Nat.le_of_ble_eq_true rfl), (Nat.le_of_ble_eq_true rfl), (Nat.le_of_ble_eq_true rfl)⟩ rfl (Nat.le_of_ble_eq_true rfl) (c_prim _) ?_
      rintro _ _ ⟨rfl, rfl⟩
      refine ⟨_, rfl, ?_⟩
      refine w_aload_n rfl rfl ?_
      rw [e64]
      refine w_virtual rfl rfl (cs2 (mg_hc (hcA hc))) ⟨(Nat.le_of_ble_eq_true rfl), rfl, (Nat.le_of_ble_eq_true rfl), (Nat.le_of_ble_eq_true rfl)⟩ rfl (Nat.le_of_ble_eq_true rfl) (c_send (mgC (cs ++ [chgL a4 r (cs.length + 1)]) (lnN s r) (a4.1 9 r) (cpG a4 r (lnN s r)), a4, Y, kn.1 + 3, kn.2 + 22) hc1 (nI r) (rm4 ((h4 s r).1 6 r)) cs.length hm h6) ?_
      rintro _ _ ⟨rfl, rfl⟩
      refine ⟨_, rfl, ?_⟩
      exact w_return rfl rfl ⟨rfl, rfl⟩
    · exact absurd (by rw [← e64]; exact c62) pr
def f_hP (s : MS) (r : Nat) (fr : Int32) : MS := if 2 ≤ bitN ((hat1 s r fr).1 12 r) 4 then chvS (hat4 s r fr) r else hat1 s r fr
set_option maxRecDepth 100000 in
set_option maxHeartbeats 1000000 in
theorem c_tHate {sc : pm_Sc} {s : MS} {c : CX} {t r u : Nat} {v : Int32} (h : R s c) (hi : Inv s t) (hr : r < 4) (hu : u < 4) : ∃ c', pu sc 32 [.ref (7 + 6 * r), .int (nI u), .int v] (hx c) (pz none (hx c')) ∧ R (if v = s.1 6 r then f_hP s r (nI u) else s) c' ∧ Ext c c' 4 := by
  obtain ⟨cs, a, Y, kn⟩ := c
  have hc : 73 < cs.length := h.1
  have e6 : a.1 6 r = s.1 6 r := h.a 6 r (by omega)
  have e12 : a.1 12 r = s.1 12 r := h.a 12 r (by omega)
  obtain ⟨-, -, -, -, -, -, b, hb, eb⟩ := hi.r hr
  obtain ⟨cb, c1, c2⟩ := bit_or b hb u hu
  rw [← eb] at c2
  by_cases V : v = s.1 6 r
  · rw [if_pos V]
    have hh : hat1 s r (nI u) = up s 12 r (nI cb) := by unfold hat1; rw [c2]
    have r1 : R (hat1 s r (nI u)) (cs, up a 12 r (nI cb), Y, kn) := by rw [hh]; exact h.fld 12 r _ (by omega)
    have e1 : (hat1 s r (nI u)).1 12 r = nI cb := by rw [hh, up_i]
    have eh4 : h4 (hat1 s r (nI u)) r = hat4 s r (nI u) := rfl
    unfold f_hP
    rw [e1]
    by_cases B : 2 ≤ bitN (nI cb) 4
    · rw [if_pos B]
      obtain ⟨c', q1, q2, q3⟩ := c_chv (sc := sc) r1 (by rw [eh4]; exact inv_hat4 hi (nI u)) hr
      rw [eh4] at q2
      refine ⟨c', ?_, q2, ((ext_eq (a := a)).tr q3).mono (by omega)⟩
      show pu sc 32 [.ref (7 + 6 * r), .int (nI u), .int v] (cset cs a Y, kn) _
      refine w_iload_n rfl rfl ?_
      refine w_aload_n rfl rfl ?_
      refine w_getfield rfl (cs7 hc hr) rfl ?_
      refine w_if_icmp_eq rfl rfl (fun c5 => ?_) (fun c5 => ?_)
      · refine w_aload_n rfl rfl ?_
        refine w_dup rfl rfl ?_
        refine w_getfield rfl (cs7 hc hr) rfl ?_
        refine w_iconst (v := 1) rfl (by decide) ?_
        refine w_iload_n rfl rfl ?_
        refine w_ishl rfl ?_
        refine w_ior rfl ?_
        refine w_cpR (f := 12) rfl hc hr (by decide) rfl ?_
        rw [e12, c2]
        refine w_aload_n rfl rfl ?_
        refine w_getfield rfl (cs7 hc hr) rfl ?_
        show pw sc 32 (25, _, [.int ((up a 12 r (nI cb)).1 12 r)], (cset cs (up a 12 r (nI cb)) Y, kn)) _
        rw [up_i]
        refine w_static rfl (by decide) rfl ⟨(Nat.le_of_ble_eq_true rfl), (Nat.le_of_ble_eq_true rfl), (Nat.le_of_ble_eq_true rfl)⟩ rfl (Nat.le_of_ble_eq_true rfl) (c_bc cb c1) ?_
        rintro _ _ ⟨rfl, rfl⟩
        refine ⟨_, rfl, ?_⟩
        refine w_iconst (v := 2) rfl (by decide) ?_
        refine w_if_icmp_lt rfl rfl (fun c29 => ?_) (fun c29 => ?_)
        · exact absurd (Int32.lt_of_lt_of_le c29 B) Int32.lt_irrefl
        · refine w_aload_n rfl rfl ?_
          refine w_virtual rfl rfl (cs7 hc hr) ⟨(Nat.le_of_ble_eq_true rfl), rfl, (Nat.le_of_ble_eq_true rfl), (Nat.le_of_ble_eq_true rfl)⟩ rfl (Nat.le_of_ble_eq_true rfl) (q1) ?_
          rintro _ _ ⟨rfl, rfl⟩
          refine ⟨_, rfl, ?_⟩
          exact w_return rfl rfl ⟨rfl, rfl⟩
      · exact absurd (by rw [e6]; exact V) c5
    · rw [if_neg B]
      refine ⟨_, ?_, r1, ext_eq.mono (by omega)⟩
      show pu sc 32 [.ref (7 + 6 * r), .int (nI u), .int v] (cset cs a Y, kn) _
      refine w_iload_n rfl rfl ?_
      refine w_aload_n rfl rfl ?_
      refine w_getfield rfl (cs7 hc hr) rfl ?_
      refine w_if_icmp_eq rfl rfl (fun c5 => ?_) (fun c5 => ?_)
      · refine w_aload_n rfl rfl ?_
        refine w_dup rfl rfl ?_
        refine w_getfield rfl (cs7 hc hr) rfl ?_
        refine w_iconst (v := 1) rfl (by decide) ?_
        refine w_iload_n rfl rfl ?_
        refine w_ishl rfl ?_
        refine w_ior rfl ?_
        refine w_cpR (f := 12) rfl hc hr (by decide) rfl ?_
        rw [e12, c2]
        refine w_aload_n rfl rfl ?_
        refine w_getfield rfl (cs7 hc hr) rfl ?_
        show pw sc 32 (25, _, [.int ((up a 12 r (nI cb)).1 12 r)], (cset cs (up a 12 r (nI cb)) Y, kn)) _
        rw [up_i]
        refine w_static rfl (by decide) rfl ⟨(Nat.le_of_ble_eq_true rfl), (Nat.le_of_ble_eq_true rfl), (Nat.le_of_ble_eq_true rfl)⟩ rfl (Nat.le_of_ble_eq_true rfl) (c_bc cb c1) ?_
        rintro _ _ ⟨rfl, rfl⟩
        refine ⟨_, rfl, ?_⟩
        refine w_iconst (v := 2) rfl (by decide) ?_
        refine w_if_icmp_lt rfl rfl (fun c29 => ?_) (fun c29 => ?_)
        · exact w_return rfl rfl ⟨rfl, rfl⟩
        · exact absurd (Int32.not_lt.mp c29) B
      · exact absurd (by rw [e6]; exact V) c5
  · rw [if_neg V]
    refine ⟨(cs, a, Y, kn), ?_, h, (Ext.rf _).mono (by omega)⟩
    show pu sc 32 [.ref (7 + 6 * r), .int (nI u), .int v] (cset cs a Y, kn) _
    refine w_iload_n rfl rfl ?_
    refine w_aload_n rfl rfl ?_
    refine w_getfield rfl (cs7 hc hr) rfl ?_
    refine w_if_icmp_eq rfl rfl (fun c5 => ?_) (fun c5 => ?_)
    · exact absurd (by rw [← e6]; exact c5) V
    · exact w_return rfl rfl ⟨rfl, rfl⟩
theorem R.req4k {s : MS} {cs : List pm_C} {a : MS} {Y : PT} {kn : Nat × Nat} {q : Nat} (h : R s (cs, a, Y, kn)) (hk : KeyOK s) (hq12 : nqN s ≤ 12) (hq : q < nqN s) : ∃ p y xs, Y 1 q = some p ∧ 30 < p ∧ cs[p]? = some (.inr (6, .int (s.1 3 q) :: .int (nI y) :: .int (s.1 5 q) :: xs)) ∧ y < 4 ∧ s.1 4 q = nI y ∧ q < 12 := by
  obtain ⟨p, o, g, b1, b2, b3, b4, b5, b6⟩ := h.rg hq
  obtain ⟨y, hy, ey⟩ := hk q (by omega)
  refine ⟨p, y, [.ref (p + 1), pv o, .int (s.1 42 q), .int (s.1 43 q), .int (s.1 44 q)], b1, by omega, ?_, hy, ey, by omega⟩
  have b3' : cs[p]? = some (reqC s q p o) := b3
  rw [b3']
  unfold reqC
  rw [ey]
theorem tk_ne {s : MS} {r k j n : Nat} {v f : Int32} {x : Int64} (hk : ¬ (6 ≤ k ∧ k ≤ 12)) : (tnS s r v x f n).1 k j = s.1 k j := by
  unfold tnS
  rw [wanN_k (by omega), trn_ne (by omega)]
theorem tk_7 {s : MS} {r n : Nat} {v f : Int32} {x : Int64} : (tnS s r v x f n).1 7 r = nI n := by
  unfold tnS
  rw [wanN_k (by omega)]; exact (trn_get s r v x (nI n) f).2.2.1
def zA (a : MS) (r : Nat) : Nat → MS
  | 0 => a
  | k + 1 => up (zA a r k) 51 (4 * r + k) 0
theorem zA_ne {a : MS} {r f j : Nat} : ∀ k, ¬ (f = 51 ∧ 4 * r ≤ j ∧ j < 4 * r + k) → (zA a r k).1 f j = a.1 f j
  | 0, _ => rfl
  | k + 1, h => by rw [zA, up_n (by omega)]; exact zA_ne k (by omega)
theorem zA_get {a : MS} {r j : Nat} : ∀ k, j < k → (zA a r k).1 51 (4 * r + j) = 0
  | 0, h => by omega
  | k + 1, h => by
    rw [zA]
    by_cases e : j = k
    · subst e; exact up_i
    · rw [up_n (by omega)]; exact zA_get k (by omega)
set_option maxRecDepth 100000 in
set_option maxHeartbeats 1000000 in
theorem l_zero {sc : pm_Sc} {cs : List pm_C} {a : MS} {Y : PT} {kn : Nat × Nat} (hc : 73 < cs.length) {r y : Nat} (hr : r < 4) {Q : (Option Value ⊕ Nat) → pm_H → Prop} (G : ∀ lv, pm_ld lv 0 = some (.ref (7 + 6 * r)) → pm_ld lv 2 = some (.ref y) → pw sc 42 (54, lv, [], (cset cs (zA a r 4) Y, kn)) Q) : ∀ (d k : Nat) (lv : pm_L), k + d = 4 → pm_ld lv 0 = some (.ref (7 + 6 * r)) → pm_ld lv 2 = some (.ref y) → pm_ld lv 3 = some (.int (nI k)) → pw sc 42 (36, lv, [], (cset cs (zA a r k) Y, kn)) Q := by
  intro d
  induction d with
  | zero =>
    intro k lv hk g0 g2 g3
    obtain rfl : 4 = k := by omega
    refine w_iload_n rfl g3 ?_
    refine w_iconst (v := 4) rfl (by decide) ?_
    refine w_if_icmp_ge rfl rfl (fun c38 => ?_) (fun c38 => ?_)
    · exact G _ g0 g2
    · exact absurd (by decide) c38
  | succ d ih =>
    intro k lv hk g0 g2 g3
    refine w_iload_n rfl g3 ?_
    refine w_iconst (v := 4) rfl (by decide) ?_
    refine w_if_icmp_ge rfl rfl (fun c38 => ?_) (fun c38 => ?_)
    · exact absurd c38 (nI_ge (a := k) (b := 4) (by omega) (by omega))
    · refine w_aload_n rfl g0 ?_
      refine w_getfield rfl (cs7 hc hr) rfl ?_
      refine w_iload_n rfl g3 ?_
      refine w_iconst (v := 0) rfl (by decide) ?_
      refine w_cs10 (j := k) rfl hc hr rfl (by omega) ?_
      refine w_iincN (j := k) rfl rfl g3 (Nat.le_of_ble_eq_true rfl) ?_
      refine w_goto rfl rfl ?_
      exact ih (k + 1) _ (by omega) (ld_s1 (by decide) g0 (fun _ => rfl)) (ld_s1 (by decide) g2 (fun _ => rfl)) ld_self
set_option maxRecDepth 100000 in
set_option maxHeartbeats 1000000 in
theorem l_reps {sc : pm_Sc} {S : MS} {t r n : Nat} (hi : Inv S t) (hr : r < 4) (hn : lnN S r = n) : ∀ (d k : Nat) (c : CX), k + d = n → R (repN S r k) c → ∃ c', R (repN S r n) c' ∧ Ext c c' (2 * d) ∧ ∀ lv, pm_ld lv 0 = some (.ref (7 + 6 * r)) → pm_ld lv 3 = some (.int (nI (k + 1))) → pw sc 42 (81, lv, [], hx c) (pz none (hx c')) := by
  have h12 : n ≤ 12 := by rw [← hn]; exact (hi.r hr).2.1
  intro d
  induction d with
  | zero =>
    intro k c hk h
    obtain rfl : n = k := by omega
    have ik := inv_repN hi hr n (by omega)
    have lk : lnN (repN S r n) r = n := (ln_cong ((fr_rep n).1 7 r (by omega) (by omega))).trans hn
    have hc1 : 73 < c.1.length := h.1
    have hn1 : c.2.1.1 7 r = nI n := by have z := h.hn ik hr; rw [lk] at z; exact z
    refine ⟨c, h, Ext.rf _, fun lv g0 g3 => ?_⟩
    show pw sc 42 (81, lv, [], (cset c.1 c.2.1 c.2.2.1, c.2.2.2)) _
    refine w_iload_n rfl g3 ?_
    refine w_aload_n rfl g0 ?_
    refine w_getfield rfl (cs7 hc1 hr) rfl ?_
    refine w_getfield rfl (cs8 hc1 hr) rfl ?_
    refine w_if_icmp_gt rfl rfl (fun c89 => ?_) (fun c89 => ?_)
    · exact w_return rfl rfl ⟨rfl, rfl⟩
    · exact absurd (by rw [hn1]; exact nI_lt (Nat.lt_succ_self n) (by omega)) c89
  | succ d ih =>
    intro k c hk h
    have ik := inv_repN hi hr k (by omega)
    have lk : lnN (repN S r k) r = n := (ln_cong ((fr_rep k).1 7 r (by omega) (by omega))).trans hn
    have hc1 : 73 < c.1.length := h.1
    have hn1 : c.2.1.1 7 r = nI n := by have z := h.hn ik hr; rw [lk] at z; exact z
    obtain ⟨hm1, h61⟩ := h.am ik
    obtain ⟨r2, x2⟩ := R_rpl h ik hr (p := k + 1) (by omega) (by omega)
    obtain ⟨c', q1, q2, H⟩ := ih (k + 1) (rplC c r (k + 1)) (by omega) r2
    refine ⟨c', q1, (x2.tr q2).mono (by omega), fun lv g0 g3 => ?_⟩
    show pw sc 42 (81, lv, [], (cset c.1 c.2.1 c.2.2.1, c.2.2.2)) _
    refine w_iload_n rfl g3 ?_
    refine w_aload_n rfl g0 ?_
    refine w_getfield rfl (cs7 hc1 hr) rfl ?_
    refine w_getfield rfl (cs8 hc1 hr) rfl ?_
    refine w_if_icmp_gt rfl rfl (fun c89 => ?_) (fun c89 => ?_)
    · exact absurd ((nI_ltI (a := n) (b := k + 1) (by omega) (by omega)).mp (by rw [hn1] at c89; exact c89)) (by omega)
    · refine w_aload_n rfl g0 ?_
      refine w_iload_n rfl g3 ?_
      refine w_virtual rfl rfl (cs7 hc1 hr) ⟨(Nat.le_of_ble_eq_true rfl), rfl, (Nat.le_of_ble_eq_true rfl), (Nat.le_of_ble_eq_true rfl)⟩ rfl (Nat.le_of_ble_eq_true rfl) (c_reply hc1 hr hn1 (p := k + 1) (by omega) (by omega) h12 hm1 h61) ?_
      rintro _ _ ⟨rfl, rfl⟩
      refine ⟨_, rfl, ?_⟩
      refine w_iincN (j := (k + 1)) rfl rfl g3 (Nat.le_of_ble_eq_true rfl) ?_
      refine w_goto rfl rfl ?_
      exact H _ (ld_s1 (by decide) g0 (fun _ => rfl)) ld_self
set_option maxRecDepth 100000 in
set_option maxHeartbeats 1000000 in
theorem l_nexts {sc : pm_Sc} {s : MS} {cs : List pm_C} {Y : PT} {kn : Nat × Nat} {t r n yh qr f0 : Nat} {v : Int32} {x : Int64} {g : Nat → Int32} (hi : Inv s t) (hr : r < 4) (hv : Vw t v) (hf : f0 ≤ n) (hrow : Row (nqN s) x n) (hy0 : 74 ≤ yh ∧ 74 ≤ qr) (hy1 : cs[yh]? = some (.inr (1, [.ref qr, .int (nI n), .int (nI f0)]))) (hy2 : cs[qr]? = some (.inl (0, (List.range 12).map fun b => Value.int (g b)))) (hy3 : ∀ k, k < n → g k = m_at x (nI k)) : ∀ (d i : Nat) (a : MS), i + d = n → R (tnS s r v x (nI f0) i) (cs, a, Y, kn) → ∃ c', R (f_turn s r v x n (nI f0)) c' ∧ Ext (cs, a, Y, kn) c' (2 * n) ∧ ∀ lv, pm_ld lv 0 = some (.ref (7 + 6 * r)) → pm_ld lv 2 = some (.ref yh) → pm_ld lv 3 = some (.int (nI i)) → pw sc 42 (56, lv, [], (cset cs a Y, kn)) (pz none (hx c')) := by
  have hn12 : n ≤ 12 := hrow.1
  have hl : ∀ w, w < 4 → lnN s w ≤ 12 := fun w hw => (hi.r hw).2.1
  obtain ⟨fq, hfq, -, -⟩ := hrow.at
  intro d
  induction d with
  | zero =>
    intro i a hk h
    obtain rfl : n = i := by omega
    have hc : 73 < cs.length := h.1
    have iS : Inv (tnS s r v x (nI f0) n) t := inv_wanN (inv_trn hi hv hf hrow) n
    have lS : lnN (tnS s r v x (nI f0) n) r = n := by rw [lnN, tk_7, nI_clamp (by omega)]
    obtain ⟨c', q1, q2, H⟩ := l_reps (sc := sc) iS hr lS n 0 (cs, a, Y, kn) (by omega) h
    refine ⟨c', q1, q2, fun lv g0 g2 g3 => ?_⟩
    refine w_iload_n rfl g3 ?_
    refine w_aload_n rfl g2 ?_
    refine w_getfield rfl ((cset_out (by omega)).trans hy1) rfl ?_
    refine w_if_icmp_ge rfl rfl (fun c61 => ?_) (fun c61 => ?_)
    · refine w_iconst (v := 1) rfl (by decide) ?_
      refine w_istore_n rfl (Nat.le_of_ble_eq_true rfl) ?_
      exact H _ (ld_s1 (by decide) g0 (fun _ => rfl)) ld_self
    · exact absurd (Int32.le_refl _) c61
  | succ d ih =>
    intro i a hk h
    have hc : 73 < cs.length := h.1
    have hni : a.1 7 r = nI i := (h.a 7 r (by omega)).trans tk_7
    obtain ⟨f1, f2⟩ := hfq i (by omega)
    have eq : nqN (tnS s r v x (nI f0) i) = nqN s := nq_cong (tk_ne (by omega))
    obtain ⟨p, y, xs, b1, b2, b3, b4, b5, b6⟩ := h.req4k (q := fq i) (fun q hq => by rw [tk_ne (by omega)]; exact hi.1.2.2.1 q hq) (by rw [eq]; exact hi.q.2) (by rw [eq]; exact f2)
    rw [tk_ne (by omega), tk_ne (by omega)] at b3
    rw [tk_ne (by omega)] at b5
    have r1 := h.turn1 hr hl (by omega) f1 b6 b5 b4
    obtain ⟨c', q1, q2, H⟩ := ih (i + 1) (nxtA a r i (fq i) y (s.1 3 (fq i)) (s.1 5 (fq i))) (by omega) r1
    refine ⟨c', q1, (ext_eq.tr q2).mono (by omega), fun lv g0 g2 g3 => ?_⟩
    refine w_iload_n rfl g3 ?_
    refine w_aload_n rfl g2 ?_
    refine w_getfield rfl ((cset_out (by omega)).trans hy1) rfl ?_
    refine w_if_icmp_ge rfl rfl (fun c61 => ?_) (fun c61 => ?_)
    · exact absurd c61 (nI_ge (a := i) (b := n) (by omega) (by omega))
    · refine w_aload_n rfl g0 ?_
      refine w_aload_n rfl g2 ?_
      refine w_iload_n rfl g3 ?_
      refine w_virtual rfl rfl ((cset_out (by omega)).trans hy1) ⟨(Nat.le_of_ble_eq_true rfl), rfl, (Nat.le_of_ble_eq_true rfl), (Nat.le_of_ble_eq_true rfl)⟩ rfl (Nat.le_of_ble_eq_true rfl) (c_h_at (h := (cset cs a Y, kn)) ⟨(cset_out (by omega)).trans hy1, (cset_out (by omega)).trans hy2, hn12⟩ i (by omega)) ?_
      rintro _ _ ⟨rfl, rfl⟩
      refine ⟨_, rfl, ?_⟩
      rw [if_pos (by omega), hy3 i (by omega), f1]
      refine w_virtual rfl rfl (cs7 hc hr) ⟨(Nat.le_of_ble_eq_true rfl), rfl, (Nat.le_of_ble_eq_true rfl), (Nat.le_of_ble_eq_true rfl)⟩ rfl (Nat.le_of_ble_eq_true rfl) (c_doNext hc hr hni (by omega) b6 b1 b2 b3 b4) ?_
      rintro _ _ ⟨rfl, rfl⟩
      refine ⟨_, rfl, ?_⟩
      refine w_iincN (j := i) rfl rfl g3 (Nat.le_of_ble_eq_true rfl) ?_
      refine w_goto rfl rfl ?_
      exact H _ (ld_s1 (by decide) g0 (fun _ => rfl)) (ld_s1 (by decide) g2 (fun _ => rfl)) ld_self
set_option maxRecDepth 100000 in
set_option maxHeartbeats 1000000 in
theorem c_turn {sc : pm_Sc} {s : MS} {c : CX} {t r n yh f0 : Nat} {v : Int32} {x : Int64} (h : R s c) (hi : Inv s t) (hr : r < 4) (hv : Vw t v) (hf : f0 ≤ n) (hrow : Row (nqN s) x n) (hH : HisX c.1 yh n (nI f0) x) : ∃ c', pu sc 42 [.ref (7 + 6 * r), .int v, .ref yh] (hx c) (pz none (hx c')) ∧ R (f_turn s r v x n (nI f0)) c' ∧ Ext c c' 24 := by
  obtain ⟨cs, a, Y, kn⟩ := c
  have hc : 73 < cs.length := h.1
  obtain ⟨hy, qr, g, hq, ⟨hy1, hy2, hn12⟩, hy3⟩ := hH
  have hl : ∀ w, w < 4 → lnN s w ≤ 12 := fun w hw => (hi.r hw).2.1
  generalize ha1 : up (up (up (up (up a 6 r v) 10 r 0) 12 r 0) 7 r 0) 9 r (nI f0) = a1
  have r0 : R (tnS s r v x (nI f0) 0) (cs, zA a1 r 4, Y, kn) := by
    refine h.turn0 hl (fun k j hk hne => ?_) ?_ ?_ ?_ ?_ ?_ (fun k hk => zA_get 4 hk) (fun k j k1 k2 hne => ?_)
    · rw [zA_ne 4 (by omega), ← ha1, up_n (by omega), up_n (by omega), up_n (by omega), up_n (by omega), up_n (by omega)]
    · rw [zA_ne 4 (by omega), ← ha1, up_n (by omega), up_n (by omega), up_n (by omega), up_n (by omega), up_i]
    · rw [zA_ne 4 (by omega), ← ha1, up_n (by omega), up_i]
    · rw [zA_ne 4 (by omega), ← ha1, up_i]
    · rw [zA_ne 4 (by omega), ← ha1, up_n (by omega), up_n (by omega), up_n (by omega), up_i]
    · rw [zA_ne 4 (by omega), ← ha1, up_n (by omega), up_n (by omega), up_i]
    · rw [zA_ne 4 hne, ← ha1, up_n (by omega), up_n (by omega), up_n (by omega), up_n (by omega), up_n (by omega)]
  obtain ⟨c', q1, q2, H⟩ := l_nexts (sc := sc) hi hr hv hf hrow ⟨hy, hq⟩ hy1 hy2 hy3 n 0 (zA a1 r 4) (by omega) r0
  refine ⟨c', ?_, q1, (ext_eq.tr q2).mono (by have := hrow.1; omega)⟩
  show pu sc 42 [.ref (7 + 6 * r), .int v, .ref yh] (cset cs a Y, kn) _
  refine w_aload_n rfl rfl ?_
  refine w_iload_n rfl rfl ?_
  refine w_cpR (f := 6) rfl hc hr (by decide) rfl ?_
  refine w_aload_n rfl rfl ?_
  refine w_iconst (v := 0) rfl (by decide) ?_
  refine w_cpR (f := 10) rfl hc hr (by decide) rfl ?_
  refine w_aload_n rfl rfl ?_
  refine w_iconst (v := 0) rfl (by decide) ?_
  refine w_cpR (f := 12) rfl hc hr (by decide) rfl ?_
  refine w_aload_n rfl rfl ?_
  refine w_getfield rfl (cs7 hc hr) rfl ?_
  refine w_iconst (v := 0) rfl (by decide) ?_
  refine w_cpH (f := 7) rfl hc hr (by decide) rfl ?_
  refine w_aload_n rfl rfl ?_
  refine w_getfield rfl (cs7 hc hr) rfl ?_
  refine w_aload_n rfl rfl ?_
  refine w_getfield rfl ((cset_out (by omega)).trans hy1) rfl ?_
  refine w_cpH (f := 9) rfl hc hr (by decide) rfl ?_
  show pw sc 42 (34, _, _, (cset cs (up (up (up (up (up a 6 r v) 10 r 0) 12 r 0) 7 r 0) 9 r (nI f0)) Y, kn)) _
  rw [ha1]
  refine w_iconst (v := 0) rfl (by decide) ?_
  refine w_istore_n rfl (Nat.le_of_ble_eq_true rfl) ?_
  exact l_zero hc hr (fun lv g0 g2 => by
    refine w_iconst (v := 0) rfl (by decide) ?_
    refine w_istore_n rfl (Nat.le_of_ble_eq_true rfl) ?_
    exact H _ (ld_s1 (by decide) g0 (fun _ => rfl)) (ld_s1 (by decide) g2 (fun _ => rfl)) ld_self) 4 0 _ (by omega) rfl rfl rfl
