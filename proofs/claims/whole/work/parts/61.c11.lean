-- deps: 60.c10
/-! Replica.take -/
def f_end (s : MS) (r : Nat) : MS := if ¬ s.1 10 r = 0 ∧ rm4 (s.1 6 r) = nI r ∧ ¬ cntN s r (s.1 6 r) 4 < 3 then f_new s r else s
theorem end_np {s : MS} {r : Nat} (h : NP s r) : f_end s r = s := if_neg h
theorem change_end {s : MS} {t r u n f : Nat} {v : Int32} {x : Int64} (h : Inv s t) (ht : t < 2 ^ 31) (hr : r < 4) (hu : u < 4) (hv : Vw t v) (hf : f ≤ n) (hx : Row (nqN s) x n) (hp : NP s r) : f_end (if rm4 v = nI r ∧ s.1 6 r ≤ v then kept s r u v x (nI n) (nI f) else s) r = f_change s r u v x (nI n) (nI f) := by
  have hN := (inv_change h ht hr hu hv hf hx (Or.inr hp)).2.1
  unfold f_change at hN ⊢
  by_cases C : rm4 v = nI r ∧ s.1 6 r ≤ v
  · rw [if_pos C] at hN ⊢
    rw [if_pos C]
    by_cases c2 : ¬ (kept s r u v x (nI n) (nI f)).1 10 r = 0 ∧ (kept s r u v x (nI n) (nI f)).1 6 r = v ∧ ¬ cntN (kept s r u v x (nI n) (nI f)) r v 4 < 3
    · rw [if_pos c2]
      unfold f_end
      rw [if_pos ⟨c2.1, by rw [c2.2.1]; exact C.1, by rw [c2.2.1]; exact c2.2.2⟩]
    · rw [if_neg c2] at hN ⊢
      exact end_np hN
  · rw [if_neg C, if_neg C]
    exact end_np hp
theorem hate_end {s : MS} {r u : Nat} (hp : NP s r) : f_end (f_hP s r (nI u)) r = f_hate s r (nI u) := by
  unfold f_hP f_hate
  by_cases c : 2 ≤ bitN ((hat1 s r (nI u)).1 12 r) 4
  · rw [if_pos c, if_pos c]
    unfold chvS
    by_cases pr : rm4 ((hat4 s r (nI u)).1 6 r) = nI r
    · rw [if_pos pr, if_pos pr]
      unfold f_change
      rw [if_pos ⟨pr, Int32.le_refl _⟩]
      have k6 : (kept (hat4 s r (nI u)) r r ((hat4 s r (nI u)).1 6 r) ((hat4 s r (nI u)).2 8 r) ((hat4 s r (nI u)).1 7 r) ((hat4 s r (nI u)).1 9 r)).1 6 r = (hat4 s r (nI u)).1 6 r := kept_ne (by omega)
      unfold f_end
      rw [k6]
      by_cases c2 : ¬ (kept (hat4 s r (nI u)) r r ((hat4 s r (nI u)).1 6 r) ((hat4 s r (nI u)).2 8 r) ((hat4 s r (nI u)).1 7 r) ((hat4 s r (nI u)).1 9 r)).1 10 r = 0 ∧ ¬ cntN (kept (hat4 s r (nI u)) r r ((hat4 s r (nI u)).1 6 r) ((hat4 s r (nI u)).2 8 r) ((hat4 s r (nI u)).1 7 r) ((hat4 s r (nI u)).1 9 r)) r ((hat4 s r (nI u)).1 6 r) 4 < 3
      · rw [if_pos ⟨c2.1, pr, c2.2⟩, if_pos ⟨c2.1, rfl, c2.2⟩]
      · rw [if_neg (fun z => c2 ⟨z.1, z.2.2⟩), if_neg (fun z => c2 ⟨z.1, z.2.2⟩)]
    · rw [if_neg pr, if_neg pr]
      refine end_np (fun z => pr ?_)
      have z2 := z.2.1
      rw [fr_row.1 6 r (by omega) (by omega)] at z2
      exact z2
  · rw [if_neg c, if_neg c]
    exact end_np (np_up hp (by omega))
theorem inv_hP {s : MS} {t r u : Nat} (h : Inv s t) (ht : t + 1 < 2 ^ 31) (hr : r < 4) (hu : u < 4) : Inv (f_hP s r (nI u)) (t + 1) := by
  have h4 := inv_hat4 (r := r) h (nI u)
  obtain ⟨a1, a2, a3, ⟨f, a4, a4'⟩, a5, a6, a7⟩ := h4.r hr
  unfold f_hP
  split
  · unfold chvS
    split
    · rw [a1, a4']; exact inv_kept h4 a5 a4 a3
    · obtain ⟨v, hv, ev⟩ := a5
      have e4 : rm4 ((hat4 s r (nI u)).1 6 r) = nI (v % 4) := by
        rw [ev]; exact pk_rem (d := 4) (by omega) (by omega) (by omega)
      rw [e4, a1, a4']
      exact inv_row h4 (Or.inl rfl) hr (Nat.mod_lt _ (by omega)) ⟨v, hv, ev⟩ a4 a3
  · exact (inv_hat1 h hr hu).mono (by omega)
set_option maxRecDepth 100000 in
set_option maxHeartbeats 1000000 in
theorem l_end {sc : pm_Sc} {s : MS} {c : CX} {t r : Nat} (h : R s c) (hi : Inv s t) (ht : t < 2 ^ 31) (hr : r < 4) : ∃ c', R (f_end s r) c' ∧ Ext c c' 31 ∧ ∀ lv, pm_ld lv 0 = some (.ref (7 + 6 * r)) → pw sc 27 (136, lv, [], hx c) (pz none (hx c')) := by
  obtain ⟨cs, a, Y, kn⟩ := c
  have hc : 73 < cs.length := h.1
  have e6 : a.1 6 r = s.1 6 r := h.a 6 r (by omega)
  have e10 : a.1 10 r = s.1 10 r := h.a 10 r (by omega)
  have hv : ¬ s.1 6 r = -1 := by
    obtain ⟨-, -, -, -, ⟨v, v1, v2⟩, -⟩ := hi.r hr
    rw [v2]; exact nI_nm1 (by omega)
  unfold f_end
  by_cases d : s.1 10 r = 0
  · rw [if_neg (fun z => z.1 d)]
    refine ⟨(cs, a, Y, kn), h, (Ext.rf _).mono (by omega), fun lv g0 => ?_⟩
    show pw sc 27 (136, lv, [], (cset cs a Y, kn)) _
    refine w_aload_n rfl g0 ?_
    refine w_getfield rfl (cs7 hc hr) rfl ?_
    refine w_ifCond_eq rfl rfl (fun c140 => ?_) (fun c140 => ?_)
    · exact w_return rfl rfl ⟨rfl, rfl⟩
    · exact absurd (e10.trans d) c140
  · by_cases pr : rm4 (s.1 6 r) = nI r
    · by_cases cn : cntN s r (s.1 6 r) 4 < 3
      · rw [if_neg (fun z => z.2.2 cn)]
        refine ⟨(cs, a, Y, kn), h, (Ext.rf _).mono (by omega), fun lv g0 => ?_⟩
        show pw sc 27 (136, lv, [], (cset cs a Y, kn)) _
        refine w_aload_n rfl g0 ?_
        refine w_getfield rfl (cs7 hc hr) rfl ?_
        refine w_ifCond_eq rfl rfl (fun c140 => ?_) (fun c140 => ?_)
        · exact absurd (e10.symm.trans c140) d
        · refine w_aload_n rfl g0 ?_
          refine w_getfield rfl (cs7 hc hr) rfl ?_
          refine w_static rfl (by decide) rfl ⟨(Nat.le_of_ble_eq_true rfl), (Nat.le_of_ble_eq_true rfl), (Nat.le_of_ble_eq_true rfl)⟩ rfl (Nat.le_of_ble_eq_true rfl) (c_prim _) ?_
          rintro _ _ ⟨rfl, rfl⟩
          refine ⟨_, rfl, ?_⟩
          refine w_aload_n rfl g0 ?_
          refine w_getfield rfl (cs7 hc hr) rfl ?_
          refine w_if_icmp_ne rfl rfl (fun c154 => ?_) (fun c154 => ?_)
          · exact absurd (by rw [e6]; exact pr) c154
          · refine w_aload_n rfl g0 ?_
            refine w_virtual rfl rfl (cs7 hc hr) ⟨(Nat.le_of_ble_eq_true rfl), rfl, (Nat.le_of_ble_eq_true rfl), (Nat.le_of_ble_eq_true rfl)⟩ rfl (Nat.le_of_ble_eq_true rfl) (c_cc h hr hv) ?_
            rintro _ _ ⟨rfl, rfl⟩
            refine ⟨_, rfl, ?_⟩
            refine w_iconst (v := 3) rfl (by decide) ?_
            refine w_if_icmp_lt rfl rfl (fun c162 => ?_) (fun c162 => ?_)
            · exact w_return rfl rfl ⟨rfl, rfl⟩
            · exact absurd cn c162
      · rw [if_pos ⟨d, pr, cn⟩]
        obtain ⟨g, m1, m2⟩ := c_merge (sc := sc) h hi ht hr cn
        obtain ⟨-, hrow, f, hf, ef⟩ := nw_ok hi ht hr cn
        rw [ef] at m2
        have hN12 : (nwG s r).2 ≤ 12 := hrow.1
        have r1 := h.mg (nwG s r).2 (nI f) g
        have x1 := ext_mg (c := (cs, a, Y, kn)) hc (nwG s r).2 (nI f) g
        have hc1 : 73 < (mgC cs (nwG s r).2 (nI f) g).length := mg_hc hc
        have hH : HisX (mgC cs (nwG s r).2 (nI f) g) cs.length (nwG s r).2 (nI f) (nwG s r).1 := mg_hisx hc hN12 m1
        have hm : a.1 17 0 = nI (mN s) := (h.am hi).1
        have r2 := r1.addC (letC 7 (a.1 6 r) (-1) (nI (nwG s r).2) 0 0 (some cs.length)) 7
        have x2 := ext_addC (c := mgX (cs, a, Y, kn) (nwG s r).2 (nI f) g) hc1 (m := 7) (by omega) (letC 7 (a.1 6 r) (-1) (nI (nwG s r).2) 0 0 (some cs.length))
        have hc2 : 73 < (mgC cs (nwG s r).2 (nI f) g ++ [letC 7 (a.1 6 r) (-1) (nI (nwG s r).2) 0 0 (some cs.length)]).length := hcA hc1
        have ca := c_all (sc := sc) (addC (mgX (cs, a, Y, kn) (nwG s r).2 (nI f) g) (letC 7 (a.1 6 r) (-1) (nI (nwG s r).2) 0 0 (some cs.length)) 7) hc2 (nI r) (mgC cs (nwG s r).2 (nI f) g).length hm hi.m.2
        have x3 := ext_all (c := addC (mgX (cs, a, Y, kn) (nwG s r).2 (nI f) g) (letC 7 (a.1 6 r) (-1) (nI (nwG s r).2) 0 0 (some cs.length)) 7) hc2 (nI r) (mgC cs (nwG s r).2 (nI f) g).length 4
        have r3 := R_rwN (r := r) (x := (nwG s r).1) (f := nI f) r2 (fun u hu => inv_rwN hi hr hf hrow u hu) (l := (mgC cs (nwG s r).2 (nI f) g).length) (by omega) (by rw [← e6]; exact ga_new) (hH.kl KC.app) 4 (by omega)
        have hH3 := (hH.kl KC.app).kl x3.2.2.1
        generalize allC (addC (mgX (cs, a, Y, kn) (nwG s r).2 (nI f) g) (letC 7 (a.1 6 r) (-1) (nI (nwG s r).2) 0 0 (some cs.length)) 7) (nI r) (mgC cs (nwG s r).2 (nI f) g).length 4 = c3 at ca x3 r3 hH3
        have i3 : Inv (rwN s r (nwG s r).1 (nI (nwG s r).2) (nI f) 4) t := inv_rwN hi hr hf hrow 4 (by omega)
        have eq3 : nqN (rwN s r (nwG s r).1 (nI (nwG s r).2) (nI f) 4) = nqN s := nq_cong ((fr_rw 4).1 2 0 (by omega) (by omega))
        have hc3 : 73 < c3.1.length := r3.1
        have e63 : c3.2.1.1 6 r = (rwN s r (nwG s r).1 (nI (nwG s r).2) (nI f) 4).1 6 r := r3.a 6 r (by omega)
        obtain ⟨c', q1, q2, q3⟩ := c_turn (sc := sc) r3 i3 hr (i3.r hr).2.2.2.2.1 hf (by rw [eq3]; exact hrow) hH3
        have eN : f_new s r = f_turn (rwN s r (nwG s r).1 (nI (nwG s r).2) (nI f) 4) r ((rwN s r (nwG s r).1 (nI (nwG s r).2) (nI f) 4).1 6 r) (nwG s r).1 (nwG s r).2 (nI f) := by
          unfold f_new nwR
          rw [ef]
        rw [eN]
        refine ⟨c', q2, ((x1.tr x2).tr (x3.tr q3)).mono (by omega), fun lv g0 => ?_⟩
        show pw sc 27 (136, lv, [], (cset cs a Y, kn)) _
        refine w_aload_n rfl g0 ?_
        refine w_getfield rfl (cs7 hc hr) rfl ?_
        refine w_ifCond_eq rfl rfl (fun c140 => ?_) (fun c140 => ?_)
        · exact absurd (e10.symm.trans c140) d
        · refine w_aload_n rfl g0 ?_
          refine w_getfield rfl (cs7 hc hr) rfl ?_
          refine w_static rfl (by decide) rfl ⟨(Nat.le_of_ble_eq_true rfl), (Nat.le_of_ble_eq_true rfl), (Nat.le_of_ble_eq_true rfl)⟩ rfl (Nat.le_of_ble_eq_true rfl) (c_prim _) ?_
          rintro _ _ ⟨rfl, rfl⟩
          refine ⟨_, rfl, ?_⟩
          refine w_aload_n rfl g0 ?_
          refine w_getfield rfl (cs7 hc hr) rfl ?_
          refine w_if_icmp_ne rfl rfl (fun c154 => ?_) (fun c154 => ?_)
          · exact absurd (by rw [e6]; exact pr) c154
          · refine w_aload_n rfl g0 ?_
            refine w_virtual rfl rfl (cs7 hc hr) ⟨(Nat.le_of_ble_eq_true rfl), rfl, (Nat.le_of_ble_eq_true rfl), (Nat.le_of_ble_eq_true rfl)⟩ rfl (Nat.le_of_ble_eq_true rfl) (c_cc h hr hv) ?_
            rintro _ _ ⟨rfl, rfl⟩
            refine ⟨_, rfl, ?_⟩
            refine w_iconst (v := 3) rfl (by decide) ?_
            refine w_if_icmp_lt rfl rfl (fun c162 => ?_) (fun c162 => ?_)
            · exact absurd c162 cn
            · refine w_aload_n rfl g0 ?_
              refine w_virtual rfl rfl (cs7 hc hr) ⟨(Nat.le_of_ble_eq_true rfl), rfl, (Nat.le_of_ble_eq_true rfl), (Nat.le_of_ble_eq_true rfl)⟩ rfl (Nat.le_of_ble_eq_true rfl) (m2) ?_
              rintro _ _ ⟨rfl, rfl⟩
              refine ⟨_, rfl, ?_⟩
              refine w_astore_n rfl (Nat.le_of_ble_eq_true rfl) ?_
              refine w_aload_n rfl (ld_s1 (by decide) g0 (fun _ => rfl)) ?_
              refine w_getfield rfl (cs7 hc1 hr) rfl ?_
              refine w_aload_n rfl (ld_s1 (by decide) g0 (fun _ => rfl)) ?_
              refine w_getfield rfl (cs7 hc1 hr) rfl ?_
              refine w_cnew rfl hc1 (Nat.le_of_ble_eq_true rfl) ?_
              refine w_dup rfl rfl ?_
              refine w_bipush (v := 7) rfl (by decide) ?_
              refine w_aload_n rfl (ld_s1 (by decide) g0 (fun _ => rfl)) ?_
              refine w_getfield rfl (cs7 (hcA hc1) hr) rfl ?_
              refine w_iconst (v := (-1)) rfl (by decide) ?_
              refine w_aload_n rfl ld_self ?_
              refine w_getfield rfl ((cset_out (Nat.not_le_of_gt (hc30 hc))).trans (ga_old mg_o)) rfl ?_
              refine w_iconst (v := 0) rfl (by decide) ?_
              refine w_iconst (v := 0) rfl (by decide) ?_
              refine w_aload_n rfl ld_self ?_
              refine w_special rfl (by decide) rfl ⟨(Nat.le_of_ble_eq_true rfl), (Nat.le_of_ble_eq_true rfl), (Nat.le_of_ble_eq_true rfl)⟩ rfl (Nat.le_of_ble_eq_true rfl) (c_let_initR (hcA hc1) (hc30 hc1) ga_new _ _ _ _ _ _ _) ?_
              rintro _ _ ⟨rfl, rfl⟩
              refine ⟨_, rfl, ?_⟩
              rw [set_app]
              refine w_virtual rfl rfl (cs2 (hcA hc1)) ⟨(Nat.le_of_ble_eq_true rfl), rfl, (Nat.le_of_ble_eq_true rfl), (Nat.le_of_ble_eq_true rfl)⟩ rfl (Nat.le_of_ble_eq_true rfl) (ca) ?_
              rintro _ _ ⟨rfl, rfl⟩
              refine ⟨_, rfl, ?_⟩
              refine w_aload_n rfl (ld_s1 (by decide) g0 (fun _ => rfl)) ?_
              refine w_aload_n rfl (ld_s1 (by decide) g0 (fun _ => rfl)) ?_
              refine w_getfield rfl (cs7 hc3 hr) rfl ?_
              refine w_aload_n rfl ld_self ?_
              rw [e63]
              refine w_virtual rfl rfl (cs7 hc3 hr) ⟨(Nat.le_of_ble_eq_true rfl), rfl, (Nat.le_of_ble_eq_true rfl), (Nat.le_of_ble_eq_true rfl)⟩ rfl (Nat.le_of_ble_eq_true rfl) (q1) ?_
              rintro _ _ ⟨rfl, rfl⟩
              refine ⟨_, rfl, ?_⟩
              exact w_return rfl rfl ⟨rfl, rfl⟩
    · rw [if_neg (fun z => pr z.2.1)]
      refine ⟨(cs, a, Y, kn), h, (Ext.rf _).mono (by omega), fun lv g0 => ?_⟩
      show pw sc 27 (136, lv, [], (cset cs a Y, kn)) _
      refine w_aload_n rfl g0 ?_
      refine w_getfield rfl (cs7 hc hr) rfl ?_
      refine w_ifCond_eq rfl rfl (fun c140 => ?_) (fun c140 => ?_)
      · exact absurd (e10.symm.trans c140) d
      · refine w_aload_n rfl g0 ?_
        refine w_getfield rfl (cs7 hc hr) rfl ?_
        refine w_static rfl (by decide) rfl ⟨(Nat.le_of_ble_eq_true rfl), (Nat.le_of_ble_eq_true rfl), (Nat.le_of_ble_eq_true rfl)⟩ rfl (Nat.le_of_ble_eq_true rfl) (c_prim _) ?_
        rintro _ _ ⟨rfl, rfl⟩
        refine ⟨_, rfl, ?_⟩
        refine w_aload_n rfl g0 ?_
        refine w_getfield rfl (cs7 hc hr) rfl ?_
        refine w_if_icmp_ne rfl rfl (fun c154 => ?_) (fun c154 => ?_)
        · exact w_return rfl rfl ⟨rfl, rfl⟩
        · exact absurd (by rw [← e6]; exact c154) pr
set_option maxRecDepth 100000 in
set_option maxHeartbeats 1000000 in
theorem c_may {sc : pm_Sc} {cs : List pm_C} {a : MS} {Y : PT} {kn : Nat × Nat} (hc : 73 < cs.length) {r : Nat} (hr : r < 4) (fr v : Int32) : pu sc 35 [.ref (7 + 6 * r), .int fr, .int v] (cset cs a Y, kn) (pz (some (.int (b01 (fr = rm4 v ∧ (a.1 6 r < v ∨ (v = a.1 6 r ∧ ¬ a.1 10 r = 0)))))) (cset cs a Y, kn)) := by
  refine w_iload_n rfl rfl ?_
  refine w_iload_n rfl rfl ?_
  refine w_static rfl (by decide) rfl ⟨(Nat.le_of_ble_eq_true rfl), (Nat.le_of_ble_eq_true rfl), (Nat.le_of_ble_eq_true rfl)⟩ rfl (Nat.le_of_ble_eq_true rfl) (c_prim _) ?_
  rintro _ _ ⟨rfl, rfl⟩
  refine ⟨_, rfl, ?_⟩
  refine w_if_icmp_ne rfl rfl (fun c5 => ?_) (fun c5 => ?_)
  · refine w_iconst (v := 0) rfl (by decide) ?_
    exact w_ireturn rfl (by first | exact Or.inl rfl | exact Or.inr ⟨rfl, Or.inl rfl⟩ | exact Or.inr ⟨rfl, Or.inr rfl⟩ | exact Or.inr ⟨rfl, by assumption⟩) ⟨(by first | (simp only [b01, c5, if_true, if_false, and_true, true_and, and_false, false_and, or_true, true_or, or_false, false_or, not_true_eq_false, not_false_eq_true, ite_self]; done) | (simp only [b01, c5, if_true, if_false, and_true, true_and, and_false, false_and, or_true, true_or, or_false, false_or, not_true_eq_false, not_false_eq_true, ite_self]; rfl) | rfl), (by first | (simp only [b01, c5, if_true, if_false, and_true, true_and, and_false, false_and, or_true, true_or, or_false, false_or, not_true_eq_false, not_false_eq_true, ite_self]; done) | (simp only [b01, c5, if_true, if_false, and_true, true_and, and_false, false_and, or_true, true_or, or_false, false_or, not_true_eq_false, not_false_eq_true, ite_self]; rfl) | rfl)⟩
  · refine w_iload_n rfl rfl ?_
    refine w_aload_n rfl rfl ?_
    refine w_getfield rfl (cs7 hc hr) rfl ?_
    refine w_if_icmp_gt rfl rfl (fun c13 => ?_) (fun c13 => ?_)
    · refine w_iconst (v := 1) rfl (by decide) ?_
      refine w_goto rfl rfl ?_
      exact w_ireturn rfl (by first | exact Or.inl rfl | exact Or.inr ⟨rfl, Or.inl rfl⟩ | exact Or.inr ⟨rfl, Or.inr rfl⟩ | exact Or.inr ⟨rfl, by assumption⟩) ⟨(by first | (simp only [b01, (eq_true c5), c13, if_true, if_false, and_true, true_and, and_false, false_and, or_true, true_or, or_false, false_or, not_true_eq_false, not_false_eq_true, ite_self]; done) | (simp only [b01, (eq_true c5), c13, if_true, if_false, and_true, true_and, and_false, false_and, or_true, true_or, or_false, false_or, not_true_eq_false, not_false_eq_true, ite_self]; rfl) | rfl), (by first | (simp only [b01, (eq_true c5), c13, if_true, if_false, and_true, true_and, and_false, false_and, or_true, true_or, or_false, false_or, not_true_eq_false, not_false_eq_true, ite_self]; done) | (simp only [b01, (eq_true c5), c13, if_true, if_false, and_true, true_and, and_false, false_and, or_true, true_or, or_false, false_or, not_true_eq_false, not_false_eq_true, ite_self]; rfl) | rfl)⟩
    · refine w_iload_n rfl rfl ?_
      refine w_aload_n rfl rfl ?_
      refine w_getfield rfl (cs7 hc hr) rfl ?_
      refine w_if_icmp_ne rfl rfl (fun c21 => ?_) (fun c21 => ?_)
      · refine w_iconst (v := 0) rfl (by decide) ?_
        exact w_ireturn rfl (by first | exact Or.inl rfl | exact Or.inr ⟨rfl, Or.inl rfl⟩ | exact Or.inr ⟨rfl, Or.inr rfl⟩ | exact Or.inr ⟨rfl, by assumption⟩) ⟨(by first | (simp only [b01, (eq_true c5), c13, c21, if_true, if_false, and_true, true_and, and_false, false_and, or_true, true_or, or_false, false_or, not_true_eq_false, not_false_eq_true, ite_self]; done) | (simp only [b01, (eq_true c5), c13, c21, if_true, if_false, and_true, true_and, and_false, false_and, or_true, true_or, or_false, false_or, not_true_eq_false, not_false_eq_true, ite_self]; rfl) | rfl), (by first | (simp only [b01, (eq_true c5), c13, c21, if_true, if_false, and_true, true_and, and_false, false_and, or_true, true_or, or_false, false_or, not_true_eq_false, not_false_eq_true, ite_self]; done) | (simp only [b01, (eq_true c5), c13, c21, if_true, if_false, and_true, true_and, and_false, false_and, or_true, true_or, or_false, false_or, not_true_eq_false, not_false_eq_true, ite_self]; rfl) | rfl)⟩
      · refine w_aload_n rfl rfl ?_
        refine w_getfield rfl (cs7 hc hr) rfl ?_
        refine w_ifCond_eq rfl rfl (fun c28 => ?_) (fun c28 => ?_)
        · refine w_iconst (v := 0) rfl (by decide) ?_
          exact w_ireturn rfl (by first | exact Or.inl rfl | exact Or.inr ⟨rfl, Or.inl rfl⟩ | exact Or.inr ⟨rfl, Or.inr rfl⟩ | exact Or.inr ⟨rfl, by assumption⟩) ⟨(by first | (simp only [b01, (eq_true c5), c13, (eq_true c21), (eq_true c28), if_true, if_false, and_true, true_and, and_false, false_and, or_true, true_or, or_false, false_or, not_true_eq_false, not_false_eq_true, ite_self]; done) | (simp only [b01, (eq_true c5), c13, (eq_true c21), (eq_true c28), if_true, if_false, and_true, true_and, and_false, false_and, or_true, true_or, or_false, false_or, not_true_eq_false, not_false_eq_true, ite_self]; rfl) | rfl), (by first | (simp only [b01, (eq_true c5), c13, (eq_true c21), (eq_true c28), if_true, if_false, and_true, true_and, and_false, false_and, or_true, true_or, or_false, false_or, not_true_eq_false, not_false_eq_true, ite_self]; done) | (simp only [b01, (eq_true c5), c13, (eq_true c21), (eq_true c28), if_true, if_false, and_true, true_and, and_false, false_and, or_true, true_or, or_false, false_or, not_true_eq_false, not_false_eq_true, ite_self]; rfl) | rfl)⟩
        · refine w_iconst (v := 1) rfl (by decide) ?_
          refine w_goto rfl rfl ?_
          exact w_ireturn rfl (by first | exact Or.inl rfl | exact Or.inr ⟨rfl, Or.inl rfl⟩ | exact Or.inr ⟨rfl, Or.inr rfl⟩ | exact Or.inr ⟨rfl, by assumption⟩) ⟨(by first | (simp only [b01, (eq_true c5), c13, (eq_true c21), c28, if_true, if_false, and_true, true_and, and_false, false_and, or_true, true_or, or_false, false_or, not_true_eq_false, not_false_eq_true, ite_self]; done) | (simp only [b01, (eq_true c5), c13, (eq_true c21), c28, if_true, if_false, and_true, true_and, and_false, false_and, or_true, true_or, or_false, false_or, not_true_eq_false, not_false_eq_true, ite_self]; rfl) | rfl), (by first | (simp only [b01, (eq_true c5), c13, (eq_true c21), c28, if_true, if_false, and_true, true_and, and_false, false_and, or_true, true_or, or_false, false_or, not_true_eq_false, not_false_eq_true, ite_self]; done) | (simp only [b01, (eq_true c5), c13, (eq_true c21), c28, if_true, if_false, and_true, true_and, and_false, false_and, or_true, true_or, or_false, false_or, not_true_eq_false, not_false_eq_true, ite_self]; rfl) | rfl)⟩
set_option maxRecDepth 100000 in
set_option maxHeartbeats 1000000 in
theorem c_take0 {sc : pm_Sc} {s : MS} {c : CX} {t t1 r l : Nat} {q : Nat} {v p d e : Int32} {y : Option Nat} (fr : Int32) (hL : c.1[l]? = some (letC 0 v (nI q) p d e y)) (hq : q < nqN s) (h : R s c) (hi : Inv s t) (hr : r < 4) (hl : 74 ≤ l) (ht1 : t1 < 2 ^ 31) (hi1 : Inv (if s.1 10 r = 0 then f_ask s r (nI q) fr else s) t1) : ∃ c', pu sc 27 [.ref (7 + 6 * r), .int fr, .ref l] (hx c) (pz none (hx c')) ∧ R (f_end (if s.1 10 r = 0 then f_ask s r (nI q) fr else s) r) c' ∧ Ext c c' 55 := by
  obtain ⟨c1, q1, q2, q3⟩ := c_tAsk (sc := sc) fr h hi hr hq
  obtain ⟨c', k1, k2, H⟩ := l_end (sc := sc) q2 hi1 ht1 hr
  refine ⟨c', ?_, k1, (q3.tr k2).mono (by omega)⟩
  obtain ⟨cs, a, Y, kn⟩ := c
  have hc : 73 < cs.length := h.1
  show pu sc 27 [.ref (7 + 6 * r), .int fr, .ref l] (cset cs a Y, kn) _
  refine w_aload_n rfl rfl ?_
  refine w_getfield rfl ((cset_out (Nat.not_le_of_gt (Nat.lt_of_lt_of_le (by decide) hl))).trans hL) rfl ?_
  refine w_tableIn rfl (by decide) rfl rfl ?_
  refine w_aload_n rfl rfl ?_
  refine w_iload_n rfl rfl ?_
  refine w_aload_n rfl rfl ?_
  refine w_getfield rfl ((cset_out (Nat.not_le_of_gt (Nat.lt_of_lt_of_le (by decide) hl))).trans hL) rfl ?_
  refine w_virtual rfl rfl (cs7 hc hr) ⟨(Nat.le_of_ble_eq_true rfl), rfl, (Nat.le_of_ble_eq_true rfl), (Nat.le_of_ble_eq_true rfl)⟩ rfl (Nat.le_of_ble_eq_true rfl) (q1) ?_
  rintro _ _ ⟨rfl, rfl⟩
  refine ⟨_, rfl, ?_⟩
  refine w_goto rfl rfl ?_
  exact H _ rfl
set_option maxRecDepth 100000 in
set_option maxHeartbeats 1000000 in
theorem c_take1 {sc : pm_Sc} {s : MS} {c : CX} {t t1 r l : Nat} {q : Nat} {v p d e : Int32} {y : Option Nat} (fr : Int32) (hL : c.1[l]? = some (letC 1 v (nI q) p d e y)) (hq : q < nqN s) (h : R s c) (hi : Inv s t) (hr : r < 4) (hl : 74 ≤ l) (ht1 : t1 < 2 ^ 31) (hi1 : Inv (f_ord s r fr v p (nI q) d) t1) : ∃ c', pu sc 27 [.ref (7 + 6 * r), .int fr, .ref l] (hx c) (pz none (hx c')) ∧ R (f_end (f_ord s r fr v p (nI q) d) r) c' ∧ Ext c c' 55 := by
  obtain ⟨c1, q1, q2, q3⟩ := c_tOrd (sc := sc) fr h hi hr hq hl hL
  obtain ⟨c', k1, k2, H⟩ := l_end (sc := sc) q2 hi1 ht1 hr
  refine ⟨c', ?_, k1, (q3.tr k2).mono (by omega)⟩
  obtain ⟨cs, a, Y, kn⟩ := c
  have hc : 73 < cs.length := h.1
  show pu sc 27 [.ref (7 + 6 * r), .int fr, .ref l] (cset cs a Y, kn) _
  refine w_aload_n rfl rfl ?_
  refine w_getfield rfl ((cset_out (Nat.not_le_of_gt (Nat.lt_of_lt_of_le (by decide) hl))).trans hL) rfl ?_
  refine w_tableIn rfl (by decide) rfl rfl ?_
  refine w_aload_n rfl rfl ?_
  refine w_iload_n rfl rfl ?_
  refine w_aload_n rfl rfl ?_
  refine w_virtual rfl rfl (cs7 hc hr) ⟨(Nat.le_of_ble_eq_true rfl), rfl, (Nat.le_of_ble_eq_true rfl), (Nat.le_of_ble_eq_true rfl)⟩ rfl (Nat.le_of_ble_eq_true rfl) (q1) ?_
  rintro _ _ ⟨rfl, rfl⟩
  refine ⟨_, rfl, ?_⟩
  refine w_goto rfl rfl ?_
  exact H _ rfl
set_option maxRecDepth 100000 in
set_option maxHeartbeats 1000000 in
theorem c_take3 {sc : pm_Sc} {s : MS} {c : CX} {t t1 r l : Nat} {p : Nat} {v q d e : Int32} {y : Option Nat} (fr : Int32) (hL : c.1[l]? = some (letC 3 v q (nI p) d e y)) (hp : p ≤ 12) (h : R s c) (hi : Inv s t) (hr : r < 4) (hl : 74 ≤ l) (ht1 : t1 < 2 ^ 31) (hi1 : Inv (if s.1 10 r = 0 then f_proof s r v p d else s) t1) : ∃ c', pu sc 27 [.ref (7 + 6 * r), .int fr, .ref l] (hx c) (pz none (hx c')) ∧ R (f_end (if s.1 10 r = 0 then f_proof s r v p d else s) r) c' ∧ Ext c c' 55 := by
  obtain ⟨c1, q1, q2, q3⟩ := c_tPrf (sc := sc) h hi hr hp hl hL
  obtain ⟨c', k1, k2, H⟩ := l_end (sc := sc) q2 hi1 ht1 hr
  refine ⟨c', ?_, k1, (q3.tr k2).mono (by omega)⟩
  obtain ⟨cs, a, Y, kn⟩ := c
  have hc : 73 < cs.length := h.1
  show pu sc 27 [.ref (7 + 6 * r), .int fr, .ref l] (cset cs a Y, kn) _
  refine w_aload_n rfl rfl ?_
  refine w_getfield rfl ((cset_out (Nat.not_le_of_gt (Nat.lt_of_lt_of_le (by decide) hl))).trans hL) rfl ?_
  refine w_tableIn rfl (by decide) rfl rfl ?_
  refine w_aload_n rfl rfl ?_
  refine w_aload_n rfl rfl ?_
  refine w_virtual rfl rfl (cs7 hc hr) ⟨(Nat.le_of_ble_eq_true rfl), rfl, (Nat.le_of_ble_eq_true rfl), (Nat.le_of_ble_eq_true rfl)⟩ rfl (Nat.le_of_ble_eq_true rfl) (q1) ?_
  rintro _ _ ⟨rfl, rfl⟩
  refine ⟨_, rfl, ?_⟩
  refine w_goto rfl rfl ?_
  exact H _ rfl
set_option maxRecDepth 100000 in
set_option maxHeartbeats 1000000 in
theorem c_take5 {sc : pm_Sc} {s : MS} {c : CX} {t t1 r l : Nat} {u : Nat} {v q p d e : Int32} {y : Option Nat} (hL : c.1[l]? = some (letC 5 v q p d e y)) (hu : u < 4) (h : R s c) (hi : Inv s t) (hr : r < 4) (hl : 74 ≤ l) (ht1 : t1 < 2 ^ 31) (hi1 : Inv (if v = s.1 6 r then f_hP s r (nI u) else s) t1) : ∃ c', pu sc 27 [.ref (7 + 6 * r), .int (nI u), .ref l] (hx c) (pz none (hx c')) ∧ R (f_end (if v = s.1 6 r then f_hP s r (nI u) else s) r) c' ∧ Ext c c' 55 := by
  obtain ⟨c1, q1, q2, q3⟩ := c_tHate (sc := sc) (v := v) h hi hr hu
  obtain ⟨c', k1, k2, H⟩ := l_end (sc := sc) q2 hi1 ht1 hr
  refine ⟨c', ?_, k1, (q3.tr k2).mono (by omega)⟩
  obtain ⟨cs, a, Y, kn⟩ := c
  have hc : 73 < cs.length := h.1
  show pu sc 27 [.ref (7 + 6 * r), .int (nI u), .ref l] (cset cs a Y, kn) _
  refine w_aload_n rfl rfl ?_
  refine w_getfield rfl ((cset_out (Nat.not_le_of_gt (Nat.lt_of_lt_of_le (by decide) hl))).trans hL) rfl ?_
  refine w_tableIn rfl (by decide) rfl rfl ?_
  refine w_aload_n rfl rfl ?_
  refine w_iload_n rfl rfl ?_
  refine w_aload_n rfl rfl ?_
  refine w_getfield rfl ((cset_out (Nat.not_le_of_gt (Nat.lt_of_lt_of_le (by decide) hl))).trans hL) rfl ?_
  refine w_virtual rfl rfl (cs7 hc hr) ⟨(Nat.le_of_ble_eq_true rfl), rfl, (Nat.le_of_ble_eq_true rfl), (Nat.le_of_ble_eq_true rfl)⟩ rfl (Nat.le_of_ble_eq_true rfl) (q1) ?_
  rintro _ _ ⟨rfl, rfl⟩
  refine ⟨_, rfl, ?_⟩
  refine w_goto rfl rfl ?_
  exact H _ rfl
set_option maxRecDepth 100000 in
set_option maxHeartbeats 1000000 in
theorem c_take6 {sc : pm_Sc} {s : MS} {c : CX} {t t1 r l : Nat} {u n yh : Nat} {v q d e f : Int32} {x : Int64} (hL : c.1[l]? = some (letC 6 v q (nI n) d e (some yh))) (hH : HisX c.1 yh n f x) (hu : u < 4) (h : R s c) (hi : Inv s t) (hr : r < 4) (hl : 74 ≤ l) (ht1 : t1 < 2 ^ 31) (hi1 : Inv (if rm4 v = nI r ∧ s.1 6 r ≤ v then kept s r u v x (nI n) f else s) t1) : ∃ c', pu sc 27 [.ref (7 + 6 * r), .int (nI u), .ref l] (hx c) (pz none (hx c')) ∧ R (f_end (if rm4 v = nI r ∧ s.1 6 r ≤ v then kept s r u v x (nI n) f else s) r) c' ∧ Ext c c' 55 := by
  obtain ⟨c1, q1, q2, q3⟩ := c_keepc (sc := sc) h hr hu hl hL hH
  obtain ⟨c', k1, k2, H⟩ := l_end (sc := sc) q2 hi1 ht1 hr
  refine ⟨c', ?_, k1, (q3.tr k2).mono (by omega)⟩
  obtain ⟨cs, a, Y, kn⟩ := c
  have hc : 73 < cs.length := h.1
  show pu sc 27 [.ref (7 + 6 * r), .int (nI u), .ref l] (cset cs a Y, kn) _
  refine w_aload_n rfl rfl ?_
  refine w_getfield rfl ((cset_out (Nat.not_le_of_gt (Nat.lt_of_lt_of_le (by decide) hl))).trans hL) rfl ?_
  refine w_tableIn rfl (by decide) rfl rfl ?_
  refine w_aload_n rfl rfl ?_
  refine w_iload_n rfl rfl ?_
  refine w_aload_n rfl rfl ?_
  refine w_virtual rfl rfl (cs7 hc hr) ⟨(Nat.le_of_ble_eq_true rfl), rfl, (Nat.le_of_ble_eq_true rfl), (Nat.le_of_ble_eq_true rfl)⟩ rfl (Nat.le_of_ble_eq_true rfl) (q1) ?_
  rintro _ _ ⟨rfl, rfl⟩
  refine ⟨_, rfl, ?_⟩
  refine w_goto rfl rfl ?_
  exact H _ rfl
set_option maxRecDepth 100000 in
set_option maxHeartbeats 1000000 in
theorem c_take7 {sc : pm_Sc} {s : MS} {c : CX} {t t1 r l n yh f : Nat} {v q d e : Int32} {x : Int64} (fr : Int32) (hL : c.1[l]? = some (letC 7 v q (nI n) d e (some yh))) (hH : HisX c.1 yh n (nI f) x) (hv : Vw t v) (hf : f ≤ n) (hrow : Row (nqN s) x n) (h : R s c) (hi : Inv s t) (hr : r < 4) (hl : 74 ≤ l) (ht1 : t1 < 2 ^ 31) (hi1 : Inv (if fr = rm4 v ∧ (s.1 6 r < v ∨ (v = s.1 6 r ∧ ¬ s.1 10 r = 0)) then f_turn s r v x n (nI f) else s) t1) : ∃ c', pu sc 27 [.ref (7 + 6 * r), .int fr, .ref l] (hx c) (pz none (hx c')) ∧ R (f_end (if fr = rm4 v ∧ (s.1 6 r < v ∨ (v = s.1 6 r ∧ ¬ s.1 10 r = 0)) then f_turn s r v x n (nI f) else s) r) c' ∧ Ext c c' 55 := by
  obtain ⟨cs, a, Y, kn⟩ := c
  have hc : 73 < cs.length := h.1
  have e6 : a.1 6 r = s.1 6 r := h.a 6 r (by omega)
  have e10 : a.1 10 r = s.1 10 r := h.a 10 r (by omega)
  by_cases M : fr = rm4 v ∧ (s.1 6 r < v ∨ (v = s.1 6 r ∧ ¬ s.1 10 r = 0))
  · rw [if_pos M] at hi1 ⊢
    obtain ⟨c1, q1, q2, q3⟩ := c_turn (sc := sc) h hi hr hv hf hrow hH
    obtain ⟨c', k1, k2, H⟩ := l_end (sc := sc) q2 hi1 ht1 hr
    refine ⟨c', ?_, k1, (q3.tr k2).mono (by omega)⟩
    show pu sc 27 [.ref (7 + 6 * r), .int fr, .ref l] (cset cs a Y, kn) _
    refine w_aload_n rfl rfl ?_
    refine w_getfield rfl ((cset_out (Nat.not_le_of_gt (Nat.lt_of_lt_of_le (by decide) hl))).trans hL) rfl ?_
    refine w_tableIn rfl (by decide) rfl rfl ?_
    refine w_aload_n rfl rfl ?_
    refine w_getfield rfl ((cset_out (Nat.not_le_of_gt (Nat.lt_of_lt_of_le (by decide) hl))).trans hL) rfl ?_
    refine w_ifnull rfl rfl ?_
    refine w_aload_n rfl rfl ?_
    refine w_iload_n rfl rfl ?_
    refine w_aload_n rfl rfl ?_
    refine w_getfield rfl ((cset_out (Nat.not_le_of_gt (Nat.lt_of_lt_of_le (by decide) hl))).trans hL) rfl ?_
    refine w_virtual rfl rfl (cs7 hc hr) ⟨(Nat.le_of_ble_eq_true rfl), rfl, (Nat.le_of_ble_eq_true rfl), (Nat.le_of_ble_eq_true rfl)⟩ rfl (Nat.le_of_ble_eq_true rfl) (c_may hc hr fr v) ?_
    rintro _ _ ⟨rfl, rfl⟩
    refine ⟨_, rfl, ?_⟩
    refine w_ifCond_eq rfl rfl (fun c118 => ?_) (fun c118 => ?_)
    · replace c118 := b01_f c118
      exact absurd (by rw [e6, e10]; exact M) c118
    · replace c118 := b01_t c118
      refine w_aload_n rfl rfl ?_
      refine w_aload_n rfl rfl ?_
      refine w_getfield rfl ((cset_out (Nat.not_le_of_gt (Nat.lt_of_lt_of_le (by decide) hl))).trans hL) rfl ?_
      refine w_aload_n rfl rfl ?_
      refine w_getfield rfl ((cset_out (Nat.not_le_of_gt (Nat.lt_of_lt_of_le (by decide) hl))).trans hL) rfl ?_
      refine w_virtual rfl rfl (cs7 hc hr) ⟨(Nat.le_of_ble_eq_true rfl), rfl, (Nat.le_of_ble_eq_true rfl), (Nat.le_of_ble_eq_true rfl)⟩ rfl (Nat.le_of_ble_eq_true rfl) (q1) ?_
      rintro _ _ ⟨rfl, rfl⟩
      refine ⟨_, rfl, ?_⟩
      refine w_goto rfl rfl ?_
      exact H _ rfl
  · rw [if_neg M] at hi1 ⊢
    obtain ⟨c', k1, k2, H⟩ := l_end (sc := sc) h hi1 ht1 hr
    refine ⟨c', ?_, k1, k2.mono (by omega)⟩
    show pu sc 27 [.ref (7 + 6 * r), .int fr, .ref l] (cset cs a Y, kn) _
    refine w_aload_n rfl rfl ?_
    refine w_getfield rfl ((cset_out (Nat.not_le_of_gt (Nat.lt_of_lt_of_le (by decide) hl))).trans hL) rfl ?_
    refine w_tableIn rfl (by decide) rfl rfl ?_
    refine w_aload_n rfl rfl ?_
    refine w_getfield rfl ((cset_out (Nat.not_le_of_gt (Nat.lt_of_lt_of_le (by decide) hl))).trans hL) rfl ?_
    refine w_ifnull rfl rfl ?_
    refine w_aload_n rfl rfl ?_
    refine w_iload_n rfl rfl ?_
    refine w_aload_n rfl rfl ?_
    refine w_getfield rfl ((cset_out (Nat.not_le_of_gt (Nat.lt_of_lt_of_le (by decide) hl))).trans hL) rfl ?_
    refine w_virtual rfl rfl (cs7 hc hr) ⟨(Nat.le_of_ble_eq_true rfl), rfl, (Nat.le_of_ble_eq_true rfl), (Nat.le_of_ble_eq_true rfl)⟩ rfl (Nat.le_of_ble_eq_true rfl) (c_may hc hr fr v) ?_
    rintro _ _ ⟨rfl, rfl⟩
    refine ⟨_, rfl, ?_⟩
    refine w_ifCond_eq rfl rfl (fun c118 => ?_) (fun c118 => ?_)
    · replace c118 := b01_f c118
      exact H _ rfl
    · replace c118 := b01_t c118
      exact absurd (by rw [e6, e10] at c118; exact c118) M
/-- a message is taken by a replica: program and reference alike -/
theorem c_takeM {sc : pm_Sc} {s : MS} {c : CX} {t r j p l : Nat} (h : R s c) (hi : Inv s t) (ht : t + 1 < 2 ^ 31) (hr : r < 4) (hj : j < mN s) (hto : s.1 20 j = nI r) (hp : NP s r) (hY : c.2.2.1 3 j = some p) (hP : c.1[p]? = some (.inr (3, [.int (s.1 19 j), .int (s.1 20 j), .ref l, .int (s.1 28 j)]))) : ∃ c', pu sc 27 [.ref (7 + 6 * r), .int (s.1 19 j), .ref l] (hx c) (pz none (hx c')) ∧ R (f_take s r j) c' ∧ Ext c c' 55 := by
  obtain ⟨hI, hN⟩ := inv_take hi ht hr hj hto hp
  have hN := hN r hp
  obtain ⟨hv, -, hm⟩ := hi.2.2.2.1 j hj
  have h4 : ¬ s.1 20 j = 4 := by rw [hto]; exact nI_ne4 hr
  obtain ⟨r', r1, r2, hk⟩ := hm h4
  obtain ⟨p', l', e, y, b1, b2, b3, b4, b5, b6, b7⟩ := h.2.2.2.2.1 j hj
  have ep : p' = p := by
    have := b1.symm.trans hY
    cases this; rfl
  subst ep
  have el : l' = l := by
    have w := b3.symm.trans hP
    injection w with w1
    injection w1 with w2
    injection w2 with w3 w4
    injection w4 with w5 w6
    injection w6 with w7 w8
    injection w8 with w9 w10
    injection w9
  subst el
  unfold f_take at hI hN ⊢
  rcases hk with ⟨k, q, hq, eq⟩ | ⟨k, pp, hp', epp⟩ | ⟨k, u, hu, eu⟩ | ⟨k, ⟨u, hu, eu⟩, n, f, e1, e2, e3, e4⟩
  · rcases k with k | k
    · rw [if_pos k, eq] at hI hN ⊢
      rw [k, eq] at b5
      have z := c_take0 (sc := sc) (s.1 19 j) b5 hq h hi hr b4 ht hI
      rw [end_np hN] at z
      exact z
    · rw [if_neg (by rw [k]; decide), if_pos k, eq] at hI hN ⊢
      rw [k, eq] at b5
      have z := c_take1 (sc := sc) (s.1 19 j) b5 hq h hi hr b4 ht hI
      rw [end_np hN] at z
      exact z
  · rw [if_neg (by rw [k]; decide), if_neg (by rw [k]; decide), if_pos k, epp, nI_clamp (by omega)] at hI hN ⊢
    rw [k, epp] at b5
    have z := c_take3 (sc := sc) (s.1 19 j) b5 hp' h hi hr b4 ht hI
    rw [end_np hN] at z
    exact z
  · rw [if_neg (by rw [k]; decide), if_neg (by rw [k]; decide), if_neg (by rw [k]; decide), if_pos k, eu] at hI hN ⊢
    rw [k] at b5
    have z := c_take5 (sc := sc) (u := u) b5 hu h hi hr b4 ht (by
      split
      · exact inv_hP hi ht hr hu
      · exact hi.mono (by omega))
    by_cases V : s.1 21 j = s.1 6 r
    · rw [if_pos V, hate_end hp] at z
      rw [if_pos V]; exact z
    · rw [if_neg V, end_np hp] at z
      rw [if_neg V]; exact z
  · obtain ⟨yh, n', y1, y2, y3⟩ := b7 k
    have en : n' = n := (nI_eq (by obtain ⟨-, -, -, -, ⟨-, -, q⟩, -⟩ := y3; omega) (by have := e4.1; omega)).mp (y2.symm.trans e1)
    subst en
    subst y1
    rw [e2] at y3
    rw [e1] at b5
    rcases k with k | k
    · rw [if_neg (by rw [k]; decide), if_neg (by rw [k]; decide), if_neg (by rw [k]; decide), if_neg (by rw [k]; decide), if_pos k, eu, nI_clamp (by omega), e1, e2]
      rw [k] at b5
      have z := c_take6 (sc := sc) (u := u) b5 y3 hu h hi hr b4 (t1 := t) (by omega) (by
        split
        · exact inv_kept hi hv e3 e4
        · exact hi)
      rw [change_end hi (by omega) hr hu hv e3 e4 hp] at z
      exact z
    · rw [if_neg (by rw [k]; decide), if_neg (by rw [k]; decide), if_neg (by rw [k]; decide), if_neg (by rw [k]; decide), if_neg (by rw [k]; decide)] at hI hN ⊢
      unfold f_tnew at hI hN ⊢
      rw [e1, e2, nI_clamp (by have := e4.1; omega)] at hI hN ⊢
      rw [k] at b5
      have z := c_take7 (sc := sc) (s.1 19 j) b5 y3 hv e3 e4 h hi hr b4 ht hI
      rw [end_np hN] at z
      exact z
set_option maxRecDepth 100000 in
set_option maxHeartbeats 1000000 in
theorem c_endp {sc : pm_Sc} {s : MS} {c : CX} {t r : Nat} (h : R s c) (hi : Inv s t) (ht : t + 1 < 2 ^ 31) (hr : r < 4) (hp : NP s r) : ∃ c', pu sc 28 [.ref (7 + 6 * r)] (hx c) (pz (some (.int (b01 (¬ (s.1 10 r = 0 ∧ s.1 11 r = 0))))) (hx c')) ∧ R (if s.1 10 r = 0 ∧ s.1 11 r = 0 then s else f_hate (hatS s r) r (nI r)) c' ∧ Ext c c' 60 := by
  obtain ⟨cs, a, Y, kn⟩ := c
  have hc : 73 < cs.length := h.1
  have e6 : a.1 6 r = s.1 6 r := h.a 6 r (by omega)
  have e10 : a.1 10 r = s.1 10 r := h.a 10 r (by omega)
  have e11 : a.1 11 r = s.1 11 r := h.a 11 r (by omega)
  by_cases D : s.1 10 r = 0 ∧ s.1 11 r = 0
  · rw [if_pos D]
    have eb : b01 (¬ (s.1 10 r = 0 ∧ s.1 11 r = 0)) = 0 := if_neg (fun z => z D)
    rw [eb]
    refine ⟨(cs, a, Y, kn), ?_, h, (Ext.rf _).mono (by omega)⟩
    show pu sc 28 [.ref (7 + 6 * r)] (cset cs a Y, kn) _
    refine w_aload_n rfl rfl ?_
    refine w_getfield rfl (cs7 hc hr) rfl ?_
    refine w_ifCond_ne rfl rfl (fun c4 => ?_) (fun c4 => ?_)
    · exact absurd (e10.trans D.1) c4
    · refine w_aload_n rfl rfl ?_
      refine w_getfield rfl (cs7 hc hr) rfl ?_
      refine w_ifCond_ne rfl rfl (fun c11 => ?_) (fun c11 => ?_)
      · exact absurd (e11.trans D.2) c11
      · refine w_iconst (v := 0) rfl (by decide) ?_
        exact w_ireturn rfl (Or.inr ⟨rfl, Or.inl rfl⟩) ⟨rfl, rfl⟩
  · rw [if_neg D]
    have eb : b01 (¬ (s.1 10 r = 0 ∧ s.1 11 r = 0)) = 1 := if_pos D
    rw [eb]
    have hm : a.1 17 0 = nI (mN s) := (h.am hi).1
    have r2 := h.addC (letC 5 (a.1 6 r) (-1) 0 0 0 none) 7
    have x2 := ext_addC (c := (cs, a, Y, kn)) hc (m := 7) (by omega) (letC 5 (a.1 6 r) (-1) 0 0 0 none)
    have hc2 : 73 < (cs ++ [letC 5 (a.1 6 r) (-1) 0 0 0 none]).length := hcA hc
    have ca := c_all (sc := sc) (addC (cs, a, Y, kn) (letC 5 (a.1 6 r) (-1) 0 0 0 none) 7) hc2 (nI r) cs.length hm hi.m.2
    have x3 := ext_all (c := addC (cs, a, Y, kn) (letC 5 (a.1 6 r) (-1) 0 0 0 none) 7) hc2 (nI r) cs.length 4
    have hL2 : (cs ++ [letC 5 (a.1 6 r) (-1) 0 0 0 none])[cs.length]? = some (letC 5 (s.1 6 r) (-1) 0 0 0 none) := by rw [← e6]; exact ga_new
    have r3 := R_all (e := 0) (y := none) (nI r) r2 (fun n hn => inv_all hi 0 (fun x hx => ⟨(hi.r hr).2.2.2.2.1, fun z => absurd z (nI_ne4 hx), fun _ => ⟨x, hx, rfl, Or.inr (Or.inr ⟨rfl, r, hr, rfl⟩)⟩⟩) n hn) (l := cs.length) (by omega) hL2 (by decide) 4 (by omega)
    have hL3 := x3.2.2.1 _ _ (by omega) lkL hL2
    generalize allC (addC (cs, a, Y, kn) (letC 5 (a.1 6 r) (-1) 0 0 0 none) 7) (nI r) cs.length 4 = c3 at ca x3 r3 hL3
    have r3' : R (hatS s r) c3 := r3
    have i3 := inv_hatS hi hr
    have hp3 : NP (hatS s r) r := hp.fr (fr_all 4)
    have e63 : (hatS s r).1 6 r = s.1 6 r := (fr_all 4).1 6 r (by omega) (by omega)
    obtain ⟨c', q1, q2, q3⟩ := c_take5 (sc := sc) (u := r) hL3 hr r3' i3 hr (by omega) ht (by
      split
      · exact inv_hP i3 ht hr hr
      · exact i3.mono (by omega))
    rw [if_pos e63.symm, hate_end hp3] at q2
    have hc3 : 73 < c3.1.length := r3'.1
    refine ⟨c', ?_, q2, ((x2.tr x3).tr q3).mono (by omega)⟩
    show pu sc 28 [.ref (7 + 6 * r)] (cset cs a Y, kn) _
    refine w_aload_n rfl rfl ?_
    refine w_getfield rfl (cs7 hc hr) rfl ?_
    refine w_ifCond_ne rfl rfl (fun c4 => ?_) (fun c4 => ?_)
    · refine w_cnew rfl hc (Nat.le_of_ble_eq_true rfl) ?_
      refine w_dup rfl rfl ?_
      refine w_iconst (v := 5) rfl (by decide) ?_
      refine w_aload_n rfl rfl ?_
      refine w_getfield rfl (cs7 (hcA hc) hr) rfl ?_
      refine w_iconst (v := (-1)) rfl (by decide) ?_
      refine w_iconst (v := 0) rfl (by decide) ?_
      refine w_iconst (v := 0) rfl (by decide) ?_
      refine w_iconst (v := 0) rfl (by decide) ?_
      refine w_aconst_null rfl ?_
      refine w_special rfl (by decide) rfl ⟨(Nat.le_of_ble_eq_true rfl), (Nat.le_of_ble_eq_true rfl), (Nat.le_of_ble_eq_true rfl)⟩ rfl (Nat.le_of_ble_eq_true rfl) (c_let_initN (hcA hc) (hc30 hc) ga_new _ _ _ _ _ _) ?_
      rintro _ _ ⟨rfl, rfl⟩
      refine ⟨_, rfl, ?_⟩
      rw [set_app]
      refine w_astore_n rfl (Nat.le_of_ble_eq_true rfl) ?_
      refine w_aload_n rfl rfl ?_
      refine w_getfield rfl (cs7 (hcA hc) hr) rfl ?_
      refine w_aload_n rfl rfl ?_
      refine w_getfield rfl (cs7 (hcA hc) hr) rfl ?_
      refine w_aload_n rfl rfl ?_
      refine w_virtual rfl rfl (cs2 (hcA hc)) ⟨(Nat.le_of_ble_eq_true rfl), rfl, (Nat.le_of_ble_eq_true rfl), (Nat.le_of_ble_eq_true rfl)⟩ rfl (Nat.le_of_ble_eq_true rfl) (ca) ?_
      rintro _ _ ⟨rfl, rfl⟩
      refine ⟨_, rfl, ?_⟩
      refine w_aload_n rfl rfl ?_
      refine w_aload_n rfl rfl ?_
      refine w_getfield rfl (cs7 hc3 hr) rfl ?_
      refine w_aload_n rfl rfl ?_
      refine w_virtual rfl rfl (cs7 hc3 hr) ⟨(Nat.le_of_ble_eq_true rfl), rfl, (Nat.le_of_ble_eq_true rfl), (Nat.le_of_ble_eq_true rfl)⟩ rfl (Nat.le_of_ble_eq_true rfl) (q1) ?_
      rintro _ _ ⟨rfl, rfl⟩
      refine ⟨_, rfl, ?_⟩
      refine w_iconst (v := 1) rfl (by decide) ?_
      exact w_ireturn rfl (Or.inr ⟨rfl, Or.inr rfl⟩) ⟨rfl, rfl⟩
    · refine w_aload_n rfl rfl ?_
      refine w_getfield rfl (cs7 hc hr) rfl ?_
      refine w_ifCond_ne rfl rfl (fun c11 => ?_) (fun c11 => ?_)
      · refine w_cnew rfl hc (Nat.le_of_ble_eq_true rfl) ?_
        refine w_dup rfl rfl ?_
        refine w_iconst (v := 5) rfl (by decide) ?_
        refine w_aload_n rfl rfl ?_
        refine w_getfield rfl (cs7 (hcA hc) hr) rfl ?_
        refine w_iconst (v := (-1)) rfl (by decide) ?_
        refine w_iconst (v := 0) rfl (by decide) ?_
        refine w_iconst (v := 0) rfl (by decide) ?_
        refine w_iconst (v := 0) rfl (by decide) ?_
        refine w_aconst_null rfl ?_
        refine w_special rfl (by decide) rfl ⟨(Nat.le_of_ble_eq_true rfl), (Nat.le_of_ble_eq_true rfl), (Nat.le_of_ble_eq_true rfl)⟩ rfl (Nat.le_of_ble_eq_true rfl) (c_let_initN (hcA hc) (hc30 hc) ga_new _ _ _ _ _ _) ?_
        rintro _ _ ⟨rfl, rfl⟩
        refine ⟨_, rfl, ?_⟩
        rw [set_app]
        refine w_astore_n rfl (Nat.le_of_ble_eq_true rfl) ?_
        refine w_aload_n rfl rfl ?_
        refine w_getfield rfl (cs7 (hcA hc) hr) rfl ?_
        refine w_aload_n rfl rfl ?_
        refine w_getfield rfl (cs7 (hcA hc) hr) rfl ?_
        refine w_aload_n rfl rfl ?_
        refine w_virtual rfl rfl (cs2 (hcA hc)) ⟨(Nat.le_of_ble_eq_true rfl), rfl, (Nat.le_of_ble_eq_true rfl), (Nat.le_of_ble_eq_true rfl)⟩ rfl (Nat.le_of_ble_eq_true rfl) (ca) ?_
        rintro _ _ ⟨rfl, rfl⟩
        refine ⟨_, rfl, ?_⟩
        refine w_aload_n rfl rfl ?_
        refine w_aload_n rfl rfl ?_
        refine w_getfield rfl (cs7 hc3 hr) rfl ?_
        refine w_aload_n rfl rfl ?_
        refine w_virtual rfl rfl (cs7 hc3 hr) ⟨(Nat.le_of_ble_eq_true rfl), rfl, (Nat.le_of_ble_eq_true rfl), (Nat.le_of_ble_eq_true rfl)⟩ rfl (Nat.le_of_ble_eq_true rfl) (q1) ?_
        rintro _ _ ⟨rfl, rfl⟩
        refine ⟨_, rfl, ?_⟩
        refine w_iconst (v := 1) rfl (by decide) ?_
        exact w_ireturn rfl (Or.inr ⟨rfl, Or.inr rfl⟩) ⟨rfl, rfl⟩
      · exact absurd ⟨e10.symm.trans c4, e11.symm.trans c11⟩ D
