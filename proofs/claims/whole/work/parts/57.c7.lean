-- deps: 56.c6
/-! a replica takes -/
theorem R.hn {s : MS} {c : CX} {t r : Nat} (h : R s c) (hi : Inv s t) (hr : r < 4) : c.2.1.1 7 r = nI (lnN s r) := (h.a 7 r (by omega)).trans (hi.r hr).1
theorem R_app {s : MS} {cs : List pm_C} {a : MS} {Y : PT} {kn : Nat × Nat} {t r q y : Nat} (h : R s (cs, a, Y, kn)) (hi : Inv s t) (hr : r < 4) (hq : q < nqN s) (hn : ∀ k, k < lnN s r → m_at (s.2 8 r) (nI k) ≠ nI q) (hy : s.1 4 q = nI y) (hy4 : y < 4) : R (f_append s r (nI q)) (cs, nxtA a r (lnN s r) q y (s.1 3 q) (s.1 5 q), Y, kn) := by
  obtain ⟨b1, b2, b3, b4, b5⟩ := inv_app hi hr hq hn
  obtain ⟨c1, c2, c3⟩ := app_get s r (nI q)
  have hq12 := hi.q.2
  refine h.next (s' := f_append s r (nI q)) (fun x hx => (hi.r hx).2.1) hr rfl b3 (by omega) hy hy4 (fun f j _ hk => app_ne hk) (fun f j hk => app_nl hk) ?_ c3 b4 b5
  rw [c1, (hi.r hr).1, nI_succ]
theorem R.req4 {s : MS} {cs : List pm_C} {a : MS} {Y : PT} {kn : Nat × Nat} {t q : Nat} (h : R s (cs, a, Y, kn)) (hi : Inv s t) (hq : q < nqN s) : ∃ p y xs, Y 1 q = some p ∧ 30 < p ∧ cs[p]? = some (.inr (6, .int (s.1 3 q) :: .int (nI y) :: .int (s.1 5 q) :: xs)) ∧ y < 4 ∧ s.1 4 q = nI y ∧ q < 12 := by
  have hq12 := hi.q.2
  obtain ⟨p, o, g, b1, b2, b3, b4, b5, b6⟩ := h.rg hq
  obtain ⟨y, hy, ey⟩ := hi.1.2.2.1 q (by omega)
  refine ⟨p, y, [.ref (p + 1), pv o, .int (s.1 42 q), .int (s.1 43 q), .int (s.1 44 q)], b1, by omega, ?_, hy, ey, by omega⟩
  have b3' : cs[p]? = some (reqC s q p o) := b3
  rw [b3']
  unfold reqC
  rw [ey]
theorem R.pl {s : MS} {cs : List pm_C} {a : MS} {Y : PT} {kn : Nat × Nat} {t r : Nat} (h : R s (cs, a, Y, kn)) (hi : Inv s t) (hr : r < 4) (q : Int32) : nI (pfG (fun b => a.1 50 (12 * r + b)) q 0 (lnN s r)) = plN (s.2 8 r) q (lnN s r) := pf_pl (hi.r hr).2.2.1 (h.2.2.1 r hr).1
theorem ext_len {c c' : CX} {b : Nat} (h : Ext c c' b) (hc : 73 < c.1.length) : 73 < c'.1.length := Nat.lt_of_lt_of_le hc h.2.1
set_option maxRecDepth 100000 in
set_option maxHeartbeats 1000000 in
theorem c_tAsk {sc : pm_Sc} {s : MS} {c : CX} {t r q : Nat} (fr : Int32) (h : R s c) (hi : Inv s t) (hr : r < 4) (hq : q < nqN s) : ∃ c', pu sc 29 [.ref (7 + 6 * r), .int fr, .int (nI q)] (hx c) (pz none (hx c')) ∧ R (if s.1 10 r = 0 then f_ask s r (nI q) fr else s) c' ∧ Ext c c' 9 := by
  obtain ⟨cs, a, Y, kn⟩ := c
  have hc : 73 < cs.length := h.1
  have hn : a.1 7 r = nI (lnN s r) := h.hn hi hr
  have h12 : lnN s r ≤ 12 := (hi.r hr).2.1
  have e6 : a.1 6 r = s.1 6 r := h.a 6 r (by omega)
  have e10 : a.1 10 r = s.1 10 r := h.a 10 r (by omega)
  have hm : a.1 17 0 = nI (mN s) := (h.am hi).1
  have h6 : mN s ≤ 600 := hi.m.2
  have hpf := h.pl hi hr (nI q)
  by_cases d : s.1 10 r = 0
  · rw [if_pos d]
    unfold f_ask
    by_cases P : plN (s.2 8 r) (nI q) (lnN s r) ≤ 0
    · rw [if_pos P]
      by_cases pr : rm4 (s.1 6 r) = nI r
      · rw [if_pos pr]
        have hno := plN_none (by omega) P
        obtain ⟨p, y, xs, b1, b2, b3, b4, b5, b6⟩ := h.req4 hi hq
        obtain ⟨v1, v2, v3, -, -⟩ := inv_app hi hr hq hno
        have r1 := R_app h hi hr hq hno b5 b4
        have hn1 : (nxtA a r (lnN s r) q y (s.1 3 q) (s.1 5 q)).1 7 r = nI (lnN s r + 1) := by have z := r1.hn v1 hr; rw [v2] at z; exact z
        have hm1 : (nxtA a r (lnN s r) q y (s.1 3 q) (s.1 5 q)).1 17 0 = nI (mN s) := (nxtA_ne (by omega)).trans hm
        obtain ⟨r2, x2⟩ := R_ordC r1 v1 hr (p := lnN s r + 1) (by omega) (by omega)
        have i2 := inv_order v1 hr (p := lnN s r + 1) (by omega) (by omega)
        have l2 : lnN (f_order (f_append s r (nI q)) r (lnN s r + 1)) r = lnN s r + 1 := (ln_cong (s := f_append s r (nI q)) ((fr_all 4).1 7 r (by omega) (by omega))).trans v2
        have hc2 := ext_len x2 hc
        have hn2 := r2.hn i2 hr
        rw [l2] at hn2
        obtain ⟨hm2, h62⟩ := r2.am i2
        obtain ⟨r3, x3⟩ := R_rpl r2 i2 hr (p := lnN s r + 1) (by omega) (by omega)
        refine ⟨_, ?_, r3, ((ext_eq (a' := nxtA a r (lnN s r) q y (s.1 3 q) (s.1 5 q))).tr (x2.tr x3)).mono (by omega)⟩
        show pu sc 29 [.ref (7 + 6 * r), .int fr, .int (nI q)] (cset cs a Y, kn) _
        refine w_aload_n rfl rfl ?_
        refine w_getfield rfl (cs7 hc hr) rfl ?_
        refine w_ifCond_eq rfl rfl (fun c4 => ?_) (fun c4 => ?_)
        · refine w_aload_n rfl rfl ?_
          refine w_getfield rfl (cs7 hc hr) rfl ?_
          refine w_static rfl (by decide) rfl ⟨(Nat.le_of_ble_eq_true rfl), (Nat.le_of_ble_eq_true rfl), (Nat.le_of_ble_eq_true rfl)⟩ rfl (Nat.le_of_ble_eq_true rfl) (c_prim _) ?_
          rintro _ _ ⟨rfl, rfl⟩
          refine ⟨_, rfl, ?_⟩
          refine w_istore_n rfl (Nat.le_of_ble_eq_true rfl) ?_
          refine w_aload_n rfl rfl ?_
          refine w_getfield rfl (cs7 hc hr) rfl ?_
          refine w_iload_n rfl rfl ?_
          refine w_virtual rfl rfl (cs8 hc hr) ⟨(Nat.le_of_ble_eq_true rfl), rfl, (Nat.le_of_ble_eq_true rfl), (Nat.le_of_ble_eq_true rfl)⟩ rfl (Nat.le_of_ble_eq_true rfl) (c_h_pl (hisS hc hr hn h12) (nI q)) ?_
          rintro _ _ ⟨rfl, rfl⟩
          refine ⟨_, rfl, ?_⟩
          refine w_istore rfl (Nat.le_of_ble_eq_true rfl) ?_
          refine w_iload rfl rfl ?_
          refine w_ifCond_le rfl rfl (fun c28 => ?_) (fun c28 => ?_)
          · refine w_iload_n rfl rfl ?_
            refine w_aload_n rfl rfl ?_
            refine w_getfield rfl (cs7 hc hr) rfl ?_
            refine w_if_icmp_ne rfl rfl (fun c70 => ?_) (fun c70 => ?_)
            · exact absurd (by rw [e6]; exact pr) c70
            · refine w_aload_n rfl rfl ?_
              refine w_iload_n rfl rfl ?_
              refine w_virtual rfl rfl (cs7 hc hr) ⟨(Nat.le_of_ble_eq_true rfl), rfl, (Nat.le_of_ble_eq_true rfl), (Nat.le_of_ble_eq_true rfl)⟩ rfl (Nat.le_of_ble_eq_true rfl) (c_doNext hc hr hn v3 b6 b1 b2 b3 b4) ?_
              rintro _ _ ⟨rfl, rfl⟩
              refine ⟨_, rfl, ?_⟩
              refine w_aload_n rfl rfl ?_
              refine w_getfield rfl (cs7 hc hr) rfl ?_
              refine w_aload_n rfl rfl ?_
              refine w_getfield rfl (cs7 hc hr) rfl ?_
              refine w_aload_n rfl rfl ?_
              refine w_aload_n rfl rfl ?_
              refine w_getfield rfl (cs7 hc hr) rfl ?_
              refine w_getfield rfl (cs8 hc hr) rfl ?_
              rw [hn1]
              refine w_virtual rfl rfl (cs7 hc hr) ⟨(Nat.le_of_ble_eq_true rfl), rfl, (Nat.le_of_ble_eq_true rfl), (Nat.le_of_ble_eq_true rfl)⟩ rfl (Nat.le_of_ble_eq_true rfl) (c_orderOf hc hr hn1 (p := lnN s r + 1) (by omega) (Nat.le_refl _) (by omega)) ?_
              rintro _ _ ⟨rfl, rfl⟩
              refine ⟨_, rfl, ?_⟩
              refine w_virtual rfl rfl (cs2 (hcA hc)) ⟨(Nat.le_of_ble_eq_true rfl), rfl, (Nat.le_of_ble_eq_true rfl), (Nat.le_of_ble_eq_true rfl)⟩ rfl (Nat.le_of_ble_eq_true rfl) (c_all (addC (cs, nxtA a r (lnN s r) q y (s.1 3 q) (s.1 5 q), Y, kn) (ordL (cs, nxtA a r (lnN s r) q y (s.1 3 q) (s.1 5 q), Y, kn) r (lnN s r + 1)) 7) (hcA hc) (nI r) cs.length hm1 h6) ?_
              rintro _ _ ⟨rfl, rfl⟩
              refine ⟨_, rfl, ?_⟩
              refine w_aload_n rfl rfl ?_
              refine w_aload_n rfl rfl ?_
              refine w_getfield rfl (cs7 hc2 hr) rfl ?_
              refine w_getfield rfl (cs8 hc2 hr) rfl ?_
              show pw sc 29 (108, _, [.int ((ordC (cs, nxtA a r (lnN s r) q y (s.1 3 q) (s.1 5 q), Y, kn) r (lnN s r + 1)).2.1.1 7 r), .ref (7 + 6 * r)], hx (ordC (cs, nxtA a r (lnN s r) q y (s.1 3 q) (s.1 5 q), Y, kn) r (lnN s r + 1))) _
              rw [hn2]
              refine w_virtual rfl rfl (cs7 hc2 hr) ⟨(Nat.le_of_ble_eq_true rfl), rfl, (Nat.le_of_ble_eq_true rfl), (Nat.le_of_ble_eq_true rfl)⟩ rfl (Nat.le_of_ble_eq_true rfl) (c_reply hc2 hr hn2 (p := lnN s r + 1) (by omega) (Nat.le_refl _) (by omega) hm2 h62) ?_
              rintro _ _ ⟨rfl, rfl⟩
              refine ⟨_, rfl, ?_⟩
              refine w_goto rfl rfl ?_
              exact w_return rfl rfl ⟨rfl, rfl⟩
          · exact absurd (by rw [hpf]; exact P) c28
        · exact absurd (e10.trans d) c4
      · rw [if_neg pr]
        have r1 : R (wnt s r (nI q)) (cs, up a 11 r (s.1 11 r ||| (1 <<< (nI q &&& 31))), Y, kn) := h.fld 11 r _ (by omega)
        have i1 : Inv (wnt s r (nI q)) t := inv_wan hi _
        have e11 : a.1 11 r = s.1 11 r := h.a 11 r (by omega)
        by_cases ff : rm4 ((wnt s r (nI q)).1 6 r) = fr
        · rw [if_pos ff]
          refine ⟨_, ?_, r1, ext_eq.mono (by omega)⟩
          show pu sc 29 [.ref (7 + 6 * r), .int fr, .int (nI q)] (cset cs a Y, kn) _
          refine w_aload_n rfl rfl ?_
          refine w_getfield rfl (cs7 hc hr) rfl ?_
          refine w_ifCond_eq rfl rfl (fun c4 => ?_) (fun c4 => ?_)
          · refine w_aload_n rfl rfl ?_
            refine w_getfield rfl (cs7 hc hr) rfl ?_
            refine w_static rfl (by decide) rfl ⟨(Nat.le_of_ble_eq_true rfl), (Nat.le_of_ble_eq_true rfl), (Nat.le_of_ble_eq_true rfl)⟩ rfl (Nat.le_of_ble_eq_true rfl) (c_prim _) ?_
            rintro _ _ ⟨rfl, rfl⟩
            refine ⟨_, rfl, ?_⟩
            refine w_istore_n rfl (Nat.le_of_ble_eq_true rfl) ?_
            refine w_aload_n rfl rfl ?_
            refine w_getfield rfl (cs7 hc hr) rfl ?_
            refine w_iload_n rfl rfl ?_
            refine w_virtual rfl rfl (cs8 hc hr) ⟨(Nat.le_of_ble_eq_true rfl), rfl, (Nat.le_of_ble_eq_true rfl), (Nat.le_of_ble_eq_true rfl)⟩ rfl (Nat.le_of_ble_eq_true rfl) (c_h_pl (hisS hc hr hn h12) (nI q)) ?_
            rintro _ _ ⟨rfl, rfl⟩
            refine ⟨_, rfl, ?_⟩
            refine w_istore rfl (Nat.le_of_ble_eq_true rfl) ?_
            refine w_iload rfl rfl ?_
            refine w_ifCond_le rfl rfl (fun c28 => ?_) (fun c28 => ?_)
            · refine w_iload_n rfl rfl ?_
              refine w_aload_n rfl rfl ?_
              refine w_getfield rfl (cs7 hc hr) rfl ?_
              refine w_if_icmp_ne rfl rfl (fun c70 => ?_) (fun c70 => ?_)
              · refine w_aload_n rfl rfl ?_
                refine w_dup rfl rfl ?_
                refine w_getfield rfl (cs7 hc hr) rfl ?_
                refine w_iconst (v := 1) rfl (by decide) ?_
                refine w_iload_n rfl rfl ?_
                refine w_ishl rfl ?_
                refine w_ior rfl ?_
                refine w_cpR (f := 11) rfl hc hr (by decide) rfl ?_
                rw [e11]
                refine w_iload_n rfl rfl ?_
                refine w_iload_n rfl rfl ?_
                refine w_if_icmp_eq rfl rfl (fun c128 => ?_) (fun c128 => ?_)
                · exact w_return rfl rfl ⟨rfl, rfl⟩
                · exact absurd (by rw [← ff, e6]; rfl) c128
              · exact absurd (by rw [← e6]; exact c70) pr
            · exact absurd (by rw [hpf]; exact P) c28
          · exact absurd (e10.trans d) c4
        · rw [if_neg ff]
          have rl := R_send (y := none) (e := 0) (nI r) (rm4 (s.1 6 r)) (r1.addC (letC 0 0 (nI q) 0 0 0 none) 7) i1 (l := cs.length) (by omega) ga_new (by decide)
          have xl := (ext_addC (c := (cs, up a 11 r (s.1 11 r ||| (1 <<< (nI q &&& 31))), Y, kn)) hc (m := 7) (by omega) (letC 0 0 (nI q) 0 0 0 none)).tr (ext_snd (hcA hc) (nI r) (rm4 (s.1 6 r)) cs.length)
          refine ⟨_, ?_, rl, ((ext_eq (a := a)).tr xl).mono (by omega)⟩
          show pu sc 29 [.ref (7 + 6 * r), .int fr, .int (nI q)] (cset cs a Y, kn) _
          refine w_aload_n rfl rfl ?_
          refine w_getfield rfl (cs7 hc hr) rfl ?_
          refine w_ifCond_eq rfl rfl (fun c4 => ?_) (fun c4 => ?_)
          · refine w_aload_n rfl rfl ?_
            refine w_getfield rfl (cs7 hc hr) rfl ?_
            refine w_static rfl (by decide) rfl ⟨(Nat.le_of_ble_eq_true rfl), (Nat.le_of_ble_eq_true rfl), (Nat.le_of_ble_eq_true rfl)⟩ rfl (Nat.le_of_ble_eq_true rfl) (c_prim _) ?_
            rintro _ _ ⟨rfl, rfl⟩
            refine ⟨_, rfl, ?_⟩
            refine w_istore_n rfl (Nat.le_of_ble_eq_true rfl) ?_
            refine w_aload_n rfl rfl ?_
            refine w_getfield rfl (cs7 hc hr) rfl ?_
            refine w_iload_n rfl rfl ?_
            refine w_virtual rfl rfl (cs8 hc hr) ⟨(Nat.le_of_ble_eq_true rfl), rfl, (Nat.le_of_ble_eq_true rfl), (Nat.le_of_ble_eq_true rfl)⟩ rfl (Nat.le_of_ble_eq_true rfl) (c_h_pl (hisS hc hr hn h12) (nI q)) ?_
            rintro _ _ ⟨rfl, rfl⟩
            refine ⟨_, rfl, ?_⟩
            refine w_istore rfl (Nat.le_of_ble_eq_true rfl) ?_
            refine w_iload rfl rfl ?_
            refine w_ifCond_le rfl rfl (fun c28 => ?_) (fun c28 => ?_)
            · refine w_iload_n rfl rfl ?_
              refine w_aload_n rfl rfl ?_
              refine w_getfield rfl (cs7 hc hr) rfl ?_
              refine w_if_icmp_ne rfl rfl (fun c70 => ?_) (fun c70 => ?_)
              · refine w_aload_n rfl rfl ?_
                refine w_dup rfl rfl ?_
                refine w_getfield rfl (cs7 hc hr) rfl ?_
                refine w_iconst (v := 1) rfl (by decide) ?_
                refine w_iload_n rfl rfl ?_
                refine w_ishl rfl ?_
                refine w_ior rfl ?_
                refine w_cpR (f := 11) rfl hc hr (by decide) rfl ?_
                rw [e11]
                refine w_iload_n rfl rfl ?_
                refine w_iload_n rfl rfl ?_
                refine w_if_icmp_eq rfl rfl (fun c128 => ?_) (fun c128 => ?_)
                · exact absurd (by rw [e6] at c128; exact c128) ff
                · refine w_aload_n rfl rfl ?_
                  refine w_getfield rfl (cs7 hc hr) rfl ?_
                  refine w_aload_n rfl rfl ?_
                  refine w_getfield rfl (cs7 hc hr) rfl ?_
                  refine w_iload_n rfl rfl ?_
                  refine w_iload_n rfl rfl ?_
                  refine w_static rfl (by decide) rfl ⟨(Nat.le_of_ble_eq_true rfl), (Nat.le_of_ble_eq_true rfl), (Nat.le_of_ble_eq_true rfl)⟩ rfl (Nat.le_of_ble_eq_true rfl) (c_askFor hc (nI q)) ?_
                  rintro _ _ ⟨rfl, rfl⟩
                  refine ⟨_, rfl, ?_⟩
                  rw [e6]
                  refine w_virtual rfl rfl (cs2 (hcA hc)) ⟨(Nat.le_of_ble_eq_true rfl), rfl, (Nat.le_of_ble_eq_true rfl), (Nat.le_of_ble_eq_true rfl)⟩ rfl (Nat.le_of_ble_eq_true rfl) (c_send (addC (cs, up a 11 r (s.1 11 r ||| (1 <<< (nI q &&& 31))), Y, kn) (letC 0 0 (nI q) 0 0 0 none) 7) (hcA hc) (nI r) (rm4 (s.1 6 r)) cs.length hm h6) ?_
                  rintro _ _ ⟨rfl, rfl⟩
                  refine ⟨_, rfl, ?_⟩
                  exact w_return rfl rfl ⟨rfl, rfl⟩
              · exact absurd (by rw [← e6]; exact c70) pr
            · exact absurd (by rw [hpf]; exact P) c28
          · exact absurd (e10.trans d) c4
    · rw [if_neg P]
      obtain ⟨p, p1, p2⟩ := plN_nat (s.2 8 r) (nI q) (lnN s r)
      have hp1 : 1 ≤ p := not_le0 (by rw [← p2]; exact P)
      rw [p2, nI_clamp (by omega)]
      have hpf2 := hpf.trans p2
      obtain ⟨r1, x1⟩ := R_rpl h hi hr hp1 p1
      have i1 := inv_reply hi hr hp1 p1
      have l1 : lnN (f_reply s r p) r = lnN s r := ln_cong (fr_reply.1 7 r (by omega) (by omega))
      have hc1 := ext_len x1 hc
      have hn1 := r1.hn i1 hr
      rw [l1] at hn1
      obtain ⟨hm1, h61⟩ := r1.am i1
      have e61 : rm4 ((f_reply s r p).1 6 r) = rm4 (s.1 6 r) := by rw [fr_reply.1 6 r (by omega) (by omega)]
      rw [e61]
      by_cases pr : rm4 (s.1 6 r) = nI r
      · rw [if_pos pr]
        obtain ⟨r2, x2⟩ := R_ordC r1 i1 hr hp1 (by rw [l1]; exact p1)
        refine ⟨_, ?_, r2, (x1.tr x2).mono (by omega)⟩
        show pu sc 29 [.ref (7 + 6 * r), .int fr, .int (nI q)] (cset cs a Y, kn) _
        refine w_aload_n rfl rfl ?_
        refine w_getfield rfl (cs7 hc hr) rfl ?_
        refine w_ifCond_eq rfl rfl (fun c4 => ?_) (fun c4 => ?_)
        · refine w_aload_n rfl rfl ?_
          refine w_getfield rfl (cs7 hc hr) rfl ?_
          refine w_static rfl (by decide) rfl ⟨(Nat.le_of_ble_eq_true rfl), (Nat.le_of_ble_eq_true rfl), (Nat.le_of_ble_eq_true rfl)⟩ rfl (Nat.le_of_ble_eq_true rfl) (c_prim _) ?_
          rintro _ _ ⟨rfl, rfl⟩
          refine ⟨_, rfl, ?_⟩
          refine w_istore_n rfl (Nat.le_of_ble_eq_true rfl) ?_
          refine w_aload_n rfl rfl ?_
          refine w_getfield rfl (cs7 hc hr) rfl ?_
          refine w_iload_n rfl rfl ?_
          refine w_virtual rfl rfl (cs8 hc hr) ⟨(Nat.le_of_ble_eq_true rfl), rfl, (Nat.le_of_ble_eq_true rfl), (Nat.le_of_ble_eq_true rfl)⟩ rfl (Nat.le_of_ble_eq_true rfl) (c_h_pl (hisS hc hr hn h12) (nI q)) ?_
          rintro _ _ ⟨rfl, rfl⟩
          refine ⟨_, rfl, ?_⟩
          refine w_istore rfl (Nat.le_of_ble_eq_true rfl) ?_
          refine w_iload rfl rfl ?_
          refine w_ifCond_le rfl rfl (fun c28 => ?_) (fun c28 => ?_)
          · exact absurd (by rw [← hpf]; exact c28) P
          · refine w_aload_n rfl rfl ?_
            refine w_iload rfl rfl ?_
            rw [hpf2]
            refine w_virtual rfl rfl (cs7 hc hr) ⟨(Nat.le_of_ble_eq_true rfl), rfl, (Nat.le_of_ble_eq_true rfl), (Nat.le_of_ble_eq_true rfl)⟩ rfl (Nat.le_of_ble_eq_true rfl) (c_reply hc hr hn hp1 p1 h12 hm h6) ?_
            rintro _ _ ⟨rfl, rfl⟩
            refine ⟨_, rfl, ?_⟩
            refine w_iload_n rfl rfl ?_
            refine w_aload_n rfl rfl ?_
            refine w_getfield rfl (cs7 hc1 hr) rfl ?_
            refine w_if_icmp_ne rfl rfl (fun c42 => ?_) (fun c42 => ?_)
            · exact absurd (by rw [e6]; exact pr) c42
            · refine w_aload_n rfl rfl ?_
              refine w_getfield rfl (cs7 hc1 hr) rfl ?_
              refine w_aload_n rfl rfl ?_
              refine w_getfield rfl (cs7 hc1 hr) rfl ?_
              refine w_aload_n rfl rfl ?_
              refine w_iload rfl rfl ?_
              refine w_virtual rfl rfl (cs7 hc1 hr) ⟨(Nat.le_of_ble_eq_true rfl), rfl, (Nat.le_of_ble_eq_true rfl), (Nat.le_of_ble_eq_true rfl)⟩ rfl (Nat.le_of_ble_eq_true rfl) (c_orderOf hc1 hr hn1 hp1 p1 h12) ?_
              rintro _ _ ⟨rfl, rfl⟩
              refine ⟨_, rfl, ?_⟩
              refine w_virtual rfl rfl (cs2 (hcA hc1)) ⟨(Nat.le_of_ble_eq_true rfl), rfl, (Nat.le_of_ble_eq_true rfl), (Nat.le_of_ble_eq_true rfl)⟩ rfl (Nat.le_of_ble_eq_true rfl) (c_all (addC (rplC (cs, a, Y, kn) r p) (ordL (rplC (cs, a, Y, kn) r p) r p) 7) (hcA hc1) (nI r) _ hm1 h61) ?_
              rintro _ _ ⟨rfl, rfl⟩
              refine ⟨_, rfl, ?_⟩
              refine w_goto rfl rfl ?_
              exact w_return rfl rfl ⟨rfl, rfl⟩
        · exact absurd (e10.trans d) c4
      · rw [if_neg pr]
        refine ⟨_, ?_, r1, x1.mono (by omega)⟩
        show pu sc 29 [.ref (7 + 6 * r), .int fr, .int (nI q)] (cset cs a Y, kn) _
        refine w_aload_n rfl rfl ?_
        refine w_getfield rfl (cs7 hc hr) rfl ?_
        refine w_ifCond_eq rfl rfl (fun c4 => ?_) (fun c4 => ?_)
        · refine w_aload_n rfl rfl ?_
          refine w_getfield rfl (cs7 hc hr) rfl ?_
          refine w_static rfl (by decide) rfl ⟨(Nat.le_of_ble_eq_true rfl), (Nat.le_of_ble_eq_true rfl), (Nat.le_of_ble_eq_true rfl)⟩ rfl (Nat.le_of_ble_eq_true rfl) (c_prim _) ?_
          rintro _ _ ⟨rfl, rfl⟩
          refine ⟨_, rfl, ?_⟩
          refine w_istore_n rfl (Nat.le_of_ble_eq_true rfl) ?_
          refine w_aload_n rfl rfl ?_
          refine w_getfield rfl (cs7 hc hr) rfl ?_
          refine w_iload_n rfl rfl ?_
          refine w_virtual rfl rfl (cs8 hc hr) ⟨(Nat.le_of_ble_eq_true rfl), rfl, (Nat.le_of_ble_eq_true rfl), (Nat.le_of_ble_eq_true rfl)⟩ rfl (Nat.le_of_ble_eq_true rfl) (c_h_pl (hisS hc hr hn h12) (nI q)) ?_
          rintro _ _ ⟨rfl, rfl⟩
          refine ⟨_, rfl, ?_⟩
          refine w_istore rfl (Nat.le_of_ble_eq_true rfl) ?_
          refine w_iload rfl rfl ?_
          refine w_ifCond_le rfl rfl (fun c28 => ?_) (fun c28 => ?_)
          · exact absurd (by rw [← hpf]; exact c28) P
          · refine w_aload_n rfl rfl ?_
            refine w_iload rfl rfl ?_
            rw [hpf2]
            refine w_virtual rfl rfl (cs7 hc hr) ⟨(Nat.le_of_ble_eq_true rfl), rfl, (Nat.le_of_ble_eq_true rfl), (Nat.le_of_ble_eq_true rfl)⟩ rfl (Nat.le_of_ble_eq_true rfl) (c_reply hc hr hn hp1 p1 h12 hm h6) ?_
            rintro _ _ ⟨rfl, rfl⟩
            refine ⟨_, rfl, ?_⟩
            refine w_iload_n rfl rfl ?_
            refine w_aload_n rfl rfl ?_
            refine w_getfield rfl (cs7 hc1 hr) rfl ?_
            refine w_if_icmp_ne rfl rfl (fun c42 => ?_) (fun c42 => ?_)
            · exact w_return rfl rfl ⟨rfl, rfl⟩
            · exact absurd (by rw [← e6]; exact c42) pr
        · exact absurd (e10.trans d) c4
  · rw [if_neg d]
    refine ⟨(cs, a, Y, kn), ?_, h, (Ext.rf _).mono (by omega)⟩
    show pu sc 29 [.ref (7 + 6 * r), .int fr, .int (nI q)] (cset cs a Y, kn) _
    refine w_aload_n rfl rfl ?_
    refine w_getfield rfl (cs7 hc hr) rfl ?_
    refine w_ifCond_eq rfl rfl (fun c4 => ?_) (fun c4 => ?_)
    · exact absurd (e10.symm.trans c4) d
    · exact w_return rfl rfl ⟨rfl, rfl⟩
theorem pl_0 {x : Int64} {q : Int32} {n : Nat} (h : plN x q n ≤ 0) (hn : n < 2 ^ 31 := by omega) : plN x q n = 0 := by
  rcases pl_hit (x := x) (q := q) n with ⟨k, h1, h2, h3⟩ | ⟨h1, h2⟩
  · rw [h3] at h
    exact absurd h (nI_nle (by omega) (by omega))
  · exact h2
set_option maxRecDepth 100000 in
set_option maxHeartbeats 1000000 in
theorem c_tOrd {sc : pm_Sc} {s : MS} {c : CX} {t r q l : Nat} {k v p d e : Int32} {y : Option Nat} (fr : Int32) (h : R s c) (hi : Inv s t) (hr : r < 4) (hq : q < nqN s) (hl : 74 ≤ l) (hL : c.1[l]? = some (letC k v (nI q) p d e y)) : ∃ c', pu sc 30 [.ref (7 + 6 * r), .int fr, .ref l] (hx c) (pz none (hx c')) ∧ R (f_ord s r fr v p (nI q) d) c' ∧ Ext c c' 3 := by
  obtain ⟨cs, a, Y, kn⟩ := c
  have hc : 73 < cs.length := h.1
  have hn : a.1 7 r = nI (lnN s r) := h.hn hi hr
  have h12 : lnN s r ≤ 12 := (hi.r hr).2.1
  have e6 : a.1 6 r = s.1 6 r := h.a 6 r (by omega)
  have e10 : a.1 10 r = s.1 10 r := h.a 10 r (by omega)
  have hm : a.1 17 0 = nI (mN s) := (h.am hi).1
  have h6 : mN s ≤ 600 := hi.m.2
  have hpf := h.pl hi hr (nI q)
  have hdg : dgG (fun b => a.1 50 (12 * r + b)) (lnN s r) = digN (s.2 8 r) (lnN s r) := dg_dig (h.2.2.1 r hr).1 _ (Nat.le_refl _)
  unfold f_ord
  have h7 : s.1 7 r + 1 = nI (lnN s r + 1) := by rw [(hi.r hr).1, nI_succ, ← (hi.r hr).1]
  rw [h7]
  by_cases D : s.1 10 r = 0
  · by_cases ff : fr = rm4 (s.1 6 r)
    · by_cases vv : v = s.1 6 r
      · have r1 := h.addC (fitL a r (lnN s r) (nI q)) 7
        have x1 := ext_addC (c := (cs, a, Y, kn)) hc (m := 7) (by omega) (fitL a r (lnN s r) (nI q))
        have hF : (cs ++ [fitL a r (lnN s r) (nI q)])[cs.length]? = some (fitL a r (lnN s r) (nI q)) := ga_new
        by_cases S : v = a.1 6 r ∧ p = nI (lnN s r + 1) ∧ d = 31 * dgG (fun b => a.1 50 (12 * r + b)) (lnN s r) + nI q + 1
        · by_cases P : plN (s.2 8 r) (nI q) (lnN s r) ≤ 0
          · rw [if_pos ⟨D, vv, by rw [vv]; exact ff, S.2.1, P, by rw [← hdg]; exact S.2.2⟩]
            have hno := plN_none (by omega) P
            obtain ⟨p', y', xs, b1, b2, b3, b4, b5, b6⟩ := r1.req4 hi hq
            obtain ⟨v1, v2, v3, -, -⟩ := inv_app hi hr hq hno
            have r2 := R_app r1 hi hr hq hno b5 b4
            have hn1 : (nxtA a r (lnN s r) q y' (s.1 3 q) (s.1 5 q)).1 7 r = nI (lnN s r + 1) := by have z := r2.hn v1 hr; rw [v2] at z; exact z
            have hm1 : (nxtA a r (lnN s r) q y' (s.1 3 q) (s.1 5 q)).1 17 0 = nI (mN s) := (nxtA_ne (by omega)).trans hm
            obtain ⟨r3, x3⟩ := R_rpl r2 v1 hr (p := lnN s r + 1) (by omega) (by omega)
            refine ⟨_, ?_, r3, (x1.tr (ext_eq.tr x3)).mono (by omega)⟩
            show pu sc 30 [.ref (7 + 6 * r), .int fr, .ref l] (cset cs a Y, kn) _
            refine w_aload_n rfl rfl ?_
            refine w_getfield rfl (cs7 hc hr) rfl ?_
            refine w_ifCond_ne rfl rfl (fun c4 => ?_) (fun c4 => ?_)
            · exact absurd (e10.trans D) c4
            · refine w_iload_n rfl rfl ?_
              refine w_aload_n rfl rfl ?_
              refine w_getfield rfl (cs7 hc hr) rfl ?_
              refine w_static rfl (by decide) rfl ⟨(Nat.le_of_ble_eq_true rfl), (Nat.le_of_ble_eq_true rfl), (Nat.le_of_ble_eq_true rfl)⟩ rfl (Nat.le_of_ble_eq_true rfl) (c_prim _) ?_
              rintro _ _ ⟨rfl, rfl⟩
              refine ⟨_, rfl, ?_⟩
              refine w_if_icmp_ne rfl rfl (fun c15 => ?_) (fun c15 => ?_)
              · exact absurd (by rw [e6]; exact ff) c15
              · refine w_aload_n rfl rfl ?_
                refine w_getfield rfl ((cset_out (Nat.not_le_of_gt (Nat.lt_of_lt_of_le (by decide) hl))).trans hL) rfl ?_
                refine w_aload_n rfl rfl ?_
                refine w_getfield rfl (cs7 hc hr) rfl ?_
                refine w_if_icmp_eq rfl rfl (fun c26 => ?_) (fun c26 => ?_)
                · refine w_aload_n rfl rfl ?_
                  refine w_aload_n rfl rfl ?_
                  refine w_getfield rfl ((cset_out (Nat.not_le_of_gt (Nat.lt_of_lt_of_le (by decide) hl))).trans hL) rfl ?_
                  refine w_virtual rfl rfl (cs7 hc hr) ⟨(Nat.le_of_ble_eq_true rfl), rfl, (Nat.le_of_ble_eq_true rfl), (Nat.le_of_ble_eq_true rfl)⟩ rfl (Nat.le_of_ble_eq_true rfl) (c_fit hc hr hn h12 (nI q)) ?_
                  rintro _ _ ⟨rfl, rfl⟩
                  refine ⟨_, rfl, ?_⟩
                  refine w_astore_n rfl (Nat.le_of_ble_eq_true rfl) ?_
                  refine w_aload_n rfl rfl ?_
                  refine w_aload_n rfl rfl ?_
                  refine w_virtual rfl rfl ((cset_out (Nat.not_le_of_gt (Nat.lt_of_lt_of_le (by decide) hl))).trans (ga_old hL)) ⟨(Nat.le_of_ble_eq_true rfl), rfl, (Nat.le_of_ble_eq_true rfl), (Nat.le_of_ble_eq_true rfl)⟩ rfl (Nat.le_of_ble_eq_true rfl) (c_spt (h := hx (addC (cs, a, Y, kn) (fitL a r (lnN s r) (nI q)) 7)) ((cset_out (by omega)).trans (ga_old hL)) ((cset_out (by omega)).trans hF)) ?_
                  rintro _ _ ⟨rfl, rfl⟩
                  refine ⟨_, rfl, ?_⟩
                  refine w_ifCond_eq rfl rfl (fun c44 => ?_) (fun c44 => ?_)
                  · replace c44 := b01_f c44
                    exact absurd S c44
                  · replace c44 := b01_t c44
                    refine w_aload_n rfl rfl ?_
                    refine w_getfield rfl (cs7 (hcA hc) hr) rfl ?_
                    refine w_aload_n rfl rfl ?_
                    refine w_getfield rfl ((cset_out (Nat.not_le_of_gt (Nat.lt_of_lt_of_le (by decide) hl))).trans (ga_old hL)) rfl ?_
                    refine w_virtual rfl rfl (cs8 (hcA hc) hr) ⟨(Nat.le_of_ble_eq_true rfl), rfl, (Nat.le_of_ble_eq_true rfl), (Nat.le_of_ble_eq_true rfl)⟩ rfl (Nat.le_of_ble_eq_true rfl) (c_h_pl (hisS (hcA hc) hr hn h12) (nI q)) ?_
                    rintro _ _ ⟨rfl, rfl⟩
                    refine ⟨_, rfl, ?_⟩
                    refine w_ifCond_ne rfl rfl (fun c58 => ?_) (fun c58 => ?_)
                    · exact absurd (by rw [hpf]; exact (pl_0 P)) c58
                    · refine w_aload_n rfl rfl ?_
                      refine w_aload_n rfl rfl ?_
                      refine w_getfield rfl ((cset_out (Nat.not_le_of_gt (Nat.lt_of_lt_of_le (by decide) hl))).trans (ga_old hL)) rfl ?_
                      refine w_virtual rfl rfl (cs7 (hcA hc) hr) ⟨(Nat.le_of_ble_eq_true rfl), rfl, (Nat.le_of_ble_eq_true rfl), (Nat.le_of_ble_eq_true rfl)⟩ rfl (Nat.le_of_ble_eq_true rfl) (c_doNext (hcA hc) hr hn v3 b6 b1 b2 b3 b4) ?_
                      rintro _ _ ⟨rfl, rfl⟩
                      refine ⟨_, rfl, ?_⟩
                      refine w_aload_n rfl rfl ?_
                      refine w_aload_n rfl rfl ?_
                      refine w_getfield rfl (cs7 (hcA hc) hr) rfl ?_
                      refine w_getfield rfl (cs8 (hcA hc) hr) rfl ?_
                      rw [hn1]
                      refine w_virtual rfl rfl (cs7 (hcA hc) hr) ⟨(Nat.le_of_ble_eq_true rfl), rfl, (Nat.le_of_ble_eq_true rfl), (Nat.le_of_ble_eq_true rfl)⟩ rfl (Nat.le_of_ble_eq_true rfl) (c_reply (cs := cs ++ [fitL a r (lnN s r) (nI q)]) (hcA hc) hr hn1 (p := lnN s r + 1) (by omega) (Nat.le_refl _) (by omega) hm1 h6) ?_
                      rintro _ _ ⟨rfl, rfl⟩
                      refine ⟨_, rfl, ?_⟩
                      exact w_return rfl rfl ⟨rfl, rfl⟩
                · exact absurd (by rw [e6]; exact vv) c26
          · rw [if_neg (fun z => P z.2.2.2.2.1)]
            refine ⟨_, ?_, r1, x1.mono (by omega)⟩
            show pu sc 30 [.ref (7 + 6 * r), .int fr, .ref l] (cset cs a Y, kn) _
            refine w_aload_n rfl rfl ?_
            refine w_getfield rfl (cs7 hc hr) rfl ?_
            refine w_ifCond_ne rfl rfl (fun c4 => ?_) (fun c4 => ?_)
            · exact absurd (e10.trans D) c4
            · refine w_iload_n rfl rfl ?_
              refine w_aload_n rfl rfl ?_
              refine w_getfield rfl (cs7 hc hr) rfl ?_
              refine w_static rfl (by decide) rfl ⟨(Nat.le_of_ble_eq_true rfl), (Nat.le_of_ble_eq_true rfl), (Nat.le_of_ble_eq_true rfl)⟩ rfl (Nat.le_of_ble_eq_true rfl) (c_prim _) ?_
              rintro _ _ ⟨rfl, rfl⟩
              refine ⟨_, rfl, ?_⟩
              refine w_if_icmp_ne rfl rfl (fun c15 => ?_) (fun c15 => ?_)
              · exact absurd (by rw [e6]; exact ff) c15
              · refine w_aload_n rfl rfl ?_
                refine w_getfield rfl ((cset_out (Nat.not_le_of_gt (Nat.lt_of_lt_of_le (by decide) hl))).trans hL) rfl ?_
                refine w_aload_n rfl rfl ?_
                refine w_getfield rfl (cs7 hc hr) rfl ?_
                refine w_if_icmp_eq rfl rfl (fun c26 => ?_) (fun c26 => ?_)
                · refine w_aload_n rfl rfl ?_
                  refine w_aload_n rfl rfl ?_
                  refine w_getfield rfl ((cset_out (Nat.not_le_of_gt (Nat.lt_of_lt_of_le (by decide) hl))).trans hL) rfl ?_
                  refine w_virtual rfl rfl (cs7 hc hr) ⟨(Nat.le_of_ble_eq_true rfl), rfl, (Nat.le_of_ble_eq_true rfl), (Nat.le_of_ble_eq_true rfl)⟩ rfl (Nat.le_of_ble_eq_true rfl) (c_fit hc hr hn h12 (nI q)) ?_
                  rintro _ _ ⟨rfl, rfl⟩
                  refine ⟨_, rfl, ?_⟩
                  refine w_astore_n rfl (Nat.le_of_ble_eq_true rfl) ?_
                  refine w_aload_n rfl rfl ?_
                  refine w_aload_n rfl rfl ?_
                  refine w_virtual rfl rfl ((cset_out (Nat.not_le_of_gt (Nat.lt_of_lt_of_le (by decide) hl))).trans (ga_old hL)) ⟨(Nat.le_of_ble_eq_true rfl), rfl, (Nat.le_of_ble_eq_true rfl), (Nat.le_of_ble_eq_true rfl)⟩ rfl (Nat.le_of_ble_eq_true rfl) (c_spt (h := hx (addC (cs, a, Y, kn) (fitL a r (lnN s r) (nI q)) 7)) ((cset_out (by omega)).trans (ga_old hL)) ((cset_out (by omega)).trans hF)) ?_
                  rintro _ _ ⟨rfl, rfl⟩
                  refine ⟨_, rfl, ?_⟩
                  refine w_ifCond_eq rfl rfl (fun c44 => ?_) (fun c44 => ?_)
                  · replace c44 := b01_f c44
                    exact absurd S c44
                  · replace c44 := b01_t c44
                    refine w_aload_n rfl rfl ?_
                    refine w_getfield rfl (cs7 (hcA hc) hr) rfl ?_
                    refine w_aload_n rfl rfl ?_
                    refine w_getfield rfl ((cset_out (Nat.not_le_of_gt (Nat.lt_of_lt_of_le (by decide) hl))).trans (ga_old hL)) rfl ?_
                    refine w_virtual rfl rfl (cs8 (hcA hc) hr) ⟨(Nat.le_of_ble_eq_true rfl), rfl, (Nat.le_of_ble_eq_true rfl), (Nat.le_of_ble_eq_true rfl)⟩ rfl (Nat.le_of_ble_eq_true rfl) (c_h_pl (hisS (hcA hc) hr hn h12) (nI q)) ?_
                    rintro _ _ ⟨rfl, rfl⟩
                    refine ⟨_, rfl, ?_⟩
                    refine w_ifCond_ne rfl rfl (fun c58 => ?_) (fun c58 => ?_)
                    · exact w_return rfl rfl ⟨rfl, rfl⟩
                    · exact absurd (by rw [← hpf, c58]; decide) P
                · exact absurd (by rw [e6]; exact vv) c26
        · rw [if_neg (fun z => S ⟨by rw [e6]; exact vv, z.2.2.2.1, by rw [hdg]; exact z.2.2.2.2.2⟩)]
          refine ⟨_, ?_, r1, x1.mono (by omega)⟩
          show pu sc 30 [.ref (7 + 6 * r), .int fr, .ref l] (cset cs a Y, kn) _
          refine w_aload_n rfl rfl ?_
          refine w_getfield rfl (cs7 hc hr) rfl ?_
          refine w_ifCond_ne rfl rfl (fun c4 => ?_) (fun c4 => ?_)
          · exact absurd (e10.trans D) c4
          · refine w_iload_n rfl rfl ?_
            refine w_aload_n rfl rfl ?_
            refine w_getfield rfl (cs7 hc hr) rfl ?_
            refine w_static rfl (by decide) rfl ⟨(Nat.le_of_ble_eq_true rfl), (Nat.le_of_ble_eq_true rfl), (Nat.le_of_ble_eq_true rfl)⟩ rfl (Nat.le_of_ble_eq_true rfl) (c_prim _) ?_
            rintro _ _ ⟨rfl, rfl⟩
            refine ⟨_, rfl, ?_⟩
            refine w_if_icmp_ne rfl rfl (fun c15 => ?_) (fun c15 => ?_)
            · exact absurd (by rw [e6]; exact ff) c15
            · refine w_aload_n rfl rfl ?_
              refine w_getfield rfl ((cset_out (Nat.not_le_of_gt (Nat.lt_of_lt_of_le (by decide) hl))).trans hL) rfl ?_
              refine w_aload_n rfl rfl ?_
              refine w_getfield rfl (cs7 hc hr) rfl ?_
              refine w_if_icmp_eq rfl rfl (fun c26 => ?_) (fun c26 => ?_)
              · refine w_aload_n rfl rfl ?_
                refine w_aload_n rfl rfl ?_
                refine w_getfield rfl ((cset_out (Nat.not_le_of_gt (Nat.lt_of_lt_of_le (by decide) hl))).trans hL) rfl ?_
                refine w_virtual rfl rfl (cs7 hc hr) ⟨(Nat.le_of_ble_eq_true rfl), rfl, (Nat.le_of_ble_eq_true rfl), (Nat.le_of_ble_eq_true rfl)⟩ rfl (Nat.le_of_ble_eq_true rfl) (c_fit hc hr hn h12 (nI q)) ?_
                rintro _ _ ⟨rfl, rfl⟩
                refine ⟨_, rfl, ?_⟩
                refine w_astore_n rfl (Nat.le_of_ble_eq_true rfl) ?_
                refine w_aload_n rfl rfl ?_
                refine w_aload_n rfl rfl ?_
                refine w_virtual rfl rfl ((cset_out (Nat.not_le_of_gt (Nat.lt_of_lt_of_le (by decide) hl))).trans (ga_old hL)) ⟨(Nat.le_of_ble_eq_true rfl), rfl, (Nat.le_of_ble_eq_true rfl), (Nat.le_of_ble_eq_true rfl)⟩ rfl (Nat.le_of_ble_eq_true rfl) (c_spt (h := hx (addC (cs, a, Y, kn) (fitL a r (lnN s r) (nI q)) 7)) ((cset_out (by omega)).trans (ga_old hL)) ((cset_out (by omega)).trans hF)) ?_
                rintro _ _ ⟨rfl, rfl⟩
                refine ⟨_, rfl, ?_⟩
                refine w_ifCond_eq rfl rfl (fun c44 => ?_) (fun c44 => ?_)
                · replace c44 := b01_f c44
                  exact w_return rfl rfl ⟨rfl, rfl⟩
                · replace c44 := b01_t c44
                  exact absurd c44 S
              · exact absurd (by rw [e6]; exact vv) c26
      · rw [if_neg (fun z => vv z.2.1)]
        refine ⟨(cs, a, Y, kn), ?_, h, (Ext.rf _).mono (by omega)⟩
        show pu sc 30 [.ref (7 + 6 * r), .int fr, .ref l] (cset cs a Y, kn) _
        refine w_aload_n rfl rfl ?_
        refine w_getfield rfl (cs7 hc hr) rfl ?_
        refine w_ifCond_ne rfl rfl (fun c4 => ?_) (fun c4 => ?_)
        · exact absurd (e10.trans D) c4
        · refine w_iload_n rfl rfl ?_
          refine w_aload_n rfl rfl ?_
          refine w_getfield rfl (cs7 hc hr) rfl ?_
          refine w_static rfl (by decide) rfl ⟨(Nat.le_of_ble_eq_true rfl), (Nat.le_of_ble_eq_true rfl), (Nat.le_of_ble_eq_true rfl)⟩ rfl (Nat.le_of_ble_eq_true rfl) (c_prim _) ?_
          rintro _ _ ⟨rfl, rfl⟩
          refine ⟨_, rfl, ?_⟩
          refine w_if_icmp_ne rfl rfl (fun c15 => ?_) (fun c15 => ?_)
          · exact absurd (by rw [e6]; exact ff) c15
          · refine w_aload_n rfl rfl ?_
            refine w_getfield rfl ((cset_out (Nat.not_le_of_gt (Nat.lt_of_lt_of_le (by decide) hl))).trans hL) rfl ?_
            refine w_aload_n rfl rfl ?_
            refine w_getfield rfl (cs7 hc hr) rfl ?_
            refine w_if_icmp_eq rfl rfl (fun c26 => ?_) (fun c26 => ?_)
            · exact absurd (by rw [← e6]; exact c26) vv
            · exact w_return rfl rfl ⟨rfl, rfl⟩
    · rw [if_neg (fun z => ff (by rw [← z.2.1]; exact z.2.2.1))]
      refine ⟨(cs, a, Y, kn), ?_, h, (Ext.rf _).mono (by omega)⟩
      show pu sc 30 [.ref (7 + 6 * r), .int fr, .ref l] (cset cs a Y, kn) _
      refine w_aload_n rfl rfl ?_
      refine w_getfield rfl (cs7 hc hr) rfl ?_
      refine w_ifCond_ne rfl rfl (fun c4 => ?_) (fun c4 => ?_)
      · exact absurd (e10.trans D) c4
      · refine w_iload_n rfl rfl ?_
        refine w_aload_n rfl rfl ?_
        refine w_getfield rfl (cs7 hc hr) rfl ?_
        refine w_static rfl (by decide) rfl ⟨(Nat.le_of_ble_eq_true rfl), (Nat.le_of_ble_eq_true rfl), (Nat.le_of_ble_eq_true rfl)⟩ rfl (Nat.le_of_ble_eq_true rfl) (c_prim _) ?_
        rintro _ _ ⟨rfl, rfl⟩
        refine ⟨_, rfl, ?_⟩
        refine w_if_icmp_ne rfl rfl (fun c15 => ?_) (fun c15 => ?_)
        · exact w_return rfl rfl ⟨rfl, rfl⟩
        · exact absurd (by rw [← e6]; exact c15) ff
  · rw [if_neg (fun z => D z.1)]
    refine ⟨(cs, a, Y, kn), ?_, h, (Ext.rf _).mono (by omega)⟩
    show pu sc 30 [.ref (7 + 6 * r), .int fr, .ref l] (cset cs a Y, kn) _
    refine w_aload_n rfl rfl ?_
    refine w_getfield rfl (cs7 hc hr) rfl ?_
    refine w_ifCond_ne rfl rfl (fun c4 => ?_) (fun c4 => ?_)
    · exact w_return rfl rfl ⟨rfl, rfl⟩
    · exact absurd (e10.symm.trans c4) D
set_option maxRecDepth 100000 in
set_option maxHeartbeats 1000000 in
theorem c_tPrf {sc : pm_Sc} {s : MS} {c : CX} {t r l p : Nat} {k v q d e : Int32} {y : Option Nat} (h : R s c) (hi : Inv s t) (hr : r < 4) (hp : p ≤ 12) (hl : 74 ≤ l) (hL : c.1[l]? = some (letC k v q (nI p) d e y)) : ∃ c', pu sc 31 [.ref (7 + 6 * r), .ref l] (hx c) (pz none (hx c')) ∧ R (if s.1 10 r = 0 then f_proof s r v p d else s) c' ∧ Ext c c' 2 := by
  obtain ⟨cs, a, Y, kn⟩ := c
  have hc : 73 < cs.length := h.1
  have hn : a.1 7 r = nI (lnN s r) := h.hn hi hr
  have h12 : lnN s r ≤ 12 := (hi.r hr).2.1
  have e6 : a.1 6 r = s.1 6 r := h.a 6 r (by omega)
  have e10 : a.1 10 r = s.1 10 r := h.a 10 r (by omega)
  have hm : a.1 17 0 = nI (mN s) := (h.am hi).1
  have h6 : mN s ≤ 600 := hi.m.2
  have h7 := (hi.r hr).1
  have e9 : a.1 9 r = s.1 9 r := h.a 9 r (by omega)
  by_cases D : s.1 10 r = 0
  · rw [if_pos D]
    unfold f_proof
    by_cases vv : v = s.1 6 r
    · by_cases L : s.1 7 r < nI p
      · rw [if_neg (fun z => z.2.1 L)]
        refine ⟨(cs, a, Y, kn), ?_, h, (Ext.rf _).mono (by omega)⟩
        show pu sc 31 [.ref (7 + 6 * r), .ref l] (cset cs a Y, kn) _
        refine w_aload_n rfl rfl ?_
        refine w_getfield rfl (cs7 hc hr) rfl ?_
        refine w_ifCond_ne rfl rfl (fun c4 => ?_) (fun c4 => ?_)
        · exact absurd (e10.trans D) c4
        · refine w_aload_n rfl rfl ?_
          refine w_getfield rfl ((cset_out (Nat.not_le_of_gt (Nat.lt_of_lt_of_le (by decide) hl))).trans hL) rfl ?_
          refine w_aload_n rfl rfl ?_
          refine w_getfield rfl (cs7 hc hr) rfl ?_
          refine w_if_icmp_ne rfl rfl (fun c15 => ?_) (fun c15 => ?_)
          · exact absurd (by rw [e6]; exact vv) c15
          · refine w_aload_n rfl rfl ?_
            refine w_getfield rfl (cs7 hc hr) rfl ?_
            refine w_getfield rfl (cs8 hc hr) rfl ?_
            refine w_aload_n rfl rfl ?_
            refine w_getfield rfl ((cset_out (Nat.not_le_of_gt (Nat.lt_of_lt_of_le (by decide) hl))).trans hL) rfl ?_
            refine w_if_icmp_ge rfl rfl (fun c29 => ?_) (fun c29 => ?_)
            · rw [hn, ← h7] at c29
              exact absurd (Int32.lt_of_lt_of_le L c29) Int32.lt_irrefl
            · exact w_return rfl rfl ⟨rfl, rfl⟩
      · have hpl : p ≤ lnN s r := by
          rcases Nat.lt_or_ge (lnN s r) p with z | z
          · exact absurd (by rw [h7]; exact nI_lt z (by omega)) L
          · exact z
        have hdg : dgG (fun b => a.1 50 (12 * r + b)) p = digN (s.2 8 r) p := dg_dig (h.2.2.1 r hr).1 _ hpl
        by_cases G : d = digN (s.2 8 r) p
        · rw [if_pos ⟨vv, L, G⟩]
          have r1 : R (up s 9 r (if nI p ≤ s.1 9 r then s.1 9 r else nI p)) (cs, up a 9 r (if nI p ≤ s.1 9 r then s.1 9 r else nI p), Y, kn) := h.fld 9 r _ (by omega)
          have i1 : Inv (up s 9 r (if nI p ≤ s.1 9 r then s.1 9 r else nI p)) t := by
            split
            · obtain ⟨f, f1, f2⟩ := (hi.r hr).2.2.2.1
              rw [f2]; exact inv_fix hi f1
            · exact inv_fix hi hpl
          have r2 := R_send (y := none) (e := 0) (nI r) 4 (r1.addC (letC 4 v (-1) (nI p) d 0 none) 7) i1 (l := cs.length) (by omega) ga_new (by decide)
          have x2 := (ext_addC (c := (cs, up a 9 r (if nI p ≤ s.1 9 r then s.1 9 r else nI p), Y, kn)) hc (m := 7) (by omega) (letC 4 v (-1) (nI p) d 0 none)).tr (ext_snd (hcA hc) (nI r) 4 cs.length)
          refine ⟨_, ?_, r2, ((ext_eq (a := a)).tr x2).mono (by omega)⟩
          show pu sc 31 [.ref (7 + 6 * r), .ref l] (cset cs a Y, kn) _
          refine w_aload_n rfl rfl ?_
          refine w_getfield rfl (cs7 hc hr) rfl ?_
          refine w_ifCond_ne rfl rfl (fun c4 => ?_) (fun c4 => ?_)
          · exact absurd (e10.trans D) c4
          · refine w_aload_n rfl rfl ?_
            refine w_getfield rfl ((cset_out (Nat.not_le_of_gt (Nat.lt_of_lt_of_le (by decide) hl))).trans hL) rfl ?_
            refine w_aload_n rfl rfl ?_
            refine w_getfield rfl (cs7 hc hr) rfl ?_
            refine w_if_icmp_ne rfl rfl (fun c15 => ?_) (fun c15 => ?_)
            · exact absurd (by rw [e6]; exact vv) c15
            · refine w_aload_n rfl rfl ?_
              refine w_getfield rfl (cs7 hc hr) rfl ?_
              refine w_getfield rfl (cs8 hc hr) rfl ?_
              refine w_aload_n rfl rfl ?_
              refine w_getfield rfl ((cset_out (Nat.not_le_of_gt (Nat.lt_of_lt_of_le (by decide) hl))).trans hL) rfl ?_
              refine w_if_icmp_ge rfl rfl (fun c29 => ?_) (fun c29 => ?_)
              · refine w_aload_n rfl rfl ?_
                refine w_getfield rfl (cs7 hc hr) rfl ?_
                refine w_aload_n rfl rfl ?_
                refine w_getfield rfl ((cset_out (Nat.not_le_of_gt (Nat.lt_of_lt_of_le (by decide) hl))).trans hL) rfl ?_
                refine w_virtual rfl rfl (cs8 hc hr) ⟨(Nat.le_of_ble_eq_true rfl), rfl, (Nat.le_of_ble_eq_true rfl), (Nat.le_of_ble_eq_true rfl)⟩ rfl (Nat.le_of_ble_eq_true rfl) (c_h_dig (hisS hc hr hn h12) p (by omega)) ?_
                rintro _ _ ⟨rfl, rfl⟩
                refine ⟨_, rfl, ?_⟩
                rw [Nat.min_eq_left hpl, hdg]
                refine w_aload_n rfl rfl ?_
                refine w_getfield rfl ((cset_out (Nat.not_le_of_gt (Nat.lt_of_lt_of_le (by decide) hl))).trans hL) rfl ?_
                refine w_if_icmp_ne rfl rfl (fun c48 => ?_) (fun c48 => ?_)
                · exact absurd G.symm c48
                · refine w_aload_n rfl rfl ?_
                  refine w_getfield rfl (cs7 hc hr) rfl ?_
                  refine w_aload_n rfl rfl ?_
                  refine w_getfield rfl (cs7 hc hr) rfl ?_
                  refine w_getfield rfl (cs8 hc hr) rfl ?_
                  refine w_aload_n rfl rfl ?_
                  refine w_getfield rfl ((cset_out (Nat.not_le_of_gt (Nat.lt_of_lt_of_le (by decide) hl))).trans hL) rfl ?_
                  refine w_max rfl ⟨(Nat.le_of_ble_eq_true rfl), (Nat.le_of_ble_eq_true rfl)⟩ ?_
                  refine w_cpH (f := 9) rfl hc hr (by decide) rfl ?_
                  rw [e9, mx_eq]
                  refine w_aload_n rfl rfl ?_
                  refine w_getfield rfl (cs7 hc hr) rfl ?_
                  refine w_aload_n rfl rfl ?_
                  refine w_getfield rfl (cs7 hc hr) rfl ?_
                  refine w_iconst (v := 4) rfl (by decide) ?_
                  refine w_cnew rfl hc (Nat.le_of_ble_eq_true rfl) ?_
                  refine w_dup rfl rfl ?_
                  refine w_iconst (v := 4) rfl (by decide) ?_
                  refine w_aload_n rfl rfl ?_
                  refine w_getfield rfl (cs7 (hcA hc) hr) rfl ?_
                  refine w_iconst (v := (-1)) rfl (by decide) ?_
                  refine w_aload_n rfl rfl ?_
                  refine w_getfield rfl ((cset_out (Nat.not_le_of_gt (Nat.lt_of_lt_of_le (by decide) hl))).trans (ga_old hL)) rfl ?_
                  refine w_aload_n rfl rfl ?_
                  refine w_getfield rfl ((cset_out (Nat.not_le_of_gt (Nat.lt_of_lt_of_le (by decide) hl))).trans (ga_old hL)) rfl ?_
                  refine w_iconst (v := 0) rfl (by decide) ?_
                  refine w_aconst_null rfl ?_
                  refine w_special rfl (by decide) rfl ⟨(Nat.le_of_ble_eq_true rfl), (Nat.le_of_ble_eq_true rfl), (Nat.le_of_ble_eq_true rfl)⟩ rfl (Nat.le_of_ble_eq_true rfl) (c_let_initN (hcA hc) (hc30 hc) ga_new _ _ _ _ _ _) ?_
                  rintro _ _ ⟨rfl, rfl⟩
                  refine ⟨_, rfl, ?_⟩
                  rw [set_app]
                  show pw sc 31 (104, _, _, (cset (cs ++ [.inr (2, [.int 4, .int (a.1 6 r), .int (-1), .int (nI p), .int d, .int 0, .null])]) (up a 9 r (if nI p ≤ s.1 9 r then s.1 9 r else nI p)) Y, _)) _
                  rw [e6, ← vv]
                  refine w_virtual rfl rfl (cs2 (hcA hc)) ⟨(Nat.le_of_ble_eq_true rfl), rfl, (Nat.le_of_ble_eq_true rfl), (Nat.le_of_ble_eq_true rfl)⟩ rfl (Nat.le_of_ble_eq_true rfl) (c_send (addC (cs, up a 9 r (if nI p ≤ s.1 9 r then s.1 9 r else nI p), Y, kn) (letC 4 v (-1) (nI p) d 0 none) 7) (hcA hc) (nI r) 4 cs.length hm h6) ?_
                  rintro _ _ ⟨rfl, rfl⟩
                  refine ⟨_, rfl, ?_⟩
                  exact w_return rfl rfl ⟨rfl, rfl⟩
              · exact absurd (by rw [hn]; exact nI_le hpl (by omega)) c29
        · rw [if_neg (fun z => G z.2.2)]
          refine ⟨(cs, a, Y, kn), ?_, h, (Ext.rf _).mono (by omega)⟩
          show pu sc 31 [.ref (7 + 6 * r), .ref l] (cset cs a Y, kn) _
          refine w_aload_n rfl rfl ?_
          refine w_getfield rfl (cs7 hc hr) rfl ?_
          refine w_ifCond_ne rfl rfl (fun c4 => ?_) (fun c4 => ?_)
          · exact absurd (e10.trans D) c4
          · refine w_aload_n rfl rfl ?_
            refine w_getfield rfl ((cset_out (Nat.not_le_of_gt (Nat.lt_of_lt_of_le (by decide) hl))).trans hL) rfl ?_
            refine w_aload_n rfl rfl ?_
            refine w_getfield rfl (cs7 hc hr) rfl ?_
            refine w_if_icmp_ne rfl rfl (fun c15 => ?_) (fun c15 => ?_)
            · exact absurd (by rw [e6]; exact vv) c15
            · refine w_aload_n rfl rfl ?_
              refine w_getfield rfl (cs7 hc hr) rfl ?_
              refine w_getfield rfl (cs8 hc hr) rfl ?_
              refine w_aload_n rfl rfl ?_
              refine w_getfield rfl ((cset_out (Nat.not_le_of_gt (Nat.lt_of_lt_of_le (by decide) hl))).trans hL) rfl ?_
              refine w_if_icmp_ge rfl rfl (fun c29 => ?_) (fun c29 => ?_)
              · refine w_aload_n rfl rfl ?_
                refine w_getfield rfl (cs7 hc hr) rfl ?_
                refine w_aload_n rfl rfl ?_
                refine w_getfield rfl ((cset_out (Nat.not_le_of_gt (Nat.lt_of_lt_of_le (by decide) hl))).trans hL) rfl ?_
                refine w_virtual rfl rfl (cs8 hc hr) ⟨(Nat.le_of_ble_eq_true rfl), rfl, (Nat.le_of_ble_eq_true rfl), (Nat.le_of_ble_eq_true rfl)⟩ rfl (Nat.le_of_ble_eq_true rfl) (c_h_dig (hisS hc hr hn h12) p (by omega)) ?_
                rintro _ _ ⟨rfl, rfl⟩
                refine ⟨_, rfl, ?_⟩
                rw [Nat.min_eq_left hpl, hdg]
                refine w_aload_n rfl rfl ?_
                refine w_getfield rfl ((cset_out (Nat.not_le_of_gt (Nat.lt_of_lt_of_le (by decide) hl))).trans hL) rfl ?_
                refine w_if_icmp_ne rfl rfl (fun c48 => ?_) (fun c48 => ?_)
                · exact w_return rfl rfl ⟨rfl, rfl⟩
                · exact absurd c48.symm G
              · exact absurd (by rw [hn]; exact nI_le hpl (by omega)) c29
    · rw [if_neg (fun z => vv z.1)]
      refine ⟨(cs, a, Y, kn), ?_, h, (Ext.rf _).mono (by omega)⟩
      show pu sc 31 [.ref (7 + 6 * r), .ref l] (cset cs a Y, kn) _
      refine w_aload_n rfl rfl ?_
      refine w_getfield rfl (cs7 hc hr) rfl ?_
      refine w_ifCond_ne rfl rfl (fun c4 => ?_) (fun c4 => ?_)
      · exact absurd (e10.trans D) c4
      · refine w_aload_n rfl rfl ?_
        refine w_getfield rfl ((cset_out (Nat.not_le_of_gt (Nat.lt_of_lt_of_le (by decide) hl))).trans hL) rfl ?_
        refine w_aload_n rfl rfl ?_
        refine w_getfield rfl (cs7 hc hr) rfl ?_
        refine w_if_icmp_ne rfl rfl (fun c15 => ?_) (fun c15 => ?_)
        · exact w_return rfl rfl ⟨rfl, rfl⟩
        · exact absurd (by rw [← e6]; exact c15) vv
  · rw [if_neg D]
    refine ⟨(cs, a, Y, kn), ?_, h, (Ext.rf _).mono (by omega)⟩
    show pu sc 31 [.ref (7 + 6 * r), .ref l] (cset cs a Y, kn) _
    refine w_aload_n rfl rfl ?_
    refine w_getfield rfl (cs7 hc hr) rfl ?_
    refine w_ifCond_ne rfl rfl (fun c4 => ?_) (fun c4 => ?_)
    · exact w_return rfl rfl ⟨rfl, rfl⟩
    · exact absurd (e10.symm.trans c4) D
def usr (x y : Int32) : Int32 := (x.toUInt32 >>> (y.toUInt32 &&& Int32.toUInt32 31)).toInt32
def bc1 (x : Int32) : Int32 := x - (usr x 1 &&& 1431655765)
def bc2 (x : Int32) : Int32 := (x &&& 858993459) + (usr x 2 &&& 858993459)
def bc3 (x : Int32) : Int32 := (x + usr x 4) &&& 252645135
def bc4 (x : Int32) : Int32 := x + usr x 8
def bc5 (x : Int32) : Int32 := x + usr x 16
def bcE (x : Int32) : Int32 := bc5 (bc4 (bc3 (bc2 (bc1 x)))) &&& 63
theorem bc_eq : ∀ b, b < 16 → bcE (nI b) = bitN (nI b) 4 := by decide +kernel
set_option maxRecDepth 100000 in
set_option maxHeartbeats 1000000 in
theorem c_bc {sc : pm_Sc} {h : pm_H} (b : Nat) (hb : b < 16) : pu sc 125 [.int (nI b)] h (pz (some (.int (bitN (nI b) 4))) h) := by
  refine w_iload_n rfl rfl ?_
  refine w_iload_n rfl rfl ?_
  refine w_iconst (v := 1) rfl (by decide) ?_
  refine w_iushr rfl ?_
  refine w_ldc_w (v := 1431655765) rfl (by decide) ?_
  refine w_iand rfl ?_
  refine w_isub rfl ?_
  refine w_istore_n rfl (Nat.le_of_ble_eq_true rfl) ?_
  refine w_iload_n rfl rfl ?_
  refine w_ldc_w (v := 858993459) rfl (by decide) ?_
  refine w_iand rfl ?_
  refine w_iload_n rfl rfl ?_
  refine w_iconst (v := 2) rfl (by decide) ?_
  refine w_iushr rfl ?_
  refine w_ldc_w (v := 858993459) rfl (by decide) ?_
  refine w_iand rfl ?_
  refine w_iadd rfl ?_
  refine w_istore_n rfl (Nat.le_of_ble_eq_true rfl) ?_
  refine w_iload_n rfl rfl ?_
  refine w_iload_n rfl rfl ?_
  refine w_iconst (v := 4) rfl (by decide) ?_
  refine w_iushr rfl ?_
  refine w_iadd rfl ?_
  refine w_ldc_w (v := 252645135) rfl (by decide) ?_
  refine w_iand rfl ?_
  refine w_istore_n rfl (Nat.le_of_ble_eq_true rfl) ?_
  refine w_iload_n rfl rfl ?_
  refine w_iload_n rfl rfl ?_
  refine w_bipush (v := 8) rfl (by decide) ?_
  refine w_iushr rfl ?_
  refine w_iadd rfl ?_
  refine w_istore_n rfl (Nat.le_of_ble_eq_true rfl) ?_
  refine w_iload_n rfl rfl ?_
  refine w_iload_n rfl rfl ?_
  refine w_bipush (v := 16) rfl (by decide) ?_
  refine w_iushr rfl ?_
  refine w_iadd rfl ?_
  refine w_istore_n rfl (Nat.le_of_ble_eq_true rfl) ?_
  refine w_iload_n rfl rfl ?_
  refine w_bipush (v := 63) rfl (by decide) ?_
  refine w_iand rfl ?_
  exact w_ireturn rfl (Or.inl rfl) ⟨congrArg (fun z => Sum.inl (some (Value.int z))) (bc_eq b hb), rfl⟩
