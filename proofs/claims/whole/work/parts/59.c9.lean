-- deps: 58.c8
/-! the kept changes, merged -/
def LtY (cs : List pm_C) (Y : PT) (j y : Nat) : Prop := ∃ l k v q pl d e, Y 12 j = some l ∧ 74 ≤ l ∧ cs[l]? = some (letC k v q pl d e (some y))
def ChO (s : MS) (cs : List pm_C) (Y : PT) (r i : Nat) (w : Option Nat) : Prop := (¬ s.1 13 (4 * r + i) = s.1 6 r ∧ w = none) ∨ (s.1 13 (4 * r + i) = s.1 6 r ∧ ∃ y n, w = some y ∧ s.1 14 (4 * r + i) = nI n ∧ HisX cs y n (s.1 16 (4 * r + i)) (s.2 15 (4 * r + i)) ∧ LtY cs Y (4 * r + i) y)
set_option maxRecDepth 100000 in
set_option maxHeartbeats 1000000 in
theorem ch_n {sc : pm_Sc} {cs : List pm_C} {a : MS} {Y : PT} {kn : Nat × Nat} (hc : 73 < cs.length) {r i : Nat} (hr : r < 4) (hi : i < 4) (hY : Y 12 (4 * r + i) = none) : pu sc 37 [.ref (7 + 6 * r), .int (nI i)] (cset cs a Y, kn) (pz (some .null) (cset cs a Y, kn)) := by
  refine w_aload_n rfl rfl ?_
  refine w_getfield rfl (cs7 hc hr) rfl ?_
  refine w_iload_n rfl rfl ?_
  refine w_halN (j := i) rfl (cs12 hc hr) ⟨by decide, by decide⟩ rfl ⟨show i < 4 from hi, by decide⟩ hY ?_
  refine w_astore_nN rfl (Nat.le_of_ble_eq_true rfl) ?_
  refine w_aload_nN rfl rfl ?_
  refine w_ifnullN rfl rfl ?_
  refine w_aconst_null rfl ?_
  first | exact w_areturn rfl rfl ⟨rfl, rfl⟩ | exact w_areturnN rfl rfl ⟨rfl, rfl⟩
set_option maxRecDepth 100000 in
set_option maxHeartbeats 1000000 in
theorem ch_v {sc : pm_Sc} {cs : List pm_C} {a : MS} {Y : PT} {kn : Nat × Nat} (hc : 73 < cs.length) {r i : Nat} (hr : r < 4) (hi : i < 4) {l : Nat} (h30l : 30 < l) {k v q pl d e : Int32} {y : Nat} (hl : cs[l]? = some (letC k v q pl d e (some y))) (hY : Y 12 (4 * r + i) = some l) (hv : ¬ v = a.1 6 r) : pu sc 37 [.ref (7 + 6 * r), .int (nI i)] (cset cs a Y, kn) (pz (some .null) (cset cs a Y, kn)) := by
  refine w_aload_n rfl rfl ?_
  refine w_getfield rfl (cs7 hc hr) rfl ?_
  refine w_iload_n rfl rfl ?_
  refine w_hal (j := i) rfl (cs12 hc hr) ⟨by decide, by decide⟩ rfl ⟨show i < 4 from hi, by decide⟩ hY ?_
  refine w_astore_n rfl (Nat.le_of_ble_eq_true rfl) ?_
  refine w_aload_n rfl rfl ?_
  refine w_ifnull rfl rfl ?_
  refine w_aload_n rfl rfl ?_
  refine w_getfield rfl ((cset_out (Nat.not_le_of_gt h30l)).trans hl) rfl ?_
  refine w_aload_n rfl rfl ?_
  refine w_getfield rfl (cs7 hc hr) rfl ?_
  refine w_if_icmp_ne rfl rfl (fun c19 => ?_) (fun c19 => ?_)
  · refine w_aconst_null rfl ?_
    first | exact w_areturn rfl rfl ⟨rfl, rfl⟩ | exact w_areturnN rfl rfl ⟨rfl, rfl⟩
  · exact absurd c19 hv
set_option maxRecDepth 100000 in
set_option maxHeartbeats 1000000 in
theorem ch_y {sc : pm_Sc} {cs : List pm_C} {a : MS} {Y : PT} {kn : Nat × Nat} (hc : 73 < cs.length) {r i : Nat} (hr : r < 4) (hi : i < 4) {l : Nat} (h30l : 30 < l) {k v q pl d e : Int32} {y : Nat} (hl : cs[l]? = some (letC k v q pl d e (some y))) (hY : Y 12 (4 * r + i) = some l) (hv : v = a.1 6 r) : pu sc 37 [.ref (7 + 6 * r), .int (nI i)] (cset cs a Y, kn) (pz (some (.ref y)) (cset cs a Y, kn)) := by
  refine w_aload_n rfl rfl ?_
  refine w_getfield rfl (cs7 hc hr) rfl ?_
  refine w_iload_n rfl rfl ?_
  refine w_hal (j := i) rfl (cs12 hc hr) ⟨by decide, by decide⟩ rfl ⟨show i < 4 from hi, by decide⟩ hY ?_
  refine w_astore_n rfl (Nat.le_of_ble_eq_true rfl) ?_
  refine w_aload_n rfl rfl ?_
  refine w_ifnull rfl rfl ?_
  refine w_aload_n rfl rfl ?_
  refine w_getfield rfl ((cset_out (Nat.not_le_of_gt h30l)).trans hl) rfl ?_
  refine w_aload_n rfl rfl ?_
  refine w_getfield rfl (cs7 hc hr) rfl ?_
  refine w_if_icmp_ne rfl rfl (fun c19 => ?_) (fun c19 => ?_)
  · exact absurd hv c19
  · refine w_aload_n rfl rfl ?_
    refine w_getfield rfl ((cset_out (Nat.not_le_of_gt h30l)).trans hl) rfl ?_
    refine w_goto rfl rfl ?_
    first | exact w_areturn rfl rfl ⟨rfl, rfl⟩ | exact w_areturnN rfl rfl ⟨rfl, rfl⟩
theorem c_ch {sc : pm_Sc} {s : MS} {c : CX} {r i : Nat} (h : R s c) (hr : r < 4) (hi : i < 4) (hv : ¬ s.1 6 r = -1) : ∃ w, pu sc 37 [.ref (7 + 6 * r), .int (nI i)] (hx c) (pz (some (pv w)) (hx c)) ∧ ChO s c.1 c.2.2.1 r i w := by
  obtain ⟨cs, a, Y, kn⟩ := c
  have hc : 73 < cs.length := h.1
  have e6 : a.1 6 r = s.1 6 r := h.a 6 r (by omega)
  rcases h.2.2.2.1 (4 * r + i) (by omega) with ⟨e1, e2⟩ | ⟨l, y, q, d, e, n, e1, e2, e3, e4, e5⟩
  · exact ⟨none, ch_n hc hr hi e1, Or.inl ⟨by rw [e2]; exact fun z => hv z.symm, rfl⟩⟩
  · by_cases V : s.1 13 (4 * r + i) = s.1 6 r
    · exact ⟨some y, ch_y hc hr hi (by omega) e3 e1 (by rw [e6]; exact V), Or.inr ⟨V, y, n, rfl, e4, e5, l, _, _, _, _, _, _, e1, e2, e3⟩⟩
    · exact ⟨none, ch_v hc hr hi (by omega) e3 e1 (by rw [e6]; exact V), Or.inl ⟨V, rfl⟩⟩
theorem ChO.out {s : MS} {cs : List pm_C} {a : MS} {Y : PT} {r i y n : Nat} {f : Int32} {x : Int64} (h : HisX cs y n f x) : ∃ q g, His (cset cs a Y) y q n f g ∧ ∀ k, k < n → g k = m_at x (nI k) := by
  obtain ⟨h1, q, g, h2, ⟨h3, h4, h5⟩, h6⟩ := h
  exact ⟨q, g, ⟨(cset_out (by omega)).trans h3, (cset_out (by omega)).trans h4, h5⟩, h6⟩
set_option maxRecDepth 100000 in
set_option maxHeartbeats 1000000 in
theorem l_cc {sc : pm_Sc} {s : MS} {c : CX} {r : Nat} (h : R s c) (hr : r < 4) (hv : ¬ s.1 6 r = -1) : ∀ (d k : Nat) (lv : pm_L), k + d = 4 → pm_ld lv 0 = some (.ref (7 + 6 * r)) → pm_ld lv 1 = some (.int (cntN s r (s.1 6 r) k)) → pm_ld lv 2 = some (.int (nI k)) → pw sc 36 (4, lv, [], hx c) (pz (some (.int (cntN s r (s.1 6 r) 4))) (hx c)) := by
  intro d
  induction d with
  | zero =>
    intro k lv hk g0 g1 g2
    obtain rfl : 4 = k := by omega
    refine w_iload_n rfl g2 ?_
    refine w_iconst (v := 4) rfl (by decide) ?_
    refine w_if_icmp_ge rfl rfl (fun c6 => ?_) (fun c6 => ?_)
    · refine w_iload_n rfl g1 ?_
      exact w_ireturn rfl (by first | exact Or.inl rfl | exact Or.inr ⟨rfl, Or.inl rfl⟩ | exact Or.inr ⟨rfl, Or.inr rfl⟩ | exact Or.inr ⟨rfl, by assumption⟩) ⟨(by first | rfl | (simp only [c6, if_true, if_false, and_true, true_and, and_false, false_and, or_true, true_or, or_false, false_or, not_true_eq_false, not_false_eq_true, ite_self]; done) | (simp only [c6, if_true, if_false, and_true, true_and, and_false, false_and, or_true, true_or, or_false, false_or, not_true_eq_false, not_false_eq_true, ite_self]; rfl)), (by first | rfl | (simp only [c6, if_true, if_false, and_true, true_and, and_false, false_and, or_true, true_or, or_false, false_or, not_true_eq_false, not_false_eq_true, ite_self]; done) | (simp only [c6, if_true, if_false, and_true, true_and, and_false, false_and, or_true, true_or, or_false, false_or, not_true_eq_false, not_false_eq_true, ite_self]; rfl))⟩
    · exact absurd (nI_le (a := 4) (b := 4) (Nat.le_refl _) (by omega)) c6
  | succ d ih =>
    intro k lv hk g0 g1 g2
    obtain ⟨w, hw, ⟨n1, rfl⟩ | ⟨n1, y, n, rfl, n2, n3, n4⟩⟩ := c_ch (sc := sc) h hr (i := k) (by omega) hv
    · refine w_iload_n rfl g2 ?_
      refine w_iconst (v := 4) rfl (by decide) ?_
      refine w_if_icmp_ge rfl rfl (fun c6 => ?_) (fun c6 => ?_)
      · exact absurd c6 (nI_ge (a := k) (b := 4) (by omega) (by omega))
      · refine w_aload_n rfl g0 ?_
        refine w_iload_n rfl g2 ?_
        refine w_virtual rfl rfl (cs7 h.1 hr) ⟨(Nat.le_of_ble_eq_true rfl), rfl, (Nat.le_of_ble_eq_true rfl), (Nat.le_of_ble_eq_true rfl)⟩ rfl (Nat.le_of_ble_eq_true rfl) (hw) ?_
        rintro _ _ ⟨rfl, rfl⟩
        refine ⟨_, rfl, ?_⟩
        refine w_ifnullN rfl rfl ?_
        refine w_iincN (j := k) rfl rfl g2 (Nat.le_of_ble_eq_true rfl) ?_
        refine w_goto rfl rfl ?_
        have e : cntN s r (s.1 6 r) (k + 1) = cntN s r (s.1 6 r) k := by rw [cntN, if_neg n1]; exact Int32.add_zero _
        have ih2 := ih (k + 1)
        rw [e] at ih2
        exact ih2 _ (by omega) (ld_s1 (by decide) g0 (fun _ => rfl)) (ld_s1 (by decide) g1 (fun _ => rfl)) ld_self
    · refine w_iload_n rfl g2 ?_
      refine w_iconst (v := 4) rfl (by decide) ?_
      refine w_if_icmp_ge rfl rfl (fun c6 => ?_) (fun c6 => ?_)
      · exact absurd c6 (nI_ge (a := k) (b := 4) (by omega) (by omega))
      · refine w_aload_n rfl g0 ?_
        refine w_iload_n rfl g2 ?_
        refine w_virtual rfl rfl (cs7 h.1 hr) ⟨(Nat.le_of_ble_eq_true rfl), rfl, (Nat.le_of_ble_eq_true rfl), (Nat.le_of_ble_eq_true rfl)⟩ rfl (Nat.le_of_ble_eq_true rfl) (hw) ?_
        rintro _ _ ⟨rfl, rfl⟩
        refine ⟨_, rfl, ?_⟩
        refine w_ifnull rfl rfl ?_
        refine w_iinc rfl g1 (Nat.le_of_ble_eq_true rfl) rfl ?_
        refine w_iincN (j := k) rfl rfl (ld_s1 (by decide) g2 (fun _ => rfl)) (Nat.le_of_ble_eq_true rfl) ?_
        refine w_goto rfl rfl ?_
        have e : cntN s r (s.1 6 r) (k + 1) = cntN s r (s.1 6 r) k + Int32.ofInt 1 := by rw [cntN, if_pos n1]; rfl
        have ih2 := ih (k + 1)
        rw [e] at ih2
        exact ih2 _ (by omega) (ld_s1 (by decide) (ld_s1 (by decide) g0 (fun _ => rfl)) (fun _ => rfl)) (ld_s1 (by decide) ld_self (fun _ => rfl)) ld_self
set_option maxRecDepth 100000 in
set_option maxHeartbeats 1000000 in
theorem c_cc {sc : pm_Sc} {s : MS} {c : CX} {r : Nat} (h : R s c) (hr : r < 4) (hv : ¬ s.1 6 r = -1) : pu sc 36 [.ref (7 + 6 * r)] (hx c) (pz (some (.int (cntN s r (s.1 6 r) 4))) (hx c)) := by
  refine w_iconst (v := 0) rfl (by decide) ?_
  refine w_istore_n rfl (Nat.le_of_ble_eq_true rfl) ?_
  refine w_iconst (v := 0) rfl (by decide) ?_
  refine w_istore_n rfl (Nat.le_of_ble_eq_true rfl) ?_
  exact l_cc h hr hv 4 0 _ (by omega) rfl rfl rfl
def MF (s : MS) (cs : List pm_C) (Y : PT) (r k : Nat) (w : Option Nat) : Prop := (safN s r k = -1 ∧ w = none) ∨ ∃ b y n, b < k ∧ safN s r k = nI b ∧ s.1 13 (4 * r + b) = s.1 6 r ∧ w = some y ∧ s.1 14 (4 * r + b) = nI n ∧ HisX cs y n (s.1 16 (4 * r + b)) (s.2 15 (4 * r + b)) ∧ LtY cs Y (4 * r + b) y
theorem MF.skip {s : MS} {cs : List pm_C} {Y : PT} {r k : Nat} {w : Option Nat} (h : MF s cs Y r k w) (hn : ¬ (s.1 13 (4 * r + k) = s.1 6 r ∧ (safN s r k < 0 ∨ ¬ s.1 16 (4 * r + k) ≤ s.1 16 (4 * r + (safN s r k).toNatClampNeg)))) : MF s cs Y r (k + 1) w := by
  unfold MF
  rw [safN, if_neg hn]
  rcases h with h | ⟨b, y, n, h1, h2⟩
  · exact Or.inl h
  · exact Or.inr ⟨b, y, n, by omega, h2⟩
theorem MF.take {s : MS} {cs : List pm_C} {Y : PT} {r k y n : Nat} (hn : s.1 13 (4 * r + k) = s.1 6 r ∧ (safN s r k < 0 ∨ ¬ s.1 16 (4 * r + k) ≤ s.1 16 (4 * r + (safN s r k).toNatClampNeg))) (h2 : s.1 14 (4 * r + k) = nI n) (h3 : HisX cs y n (s.1 16 (4 * r + k)) (s.2 15 (4 * r + k))) (h4 : LtY cs Y (4 * r + k) y) : MF s cs Y r (k + 1) (some y) := by
  unfold MF
  rw [safN, if_pos hn]
  exact Or.inr ⟨k, y, n, by omega, rfl, hn.1, rfl, h2, h3, h4⟩
set_option maxRecDepth 100000 in
set_option maxHeartbeats 1000000 in
theorem l_mf {sc : pm_Sc} {s : MS} {c : CX} {r : Nat} (h : R s c) (hr : r < 4) (hv : ¬ s.1 6 r = -1) : ∀ (d k : Nat) (w : Option Nat), k + d = 4 → MF s c.1 c.2.2.1 r k w → ∃ w', MF s c.1 c.2.2.1 r 4 w' ∧ ∀ lv, pm_ld lv 0 = some (.ref (7 + 6 * r)) → pm_ld lv 1 = some (pv w) → pm_ld lv 2 = some (.int (nI k)) → pw sc 39 (4, lv, [], hx c) (pz (some (pv w')) (hx c)) := by
  intro d
  induction d with
  | zero =>
    intro k w hk hm
    obtain rfl : 4 = k := by omega
    refine ⟨w, hm, fun lv g0 g1 g2 => ?_⟩
    cases w with
    | none =>
      refine w_iload_n rfl g2 ?_
      refine w_iconst (v := 4) rfl (by decide) ?_
      refine w_if_icmp_ge rfl rfl (fun c6 => ?_) (fun c6 => ?_)
      · refine w_aload_nN rfl g1 ?_
        first | exact w_areturn rfl rfl ⟨rfl, rfl⟩ | exact w_areturnN rfl rfl ⟨rfl, rfl⟩
      · exact absurd (by decide) c6
    | some y0 =>
      refine w_iload_n rfl g2 ?_
      refine w_iconst (v := 4) rfl (by decide) ?_
      refine w_if_icmp_ge rfl rfl (fun c6 => ?_) (fun c6 => ?_)
      · refine w_aload_n rfl g1 ?_
        first | exact w_areturn rfl rfl ⟨rfl, rfl⟩ | exact w_areturnN rfl rfl ⟨rfl, rfl⟩
      · exact absurd (by decide) c6
  | succ d ih =>
    intro k w hk hm
    obtain ⟨wc, hw, ⟨n1, rfl⟩ | ⟨n1, y, n, rfl, n2, n3, n4⟩⟩ := c_ch (sc := sc) h hr (i := k) (by omega) hv
    · obtain ⟨w', q1, H⟩ := ih (k + 1) w (by omega) (hm.skip (fun z => n1 z.1))
      refine ⟨w', q1, fun lv g0 g1 g2 => ?_⟩
      cases w with
      | none =>
        refine w_iload_n rfl g2 ?_
        refine w_iconst (v := 4) rfl (by decide) ?_
        refine w_if_icmp_ge rfl rfl (fun c6 => ?_) (fun c6 => ?_)
        · exact absurd c6 (nI_ge (a := k) (b := 4) (by omega) (by omega))
        · refine w_aload_n rfl g0 ?_
          refine w_iload_n rfl g2 ?_
          refine w_virtual rfl rfl (cs7 h.1 hr) ⟨(Nat.le_of_ble_eq_true rfl), rfl, (Nat.le_of_ble_eq_true rfl), (Nat.le_of_ble_eq_true rfl)⟩ rfl (Nat.le_of_ble_eq_true rfl) (hw) ?_
          rintro _ _ ⟨rfl, rfl⟩
          refine ⟨_, rfl, ?_⟩
          refine w_astore_nN rfl (Nat.le_of_ble_eq_true rfl) ?_
          refine w_aload_nN rfl ld_self ?_
          refine w_ifnullN rfl rfl ?_
          refine w_iincN (j := k) rfl rfl (ld_s1 (by decide) g2 (fun _ => rfl)) (Nat.le_of_ble_eq_true rfl) ?_
          refine w_goto rfl rfl ?_
          exact H _ (ld_s1 (by decide) (ld_s1 (by decide) g0 (fun _ => rfl)) (fun _ => rfl)) (ld_s1 (by decide) (ld_s1 (by decide) g1 (fun _ => rfl)) (fun _ => rfl)) ld_self
      | some y0 =>
        refine w_iload_n rfl g2 ?_
        refine w_iconst (v := 4) rfl (by decide) ?_
        refine w_if_icmp_ge rfl rfl (fun c6 => ?_) (fun c6 => ?_)
        · exact absurd c6 (nI_ge (a := k) (b := 4) (by omega) (by omega))
        · refine w_aload_n rfl g0 ?_
          refine w_iload_n rfl g2 ?_
          refine w_virtual rfl rfl (cs7 h.1 hr) ⟨(Nat.le_of_ble_eq_true rfl), rfl, (Nat.le_of_ble_eq_true rfl), (Nat.le_of_ble_eq_true rfl)⟩ rfl (Nat.le_of_ble_eq_true rfl) (hw) ?_
          rintro _ _ ⟨rfl, rfl⟩
          refine ⟨_, rfl, ?_⟩
          refine w_astore_nN rfl (Nat.le_of_ble_eq_true rfl) ?_
          refine w_aload_nN rfl ld_self ?_
          refine w_ifnullN rfl rfl ?_
          refine w_iincN (j := k) rfl rfl (ld_s1 (by decide) g2 (fun _ => rfl)) (Nat.le_of_ble_eq_true rfl) ?_
          refine w_goto rfl rfl ?_
          exact H _ (ld_s1 (by decide) (ld_s1 (by decide) g0 (fun _ => rfl)) (fun _ => rfl)) (ld_s1 (by decide) (ld_s1 (by decide) g1 (fun _ => rfl)) (fun _ => rfl)) ld_self
    · obtain ⟨yq, yg, yh, -⟩ := ChO.out (a := c.2.1) (Y := c.2.2.1) (s := s) (r := r) (i := k) n3
      rcases hm with ⟨m1, rfl⟩ | ⟨b, y0, n0, m0, m1, m2, rfl, m3, m4, m5⟩
      · obtain ⟨w', q1, H⟩ := ih (k + 1) (some y) (by omega) (MF.take ⟨n1, Or.inl (by rw [m1]; decide)⟩ n2 n3 n4)
        refine ⟨w', q1, fun lv g0 g1 g2 => ?_⟩
        refine w_iload_n rfl g2 ?_
        refine w_iconst (v := 4) rfl (by decide) ?_
        refine w_if_icmp_ge rfl rfl (fun c6 => ?_) (fun c6 => ?_)
        · exact absurd c6 (nI_ge (a := k) (b := 4) (by omega) (by omega))
        · refine w_aload_n rfl g0 ?_
          refine w_iload_n rfl g2 ?_
          refine w_virtual rfl rfl (cs7 h.1 hr) ⟨(Nat.le_of_ble_eq_true rfl), rfl, (Nat.le_of_ble_eq_true rfl), (Nat.le_of_ble_eq_true rfl)⟩ rfl (Nat.le_of_ble_eq_true rfl) (hw) ?_
          rintro _ _ ⟨rfl, rfl⟩
          refine ⟨_, rfl, ?_⟩
          refine w_astore_n rfl (Nat.le_of_ble_eq_true rfl) ?_
          refine w_aload_n rfl ld_self ?_
          refine w_ifnull rfl rfl ?_
          refine w_aload_nN rfl (ld_s1 (by decide) g1 (fun _ => rfl)) ?_
          refine w_ifnullN rfl rfl ?_
          refine w_aload_n rfl ld_self ?_
          refine w_astore_n rfl (Nat.le_of_ble_eq_true rfl) ?_
          refine w_iincN (j := k) rfl rfl (ld_s1 (by decide) (ld_s1 (by decide) g2 (fun _ => rfl)) (fun _ => rfl)) (Nat.le_of_ble_eq_true rfl) ?_
          refine w_goto rfl rfl ?_
          exact H _ (ld_s1 (by decide) (ld_s1 (by decide) (ld_s1 (by decide) g0 (fun _ => rfl)) (fun _ => rfl)) (fun _ => rfl)) (ld_s1 (by decide) ld_self (fun _ => rfl)) ld_self
      · obtain ⟨zq, zg, zh, -⟩ := ChO.out (a := c.2.1) (Y := c.2.2.1) (s := s) (r := r) (i := b) m4
        have eb : (safN s r k).toNatClampNeg = b := by rw [m1, nI_clamp (by omega)]
        by_cases L : s.1 16 (4 * r + k) ≤ s.1 16 (4 * r + b)
        · obtain ⟨w', q1, H⟩ := ih (k + 1) (some y0) (by omega) (MF.skip (Or.inr ⟨b, y0, n0, m0, m1, m2, rfl, m3, m4, m5⟩) (fun z => by
            rcases z.2 with z2 | z2
            · rw [m1] at z2; exact nI_pos (by omega) z2
            · rw [eb] at z2; exact z2 L))
          refine ⟨w', q1, fun lv g0 g1 g2 => ?_⟩
          refine w_iload_n rfl g2 ?_
          refine w_iconst (v := 4) rfl (by decide) ?_
          refine w_if_icmp_ge rfl rfl (fun c6 => ?_) (fun c6 => ?_)
          · exact absurd c6 (nI_ge (a := k) (b := 4) (by omega) (by omega))
          · refine w_aload_n rfl g0 ?_
            refine w_iload_n rfl g2 ?_
            refine w_virtual rfl rfl (cs7 h.1 hr) ⟨(Nat.le_of_ble_eq_true rfl), rfl, (Nat.le_of_ble_eq_true rfl), (Nat.le_of_ble_eq_true rfl)⟩ rfl (Nat.le_of_ble_eq_true rfl) (hw) ?_
            rintro _ _ ⟨rfl, rfl⟩
            refine ⟨_, rfl, ?_⟩
            refine w_astore_n rfl (Nat.le_of_ble_eq_true rfl) ?_
            refine w_aload_n rfl ld_self ?_
            refine w_ifnull rfl rfl ?_
            refine w_aload_n rfl (ld_s1 (by decide) g1 (fun _ => rfl)) ?_
            refine w_ifnull rfl rfl ?_
            refine w_aload_n rfl ld_self ?_
            refine w_getfield rfl (yh).1 rfl ?_
            refine w_aload_n rfl (ld_s1 (by decide) g1 (fun _ => rfl)) ?_
            refine w_getfield rfl (zh).1 rfl ?_
            refine w_if_icmp_le rfl rfl (fun c31 => ?_) (fun c31 => ?_)
            · refine w_iincN (j := k) rfl rfl (ld_s1 (by decide) g2 (fun _ => rfl)) (Nat.le_of_ble_eq_true rfl) ?_
              refine w_goto rfl rfl ?_
              exact H _ (ld_s1 (by decide) (ld_s1 (by decide) g0 (fun _ => rfl)) (fun _ => rfl)) (ld_s1 (by decide) (ld_s1 (by decide) g1 (fun _ => rfl)) (fun _ => rfl)) ld_self
            · exact absurd L c31
        · obtain ⟨w', q1, H⟩ := ih (k + 1) (some y) (by omega) (MF.take ⟨n1, Or.inr (by rw [eb]; exact L)⟩ n2 n3 n4)
          refine ⟨w', q1, fun lv g0 g1 g2 => ?_⟩
          refine w_iload_n rfl g2 ?_
          refine w_iconst (v := 4) rfl (by decide) ?_
          refine w_if_icmp_ge rfl rfl (fun c6 => ?_) (fun c6 => ?_)
          · exact absurd c6 (nI_ge (a := k) (b := 4) (by omega) (by omega))
          · refine w_aload_n rfl g0 ?_
            refine w_iload_n rfl g2 ?_
            refine w_virtual rfl rfl (cs7 h.1 hr) ⟨(Nat.le_of_ble_eq_true rfl), rfl, (Nat.le_of_ble_eq_true rfl), (Nat.le_of_ble_eq_true rfl)⟩ rfl (Nat.le_of_ble_eq_true rfl) (hw) ?_
            rintro _ _ ⟨rfl, rfl⟩
            refine ⟨_, rfl, ?_⟩
            refine w_astore_n rfl (Nat.le_of_ble_eq_true rfl) ?_
            refine w_aload_n rfl ld_self ?_
            refine w_ifnull rfl rfl ?_
            refine w_aload_n rfl (ld_s1 (by decide) g1 (fun _ => rfl)) ?_
            refine w_ifnull rfl rfl ?_
            refine w_aload_n rfl ld_self ?_
            refine w_getfield rfl (yh).1 rfl ?_
            refine w_aload_n rfl (ld_s1 (by decide) g1 (fun _ => rfl)) ?_
            refine w_getfield rfl (zh).1 rfl ?_
            refine w_if_icmp_le rfl rfl (fun c31 => ?_) (fun c31 => ?_)
            · exact absurd c31 L
            · refine w_aload_n rfl ld_self ?_
              refine w_astore_n rfl (Nat.le_of_ble_eq_true rfl) ?_
              refine w_iincN (j := k) rfl rfl (ld_s1 (by decide) (ld_s1 (by decide) g2 (fun _ => rfl)) (fun _ => rfl)) (Nat.le_of_ble_eq_true rfl) ?_
              refine w_goto rfl rfl ?_
              exact H _ (ld_s1 (by decide) (ld_s1 (by decide) (ld_s1 (by decide) g0 (fun _ => rfl)) (fun _ => rfl)) (fun _ => rfl)) (ld_s1 (by decide) ld_self (fun _ => rfl)) ld_self
set_option maxRecDepth 100000 in
set_option maxHeartbeats 1000000 in
theorem c_mf {sc : pm_Sc} {s : MS} {c : CX} {r : Nat} (h : R s c) (hr : r < 4) (hv : ¬ s.1 6 r = -1) : ∃ w, MF s c.1 c.2.2.1 r 4 w ∧ pu sc 39 [.ref (7 + 6 * r)] (hx c) (pz (some (pv w)) (hx c)) := by
  obtain ⟨w, h1, H⟩ := l_mf (sc := sc) h hr hv 4 0 none (by omega) (Or.inl ⟨rfl, rfl⟩)
  refine ⟨w, h1, ?_⟩
  refine w_aconst_null rfl ?_
  refine w_astore_nN rfl (Nat.le_of_ble_eq_true rfl) ?_
  refine w_iconst (v := 0) rfl (by decide) ?_
  refine w_istore_n rfl (Nat.le_of_ble_eq_true rfl) ?_
  exact H _ rfl rfl rfl
theorem gon_eq {s : MS} {t r i n l : Nat} {x : Int64} {g g' : Nat → Int32} (hx : Row (nqN s) x n) (h13 : s.1 13 (4 * r + i) = s.1 6 r) (h14 : s.1 14 (4 * r + i) = nI l) (hz : Row (nqN s) (s.2 15 (4 * r + i)) l) (hg : ∀ k, k < l → g k = m_at (s.2 15 (4 * r + i)) (nI k)) (hg' : ∀ k, k < n → g' k = m_at x (nI k)) : gON s r i x (nI n) = if n ≤ l ∧ (∀ j, j < n → g j = g' j) then (if n < l then g n else -1) else -1 := by
  have hl := hz.1
  have hn := hx.1
  unfold gON
  by_cases L : n < l
  · have e1 : ¬ s.1 14 (4 * r + i) ≤ nI n := by rw [h14]; exact nI_ge L (by omega)
    obtain ⟨p1, p2⟩ := hz.pre (m := n) (by omega)
    by_cases E : ∀ j, j < n → g j = g' j
    · rw [if_pos ⟨h13, e1, p1.ext hx (fun k hk => by rw [p2 k hk, ← hg k (by omega), ← hg' k hk]; exact E k hk)⟩, if_pos ⟨by omega, E⟩, if_pos L, hg n L]
    · rw [if_neg (fun z => E (fun j hj => by rw [hg j (by omega), hg' j hj, ← z.2.2, p2 j hj])), if_neg (fun z => E z.2)]
  · rw [if_neg (fun z => z.2.1 (by rw [h14]; exact nI_le (by omega) (by omega)))]
    by_cases E : n ≤ l ∧ ∀ j, j < n → g j = g' j
    · rw [if_pos E, if_neg L]
    · rw [if_neg E]
set_option maxRecDepth 100000 in
set_option maxHeartbeats 1000000 in
theorem c_na {sc : pm_Sc} {s : MS} {c : CX} {t r i p q0 n : Nat} {f0 : Int32} {x : Int64} {g : Nat → Int32} (h : R s c) (hinv : Inv s t) (ht : t < 2 ^ 31) (hr : r < 4) (hi : i < 4) (hp : His (hx c).1 p q0 n f0 g) (hrow : Row (nqN s) x n) (hg : ∀ k, k < n → g k = m_at x (nI k)) : pu sc 41 [.ref (7 + 6 * r), .ref p, .int (nI i)] (hx c) (pz (some (.int (gON s r i x (nI n)))) (hx c)) := by
  have hv : ¬ s.1 6 r = -1 := by
    obtain ⟨-, -, -, -, ⟨v, v1, v2⟩, -⟩ := hinv.r hr
    rw [v2]; exact nI_nm1 (by omega)
  have hn12 : n ≤ 12 := hp.2.2
  obtain ⟨w, hw, ⟨n1, rfl⟩ | ⟨n1, y, l, rfl, n2, n3, n4⟩⟩ := c_ch (sc := sc) h hr hi hv
  · have e : gON s r i x (nI n) = -1 := by unfold gON; rw [if_neg (fun z => n1 z.1)]
    rw [e]
    refine w_aload_n rfl rfl ?_
    refine w_iload_n rfl rfl ?_
    refine w_virtual rfl rfl (cs7 h.1 hr) ⟨(Nat.le_of_ble_eq_true rfl), rfl, (Nat.le_of_ble_eq_true rfl), (Nat.le_of_ble_eq_true rfl)⟩ rfl (Nat.le_of_ble_eq_true rfl) (hw) ?_
    rintro _ _ ⟨rfl, rfl⟩
    refine ⟨_, rfl, ?_⟩
    refine w_astore_nN rfl (Nat.le_of_ble_eq_true rfl) ?_
    refine w_aload_nN rfl rfl ?_
    refine w_ifnullN rfl rfl ?_
    refine w_iconst (v := (-1)) rfl (by decide) ?_
    exact w_ireturn rfl (by first | exact Or.inl rfl | exact Or.inr ⟨rfl, Or.inl rfl⟩ | exact Or.inr ⟨rfl, Or.inr rfl⟩ | exact Or.inr ⟨rfl, by assumption⟩) ⟨(by first | rfl | (simp only [if_true, if_false, and_true, true_and, and_false, false_and, or_true, true_or, or_false, false_or, not_true_eq_false, not_false_eq_true, ite_self]; done) | (simp only [if_true, if_false, and_true, true_and, and_false, false_and, or_true, true_or, or_false, false_or, not_true_eq_false, not_false_eq_true, ite_self]; rfl)), (by first | rfl | (simp only [if_true, if_false, and_true, true_and, and_false, false_and, or_true, true_or, or_false, false_or, not_true_eq_false, not_false_eq_true, ite_self]; done) | (simp only [if_true, if_false, and_true, true_and, and_false, false_and, or_true, true_or, or_false, false_or, not_true_eq_false, not_false_eq_true, ite_self]; rfl))⟩
  · obtain ⟨l', f', k1, k2, k3, k4⟩ := hinv.kr ht hr hi n1
    obtain ⟨yq, yg, yh, yg2⟩ := ChO.out (a := c.2.1) (Y := c.2.2.1) (s := s) (r := r) (i := i) n3
    have hl12 : l ≤ 12 := yh.2.2
    have el : l' = l := (nI_eq (by have := k4.1; omega) (by omega)).mp (k1.symm.trans n2)
    subst el
    rw [gon_eq (t := t) hrow n1 n2 k4 yg2 hg]
    by_cases B : n ≤ l' ∧ ∀ j, j < n → yg j = g j
    · rw [if_pos B]
      refine w_aload_n rfl rfl ?_
      refine w_iload_n rfl rfl ?_
      refine w_virtual rfl rfl (cs7 h.1 hr) ⟨(Nat.le_of_ble_eq_true rfl), rfl, (Nat.le_of_ble_eq_true rfl), (Nat.le_of_ble_eq_true rfl)⟩ rfl (Nat.le_of_ble_eq_true rfl) (hw) ?_
      rintro _ _ ⟨rfl, rfl⟩
      refine ⟨_, rfl, ?_⟩
      refine w_astore_n rfl (Nat.le_of_ble_eq_true rfl) ?_
      refine w_aload_n rfl rfl ?_
      refine w_ifnull rfl rfl ?_
      refine w_aload_n rfl rfl ?_
      refine w_aload_n rfl rfl ?_
      refine w_virtual rfl rfl (yh).1 ⟨(Nat.le_of_ble_eq_true rfl), rfl, (Nat.le_of_ble_eq_true rfl), (Nat.le_of_ble_eq_true rfl)⟩ rfl (Nat.le_of_ble_eq_true rfl) (c_h_bg (h := hx c) yh hp) ?_
      rintro _ _ ⟨rfl, rfl⟩
      refine ⟨_, rfl, ?_⟩
      rw [if_pos B]
      refine w_ifCond_eq rfl rfl (fun c15 => ?_) (fun c15 => ?_)
      · exact absurd c15 (by decide)
      · refine w_aload_n rfl rfl ?_
        refine w_aload_n rfl rfl ?_
        refine w_getfield rfl hp.1 rfl ?_
        refine w_virtual rfl rfl (yh).1 ⟨(Nat.le_of_ble_eq_true rfl), rfl, (Nat.le_of_ble_eq_true rfl), (Nat.le_of_ble_eq_true rfl)⟩ rfl (Nat.le_of_ble_eq_true rfl) (c_h_at (h := hx c) yh n (by omega)) ?_
        rintro _ _ ⟨rfl, rfl⟩
        refine ⟨_, rfl, ?_⟩
        refine w_goto rfl rfl ?_
        exact w_ireturn rfl (by first | exact Or.inl rfl | exact Or.inr ⟨rfl, Or.inl rfl⟩ | exact Or.inr ⟨rfl, Or.inr rfl⟩ | exact Or.inr ⟨rfl, by assumption⟩) ⟨(by first | rfl | (simp only [c15, if_true, if_false, and_true, true_and, and_false, false_and, or_true, true_or, or_false, false_or, not_true_eq_false, not_false_eq_true, ite_self]; done) | (simp only [c15, if_true, if_false, and_true, true_and, and_false, false_and, or_true, true_or, or_false, false_or, not_true_eq_false, not_false_eq_true, ite_self]; rfl)), (by first | rfl | (simp only [c15, if_true, if_false, and_true, true_and, and_false, false_and, or_true, true_or, or_false, false_or, not_true_eq_false, not_false_eq_true, ite_self]; done) | (simp only [c15, if_true, if_false, and_true, true_and, and_false, false_and, or_true, true_or, or_false, false_or, not_true_eq_false, not_false_eq_true, ite_self]; rfl))⟩
    · rw [if_neg B]
      refine w_aload_n rfl rfl ?_
      refine w_iload_n rfl rfl ?_
      refine w_virtual rfl rfl (cs7 h.1 hr) ⟨(Nat.le_of_ble_eq_true rfl), rfl, (Nat.le_of_ble_eq_true rfl), (Nat.le_of_ble_eq_true rfl)⟩ rfl (Nat.le_of_ble_eq_true rfl) (hw) ?_
      rintro _ _ ⟨rfl, rfl⟩
      refine ⟨_, rfl, ?_⟩
      refine w_astore_n rfl (Nat.le_of_ble_eq_true rfl) ?_
      refine w_aload_n rfl rfl ?_
      refine w_ifnull rfl rfl ?_
      refine w_aload_n rfl rfl ?_
      refine w_aload_n rfl rfl ?_
      refine w_virtual rfl rfl (yh).1 ⟨(Nat.le_of_ble_eq_true rfl), rfl, (Nat.le_of_ble_eq_true rfl), (Nat.le_of_ble_eq_true rfl)⟩ rfl (Nat.le_of_ble_eq_true rfl) (c_h_bg (h := hx c) yh hp) ?_
      rintro _ _ ⟨rfl, rfl⟩
      refine ⟨_, rfl, ?_⟩
      rw [if_neg B]
      refine w_ifCond_eq rfl rfl (fun c15 => ?_) (fun c15 => ?_)
      · refine w_iconst (v := (-1)) rfl (by decide) ?_
        exact w_ireturn rfl (by first | exact Or.inl rfl | exact Or.inr ⟨rfl, Or.inl rfl⟩ | exact Or.inr ⟨rfl, Or.inr rfl⟩ | exact Or.inr ⟨rfl, by assumption⟩) ⟨(by first | rfl | (simp only [(eq_true c15), if_true, if_false, and_true, true_and, and_false, false_and, or_true, true_or, or_false, false_or, not_true_eq_false, not_false_eq_true, ite_self]; done) | (simp only [(eq_true c15), if_true, if_false, and_true, true_and, and_false, false_and, or_true, true_or, or_false, false_or, not_true_eq_false, not_false_eq_true, ite_self]; rfl)), (by first | rfl | (simp only [(eq_true c15), if_true, if_false, and_true, true_and, and_false, false_and, or_true, true_or, or_false, false_or, not_true_eq_false, not_false_eq_true, ite_self]; done) | (simp only [(eq_true c15), if_true, if_false, and_true, true_and, and_false, false_and, or_true, true_or, or_false, false_or, not_true_eq_false, not_false_eq_true, ite_self]; rfl))⟩
      · exact absurd (by decide) c15
