-- deps: 54.c4
/-! requests and the client -/
theorem RP.out {cs : List pm_C} {a : MS} {Y : PT} {s : MS} {q u : Nat} {w : Option Nat} (h : RP cs s q u w) : RP (cset cs a Y) s q u w := by
  rcases h with h | ⟨l, y, b1, b2, b3, b4⟩
  · exact Or.inl h
  · exact Or.inr ⟨l, y, b1, b2, (cset_out (by omega)).trans b3, b4⟩
theorem RH.out {cs : List pm_C} {a : MS} {Y : PT} {s : MS} {u : Nat} (h : RH cs Y s u) : RH (cset cs a Y) Y s u := by
  rcases h with h | ⟨l, k, q, e, y, b1, b2, b3⟩
  · exact Or.inl h
  · exact Or.inr ⟨l, k, q, e, y, b1, b2, (cset_out (by omega)).trans b3⟩
theorem alk_iff {s : MS} {q r i : Nat} (h : ¬ s.1 30 (4 * q + r) < 0) : ((s.1 30 (4 * q + i) = s.1 30 (4 * q + r) ∧ s.1 31 (4 * q + i) = s.1 31 (4 * q + r) ∧ s.1 32 (4 * q + i) = s.1 32 (4 * q + r)) ∧ nI q = nI q ∧ s.1 33 (4 * q + i) = s.1 33 (4 * q + r)) ↔ alk s (4 * q + r) (4 * q + i) := by
  constructor
  · rintro ⟨⟨h1, h2, h3⟩, -, h4⟩
    exact ⟨h, h1.symm, h2.symm, h3.symm, h4.symm⟩
  · rintro ⟨-, h1, h2, h3, h4⟩
    exact ⟨⟨h1.symm, h2.symm, h3.symm⟩, rfl, h4.symm⟩
theorem m1_lt : (-1 : Int32) < 0 := by decide
def fqN (s : MS) (q M : Nat) : Nat → Nat → Nat
  | 0, r => r
  | d + 1, r => if nI M ≤ alN s q r 4 then r else fqN s q M d (r + 1)
theorem fq_fr (s : MS) (q : Nat) : ∀ d r, fqN s q 3 d r = frN s q d r
  | 0, r => rfl
  | d + 1, r => by
    rw [fqN, frN, fq_fr s q d (r + 1)]; rfl
theorem fq_le (s : MS) (q M : Nat) : ∀ d r, fqN s q M d r ≤ r + d
  | 0, r => Nat.le_refl _
  | d + 1, r => by
    rw [fqN]; split
    · omega
    · have := fq_le s q M d (r + 1); omega
def alC (s : MS) (q r : Nat) : Nat → Nat
  | 0 => 0
  | t + 1 => alC s q r t + (if alk s (4 * q + r) (4 * q + t) then 1 else 0)
theorem alC_le (s : MS) (q r : Nat) : ∀ t, alC s q r t ≤ t
  | 0 => Nat.le_refl _
  | t + 1 => by rw [alC]; have := alC_le s q r t; split <;> omega
theorem alN_n (s : MS) (q r : Nat) : ∀ t, alN s q r t = nI (alC s q r t)
  | 0 => rfl
  | t + 1 => by
    rw [alN, alC, alN_n s q r t]
    split
    · rw [← nI_add]; rfl
    · rw [Nat.add_zero]; exact Int32.add_zero _
theorem alC_all {s : MS} {q r : Nat} : ∀ t, alC s q r t = t → ∀ u, u < t → alk s (4 * q + r) (4 * q + u)
  | 0, _, u, hu => by omega
  | t + 1, h, u, hu => by
    rw [alC] at h
    have h1 := alC_le s q r t
    by_cases e : alk s (4 * q + r) (4 * q + t)
    · rw [if_pos e] at h
      by_cases eu : u = t
      · subst eu; exact e
      · exact alC_all t (by omega) u (by omega)
    · rw [if_neg e] at h; omega
theorem alC_of {s : MS} {q r : Nat} : ∀ t, (∀ u, u < t → alk s (4 * q + r) (4 * q + u)) → alC s q r t = t
  | 0, _ => rfl
  | t + 1, h => by rw [alC, if_pos (h t (by omega)), alC_of t (fun u hu => h u (by omega))]
theorem al_4 {s : MS} {q r : Nat} (h : nI 4 ≤ alN s q r 4) (hr : r < 4) : alN s q 0 4 = 4 := by
  have h1 := alC_le s q r 4
  rw [alN_n] at h
  have h4 : alC s q r 4 = 4 := by
    rcases Nat.lt_or_ge (alC s q r 4) 4 with g | g
    · exact absurd h (nI_ge g (by omega))
    · omega
  have ha := alC_all 4 h4
  rw [alN_n, alC_of 4 (fun u hu => ?_)]
  · rfl
  · obtain ⟨b0, b1, b2, b3, b4⟩ := ha 0 (by omega)
    obtain ⟨c0, c1, c2, c3, c4⟩ := ha u hu
    rw [Nat.add_zero] at b1 b2 b3 b4
    rw [Nat.add_zero]
    exact ⟨by rw [← b1]; exact b0, b1.symm.trans c1, b2.symm.trans c2, b3.symm.trans c3, b4.symm.trans c4⟩
theorem fq_4 (s : MS) (q : Nat) : fqN s q 4 4 0 = if alN s q 0 4 = 4 then 0 else 4 := by
  by_cases h : alN s q 0 4 = 4
  · rw [if_pos h, fqN, if_pos (by rw [h]; decide)]
  · rw [if_neg h]
    have hn : ∀ r, r < 4 → ¬ nI 4 ≤ alN s q r 4 := fun r hr z => h (al_4 z hr)
    rw [fqN, if_neg (hn 0 (by omega)), fqN, if_neg (hn 1 (by omega)), fqN, if_neg (hn 2 (by omega)), fqN, if_neg (hn 3 (by omega)), fqN]
theorem fq_some {s : MS} {q M : Nat} (hM : 1 ≤ M ∧ M < 100) : ∀ d r, fqN s q M d r < r + d → ¬ s.1 30 (4 * q + fqN s q M d r) < 0
  | 0, r, h => by rw [fqN] at h; omega
  | d + 1, r, h => by
    rw [fqN] at h ⊢
    by_cases e : nI M ≤ alN s q r 4
    · rw [if_pos e]
      intro z
      rw [alN_neg z] at e
      exact absurd e (nI_ge (a := 0) (b := M) (by omega) (by omega))
    · rw [if_neg e] at h ⊢
      exact fq_some hM d (r + 1) (by omega)
theorem ak_0 {s : MS} {q : Nat} (h : s.1 37 q = 0) : ∀ t, akN s q t = 0
  | 0 => rfl
  | t + 1 => by rw [akN, if_neg (fun z => z.1 h), ak_0 h t]; rfl
set_option maxRecDepth 100000 in
set_option maxHeartbeats 400000 in
theorem l_cRep {sc : pm_Sc} {h : pm_H} {s : MS} {q p : Nat} {x0 x1 x2 x4 x5 x6 x7 : Value} {g : Nat → Option Nat} (hp : h.1[p]? = some (.inr (6, [x0, x1, x2, .ref (p + 1), x4, x5, x6, x7]))) (ha : h.1[p + 1]? = some (arrC g)) (hP : ∀ u, u < 4 → RP h.1 s q u (g u)) : ∀ (d k : Nat) (lv : pm_L), k + d = 4 → pm_ld lv 0 = some (.ref p) → pm_ld lv 1 = some (.int (rpN s q k)) → pm_ld lv 2 = some (.int (nI k)) → pw sc 53 (4, lv, [], h) (pz (some (.int (rpN s q 4))) h) := by
  intro d
  induction d with
  | zero =>
    intro k lv hk g0 g1 g2
    obtain rfl : 4 = k := by omega
    refine w_iload_n rfl g2 ?_
    refine w_iconst (v := 4) rfl (by decide) ?_
    refine w_if_icmp_ge rfl rfl (fun c6 => ?_) (fun c6 => ?_)
    · refine w_iload_n rfl g1 ?_
      exact w_ireturn rfl (by first | exact Or.inl rfl | exact Or.inr ⟨rfl, Or.inl rfl⟩ | exact Or.inr ⟨rfl, Or.inr rfl⟩ | exact Or.inr ⟨rfl, by assumption⟩) ⟨(by first | rfl | (simp only [c6, if_true, if_false, and_true, true_and, and_false, false_and, or_true, true_or, or_false, false_or, not_true_eq_false, not_false_eq_true, ite_self]; done) | (simp only [c6, if_true, if_false, and_true, true_and, and_false, false_and, or_true, true_or, or_false, false_or, not_true_eq_false, not_false_eq_true, ite_self]; rfl)), (by first | rfl | (simp only [c6, if_true, if_false, and_true, true_and, and_false, false_and, or_true, true_or, or_false, false_or, not_true_eq_false, not_false_eq_true, ite_self]; done) | (simp only [c6, if_true, if_false, and_true, true_and, and_false, false_and, or_true, true_or, or_false, false_or, not_true_eq_false, not_false_eq_true, ite_self]; rfl))⟩
    · exact absurd (nI_le (a := 4) (b := 4) (Nat.le_refl _) (by omega)) c6
  | succ d ih =>
    intro k lv hk g0 g1 g2
    rcases hP k (by omega) with ⟨e1, e2⟩ | ⟨l, y, e1, e2, e3, e4⟩
    · refine w_iload_n rfl g2 ?_
      refine w_iconst (v := 4) rfl (by decide) ?_
      refine w_if_icmp_ge rfl rfl (fun c6 => ?_) (fun c6 => ?_)
      · exact absurd c6 (nI_ge (a := k) (b := 4) (by omega) (by omega))
      · refine w_aload_n rfl g0 ?_
        refine w_getfield rfl hp rfl ?_
        refine w_iload_n rfl g2 ?_
        refine w_halN (j := k) rfl ha ⟨by decide, by decide⟩ rfl ⟨show k < 4 from by omega, by decide⟩ e1 ?_
        refine w_ifnullN rfl rfl ?_
        refine w_iincN (j := k) rfl rfl g2 (Nat.le_of_ble_eq_true rfl) ?_
        refine w_goto rfl rfl ?_
        have e : rpN s q (k + 1) = rpN s q k := by rw [rpN, if_pos (by rw [e2]; exact m1_lt)]; exact Int32.add_zero _
        have ih2 := ih (k + 1)
        rw [e] at ih2
        exact ih2 _ (by omega) (ld_s1 (by decide) g0 (fun _ => rfl)) (ld_s1 (by decide) g1 (fun _ => rfl)) ld_self
    · refine w_iload_n rfl g2 ?_
      refine w_iconst (v := 4) rfl (by decide) ?_
      refine w_if_icmp_ge rfl rfl (fun c6 => ?_) (fun c6 => ?_)
      · exact absurd c6 (nI_ge (a := k) (b := 4) (by omega) (by omega))
      · refine w_aload_n rfl g0 ?_
        refine w_getfield rfl hp rfl ?_
        refine w_iload_n rfl g2 ?_
        refine w_hal (j := k) rfl ha ⟨by decide, by decide⟩ rfl ⟨show k < 4 from by omega, by decide⟩ e1 ?_
        refine w_ifnull rfl rfl ?_
        refine w_iinc rfl g1 (Nat.le_of_ble_eq_true rfl) rfl ?_
        refine w_iincN (j := k) rfl rfl (ld_s1 (by decide) g2 (fun _ => rfl)) (Nat.le_of_ble_eq_true rfl) ?_
        refine w_goto rfl rfl ?_
        have e : rpN s q (k + 1) = rpN s q k + Int32.ofInt 1 := by rw [rpN, if_neg e4]; rfl
        have ih2 := ih (k + 1)
        rw [e] at ih2
        exact ih2 _ (by omega) (ld_s1 (by decide) (ld_s1 (by decide) g0 (fun _ => rfl)) (fun _ => rfl)) (ld_s1 (by decide) ld_self (fun _ => rfl)) ld_self
set_option maxRecDepth 100000 in
set_option maxHeartbeats 400000 in
theorem c_cRep {sc : pm_Sc} {h : pm_H} {s : MS} {q p : Nat} {x0 x1 x2 x4 x5 x6 x7 : Value} {g : Nat → Option Nat} (hp : h.1[p]? = some (.inr (6, [x0, x1, x2, .ref (p + 1), x4, x5, x6, x7]))) (ha : h.1[p + 1]? = some (arrC g)) (hP : ∀ u, u < 4 → RP h.1 s q u (g u)) : pu sc 53 [.ref p] h (pz (some (.int (rpN s q 4))) h) := by
  refine w_iconst (v := 0) rfl (by decide) ?_
  refine w_istore_n rfl (Nat.le_of_ble_eq_true rfl) ?_
  refine w_iconst (v := 0) rfl (by decide) ?_
  refine w_istore_n rfl (Nat.le_of_ble_eq_true rfl) ?_
  exact l_cRep hp ha hP 4 0 _ (by omega) rfl rfl rfl
set_option maxRecDepth 100000 in
set_option maxHeartbeats 400000 in
theorem l_cLike {sc : pm_Sc} {h : pm_H} {s : MS} {q p : Nat} {x0 x1 x2 x4 x5 x6 x7 : Value} {g : Nat → Option Nat} (hp : h.1[p]? = some (.inr (6, [x0, x1, x2, .ref (p + 1), x4, x5, x6, x7]))) (ha : h.1[p + 1]? = some (arrC g)) (hP : ∀ u, u < 4 → RP h.1 s q u (g u)) {r lr : Nat} {yr : Option Nat} (hl : h.1[lr]? = some (letC 2 (s.1 30 (4 * q + r)) (nI q) (s.1 31 (4 * q + r)) (s.1 32 (4 * q + r)) (s.1 33 (4 * q + r)) yr)) (hpos : ¬ s.1 30 (4 * q + r) < 0) : ∀ (d k : Nat) (lv : pm_L), k + d = 4 → pm_ld lv 0 = some (.ref p) → pm_ld lv 1 = some (.ref lr) → pm_ld lv 2 = some (.int (alN s q r k)) → pm_ld lv 3 = some (.int (nI k)) → pw sc 50 (4, lv, [], h) (pz (some (.int (alN s q r 4))) h) := by
  intro d
  induction d with
  | zero =>
    intro k lv hk g0 g1 g2 g3
    obtain rfl : 4 = k := by omega
    refine w_iload_n rfl g3 ?_
    refine w_iconst (v := 4) rfl (by decide) ?_
    refine w_if_icmp_ge rfl rfl (fun c6 => ?_) (fun c6 => ?_)
    · refine w_iload_n rfl g2 ?_
      exact w_ireturn rfl (by first | exact Or.inl rfl | exact Or.inr ⟨rfl, Or.inl rfl⟩ | exact Or.inr ⟨rfl, Or.inr rfl⟩ | exact Or.inr ⟨rfl, by assumption⟩) ⟨(by first | rfl | (simp only [c6, if_true, if_false, and_true, true_and, and_false, false_and, or_true, true_or, or_false, false_or, not_true_eq_false, not_false_eq_true, ite_self]; done) | (simp only [c6, if_true, if_false, and_true, true_and, and_false, false_and, or_true, true_or, or_false, false_or, not_true_eq_false, not_false_eq_true, ite_self]; rfl)), (by first | rfl | (simp only [c6, if_true, if_false, and_true, true_and, and_false, false_and, or_true, true_or, or_false, false_or, not_true_eq_false, not_false_eq_true, ite_self]; done) | (simp only [c6, if_true, if_false, and_true, true_and, and_false, false_and, or_true, true_or, or_false, false_or, not_true_eq_false, not_false_eq_true, ite_self]; rfl))⟩
    · exact absurd (nI_le (a := 4) (b := 4) (Nat.le_refl _) (by omega)) c6
  | succ d ih =>
    intro k lv hk g0 g1 g2 g3
    rcases hP k (by omega) with ⟨e1, e2⟩ | ⟨l, y, e1, e2, e3, e4⟩
    · refine w_iload_n rfl g3 ?_
      refine w_iconst (v := 4) rfl (by decide) ?_
      refine w_if_icmp_ge rfl rfl (fun c6 => ?_) (fun c6 => ?_)
      · exact absurd c6 (nI_ge (a := k) (b := 4) (by omega) (by omega))
      · refine w_aload_n rfl g0 ?_
        refine w_getfield rfl hp rfl ?_
        refine w_iload_n rfl g3 ?_
        refine w_halN (j := k) rfl ha ⟨by decide, by decide⟩ rfl ⟨show k < 4 from by omega, by decide⟩ e1 ?_
        refine w_ifnullN rfl rfl ?_
        refine w_iincN (j := k) rfl rfl g3 (Nat.le_of_ble_eq_true rfl) ?_
        refine w_goto rfl rfl ?_
        have e : alN s q r (k + 1) = alN s q r k := by rw [alN, if_neg (fun z => hpos (by rw [z.2.1, e2]; exact m1_lt))]; exact Int32.add_zero _
        have ih2 := ih (k + 1)
        rw [e] at ih2
        exact ih2 _ (by omega) (ld_s1 (by decide) g0 (fun _ => rfl)) (ld_s1 (by decide) g1 (fun _ => rfl)) (ld_s1 (by decide) g2 (fun _ => rfl)) ld_self
    · refine w_iload_n rfl g3 ?_
      refine w_iconst (v := 4) rfl (by decide) ?_
      refine w_if_icmp_ge rfl rfl (fun c6 => ?_) (fun c6 => ?_)
      · exact absurd c6 (nI_ge (a := k) (b := 4) (by omega) (by omega))
      · refine w_aload_n rfl g0 ?_
        refine w_getfield rfl hp rfl ?_
        refine w_iload_n rfl g3 ?_
        refine w_hal (j := k) rfl ha ⟨by decide, by decide⟩ rfl ⟨show k < 4 from by omega, by decide⟩ e1 ?_
        refine w_ifnull rfl rfl ?_
        refine w_aload_n rfl g0 ?_
        refine w_getfield rfl hp rfl ?_
        refine w_iload_n rfl g3 ?_
        refine w_hal (j := k) rfl ha ⟨by decide, by decide⟩ rfl ⟨show k < 4 from by omega, by decide⟩ e1 ?_
        refine w_aload_n rfl g1 ?_
        refine w_virtual rfl rfl e3 ⟨(Nat.le_of_ble_eq_true rfl), rfl, (Nat.le_of_ble_eq_true rfl), (Nat.le_of_ble_eq_true rfl)⟩ rfl (Nat.le_of_ble_eq_true rfl) (c_srp e3 hl) ?_
        rintro _ _ ⟨rfl, rfl⟩
        refine ⟨_, rfl, ?_⟩
        refine w_ifCond_eq rfl rfl (fun c28 => ?_) (fun c28 => ?_)
        · replace c28 := b01_f c28
          refine w_iincN (j := k) rfl rfl g3 (Nat.le_of_ble_eq_true rfl) ?_
          refine w_goto rfl rfl ?_
          have e : alN s q r (k + 1) = alN s q r k := by rw [alN, if_neg (fun z => c28 ((alk_iff hpos).mpr z))]; exact Int32.add_zero _
          have ih2 := ih (k + 1)
          rw [e] at ih2
          exact ih2 _ (by omega) (ld_s1 (by decide) g0 (fun _ => rfl)) (ld_s1 (by decide) g1 (fun _ => rfl)) (ld_s1 (by decide) g2 (fun _ => rfl)) ld_self
        · replace c28 := b01_t c28
          refine w_iinc rfl g2 (Nat.le_of_ble_eq_true rfl) rfl ?_
          refine w_iincN (j := k) rfl rfl (ld_s1 (by decide) g3 (fun _ => rfl)) (Nat.le_of_ble_eq_true rfl) ?_
          refine w_goto rfl rfl ?_
          have e : alN s q r (k + 1) = alN s q r k + Int32.ofInt 1 := by rw [alN, if_pos ((alk_iff hpos).mp c28)]; rfl
          have ih2 := ih (k + 1)
          rw [e] at ih2
          exact ih2 _ (by omega) (ld_s1 (by decide) (ld_s1 (by decide) g0 (fun _ => rfl)) (fun _ => rfl)) (ld_s1 (by decide) (ld_s1 (by decide) g1 (fun _ => rfl)) (fun _ => rfl)) (ld_s1 (by decide) ld_self (fun _ => rfl)) ld_self
set_option maxRecDepth 100000 in
set_option maxHeartbeats 400000 in
theorem c_cLike {sc : pm_Sc} {h : pm_H} {s : MS} {q p : Nat} {x0 x1 x2 x4 x5 x6 x7 : Value} {g : Nat → Option Nat} (hp : h.1[p]? = some (.inr (6, [x0, x1, x2, .ref (p + 1), x4, x5, x6, x7]))) (ha : h.1[p + 1]? = some (arrC g)) (hP : ∀ u, u < 4 → RP h.1 s q u (g u)) {r lr : Nat} {yr : Option Nat} (hl : h.1[lr]? = some (letC 2 (s.1 30 (4 * q + r)) (nI q) (s.1 31 (4 * q + r)) (s.1 32 (4 * q + r)) (s.1 33 (4 * q + r)) yr)) (hpos : ¬ s.1 30 (4 * q + r) < 0) : pu sc 50 [.ref p, .ref lr] h (pz (some (.int (alN s q r 4))) h) := by
  refine w_iconst (v := 0) rfl (by decide) ?_
  refine w_istore_n rfl (Nat.le_of_ble_eq_true rfl) ?_
  refine w_iconst (v := 0) rfl (by decide) ?_
  refine w_istore_n rfl (Nat.le_of_ble_eq_true rfl) ?_
  exact l_cLike hp ha hP hl hpos 4 0 _ (by omega) rfl rfl rfl rfl
set_option maxRecDepth 100000 in
set_option maxHeartbeats 400000 in
theorem l_agree {sc : pm_Sc} {h : pm_H} {s : MS} {q p : Nat} {x0 x1 x2 x4 x5 x6 x7 : Value} {g : Nat → Option Nat} (hp : h.1[p]? = some (.inr (6, [x0, x1, x2, .ref (p + 1), x4, x5, x6, x7]))) (ha : h.1[p + 1]? = some (arrC g)) (hP : ∀ u, u < 4 → RP h.1 s q u (g u)) {M : Nat} (hM : 1 ≤ M ∧ M < 100) : ∀ (d k : Nat) (lv : pm_L), k + d = 4 → pm_ld lv 0 = some (.ref p) → pm_ld lv 1 = some (.int (nI M)) → pm_ld lv 2 = some (.int (nI k)) → pw sc 49 (2, lv, [], h) (pz (some (pv (if fqN s q M d k = 4 then none else g (fqN s q M d k)))) h) := by
  intro d
  induction d with
  | zero =>
    intro k lv hk g0 g1 g2
    obtain rfl : 4 = k := by omega
    refine w_iload_n rfl g2 ?_
    refine w_iconst (v := 4) rfl (by decide) ?_
    refine w_if_icmp_ge rfl rfl (fun c4 => ?_) (fun c4 => ?_)
    · refine w_aconst_null rfl ?_
      exact w_areturnN rfl rfl ⟨by rw [fqN, if_pos rfl]; rfl, rfl⟩
    · exact absurd (by decide) c4
  | succ d ih =>
    intro k lv hk g0 g1 g2
    rcases hP k (by omega) with ⟨e1, e2⟩ | ⟨l, y, e1, e2, e3, e4⟩
    · refine w_iload_n rfl g2 ?_
      refine w_iconst (v := 4) rfl (by decide) ?_
      refine w_if_icmp_ge rfl rfl (fun c4 => ?_) (fun c4 => ?_)
      · exact absurd c4 (nI_ge (a := k) (b := 4) (by omega) (by omega))
      · refine w_aload_n rfl g0 ?_
        refine w_getfield rfl hp rfl ?_
        refine w_iload_n rfl g2 ?_
        refine w_halN (j := k) rfl ha ⟨by decide, by decide⟩ rfl ⟨show k < 4 from by omega, by decide⟩ e1 ?_
        refine w_ifnullN rfl rfl ?_
        refine w_iincN (j := k) rfl rfl g2 (Nat.le_of_ble_eq_true rfl) ?_
        refine w_goto rfl rfl ?_
        have e : fqN s q M (d + 1) k = fqN s q M d (k + 1) := by rw [fqN, if_neg (by rw [alN_neg (by rw [e2]; exact m1_lt)]; exact nI_ge (a := 0) (b := M) (by omega) (by omega))]
        rw [e]
        exact ih (k + 1) _ (by omega) (ld_s1 (by decide) g0 (fun _ => rfl)) (ld_s1 (by decide) g1 (fun _ => rfl)) ld_self
    · refine w_iload_n rfl g2 ?_
      refine w_iconst (v := 4) rfl (by decide) ?_
      refine w_if_icmp_ge rfl rfl (fun c4 => ?_) (fun c4 => ?_)
      · exact absurd c4 (nI_ge (a := k) (b := 4) (by omega) (by omega))
      · refine w_aload_n rfl g0 ?_
        refine w_getfield rfl hp rfl ?_
        refine w_iload_n rfl g2 ?_
        refine w_hal (j := k) rfl ha ⟨by decide, by decide⟩ rfl ⟨show k < 4 from by omega, by decide⟩ e1 ?_
        refine w_ifnull rfl rfl ?_
        refine w_aload_n rfl g0 ?_
        refine w_aload_n rfl g0 ?_
        refine w_getfield rfl hp rfl ?_
        refine w_iload_n rfl g2 ?_
        refine w_hal (j := k) rfl ha ⟨by decide, by decide⟩ rfl ⟨show k < 4 from by omega, by decide⟩ e1 ?_
        refine w_virtual rfl rfl hp ⟨(Nat.le_of_ble_eq_true rfl), rfl, (Nat.le_of_ble_eq_true rfl), (Nat.le_of_ble_eq_true rfl)⟩ rfl (Nat.le_of_ble_eq_true rfl) (c_cLike hp ha hP e3 e4) ?_
        rintro _ _ ⟨rfl, rfl⟩
        refine ⟨_, rfl, ?_⟩
        refine w_iload_n rfl g1 ?_
        refine w_if_icmp_lt rfl rfl (fun c27 => ?_) (fun c27 => ?_)
        · refine w_iincN (j := k) rfl rfl g2 (Nat.le_of_ble_eq_true rfl) ?_
          refine w_goto rfl rfl ?_
          have e : fqN s q M (d + 1) k = fqN s q M d (k + 1) := by rw [fqN, if_neg (Int32.not_le.mpr c27)]
          rw [e]
          exact ih (k + 1) _ (by omega) (ld_s1 (by decide) g0 (fun _ => rfl)) (ld_s1 (by decide) g1 (fun _ => rfl)) ld_self
        · refine w_aload_n rfl g0 ?_
          refine w_getfield rfl hp rfl ?_
          refine w_iload_n rfl g2 ?_
          refine w_hal (j := k) rfl ha ⟨by decide, by decide⟩ rfl ⟨show k < 4 from by omega, by decide⟩ e1 ?_
          have e : fqN s q M (d + 1) k = k := by rw [fqN, if_pos (Int32.not_lt.mp c27)]
          exact w_areturn rfl rfl ⟨by rw [e, if_neg (by omega), e1]; rfl, rfl⟩
set_option maxRecDepth 100000 in
set_option maxHeartbeats 400000 in
theorem c_agree {sc : pm_Sc} {h : pm_H} {s : MS} {q p : Nat} {x0 x1 x2 x4 x5 x6 x7 : Value} {g : Nat → Option Nat} (hp : h.1[p]? = some (.inr (6, [x0, x1, x2, .ref (p + 1), x4, x5, x6, x7]))) (ha : h.1[p + 1]? = some (arrC g)) (hP : ∀ u, u < 4 → RP h.1 s q u (g u)) {M : Nat} (hM : 1 ≤ M ∧ M < 100) : pu sc 49 [.ref p, .int (nI M)] h (pz (some (pv (if fqN s q M 4 0 = 4 then none else g (fqN s q M 4 0)))) h) := by
  refine w_iconst (v := 0) rfl (by decide) ?_
  refine w_istore_n rfl (Nat.le_of_ble_eq_true rfl) ?_
  exact l_agree hp ha hP hM 4 0 _ (by omega) rfl rfl rfl
set_option maxRecDepth 100000 in
set_option maxHeartbeats 400000 in
theorem l_cAck {sc : pm_Sc} {cs : List pm_C} {a : MS} {Y : PT} {kn : Nat × Nat} (hc : 73 < cs.length) {s : MS} {q l : Nat} {y : Option Nat} (hl : (cset cs a Y)[l]? = some (letC 2 (s.1 38 q) (nI q) (s.1 39 q) (s.1 40 q) (s.1 41 q) y)) (h37 : s.1 37 q = 1) (hpos : ¬ s.1 38 q < 0) (hA : ∀ u, u < 4 → RH (cset cs a Y) Y s u) : ∀ (d k : Nat) (lv : pm_L), k + d = 4 → pm_ld lv 0 = some (.ref 4) → pm_ld lv 1 = some (.ref l) → pm_ld lv 2 = some (.int (akN s q k)) → pm_ld lv 3 = some (.int (nI k)) → pw sc 6 (4, lv, [], (cset cs a Y, kn)) (pz (some (.int (akN s q 4))) (cset cs a Y, kn)) := by
  intro d
  induction d with
  | zero =>
    intro k lv hk g0 g1 g2 g3
    obtain rfl : 4 = k := by omega
    refine w_iload_n rfl g3 ?_
    refine w_iconst (v := 4) rfl (by decide) ?_
    refine w_if_icmp_ge rfl rfl (fun c6 => ?_) (fun c6 => ?_)
    · refine w_iload_n rfl g2 ?_
      exact w_ireturn rfl (by first | exact Or.inl rfl | exact Or.inr ⟨rfl, Or.inl rfl⟩ | exact Or.inr ⟨rfl, Or.inr rfl⟩ | exact Or.inr ⟨rfl, by assumption⟩) ⟨(by first | rfl | (simp only [c6, if_true, if_false, and_true, true_and, and_false, false_and, or_true, true_or, or_false, false_or, not_true_eq_false, not_false_eq_true, ite_self]; done) | (simp only [c6, if_true, if_false, and_true, true_and, and_false, false_and, or_true, true_or, or_false, false_or, not_true_eq_false, not_false_eq_true, ite_self]; rfl)), (by first | rfl | (simp only [c6, if_true, if_false, and_true, true_and, and_false, false_and, or_true, true_or, or_false, false_or, not_true_eq_false, not_false_eq_true, ite_self]; done) | (simp only [c6, if_true, if_false, and_true, true_and, and_false, false_and, or_true, true_or, or_false, false_or, not_true_eq_false, not_false_eq_true, ite_self]; rfl))⟩
    · exact absurd (nI_le (a := 4) (b := 4) (Nat.le_refl _) (by omega)) c6
  | succ d ih =>
    intro k lv hk g0 g1 g2 g3
    rcases hA k (by omega) with ⟨e1, e2⟩ | ⟨l2, k2, q2, x2, y2, e1, e2, e3⟩
    · refine w_iload_n rfl g3 ?_
      refine w_iconst (v := 4) rfl (by decide) ?_
      refine w_if_icmp_ge rfl rfl (fun c6 => ?_) (fun c6 => ?_)
      · exact absurd c6 (nI_ge (a := k) (b := 4) (by omega) (by omega))
      · refine w_aload_n rfl g0 ?_
        refine w_getfield rfl (cs4 hc) rfl ?_
        refine w_iload_n rfl g3 ?_
        refine w_halN (j := k) rfl (cs5 hc) ⟨by decide, by decide⟩ rfl ⟨show k < 4 from by omega, by decide⟩ e1 ?_
        refine w_ifnullN rfl rfl ?_
        refine w_iincN (j := k) rfl rfl g3 (Nat.le_of_ble_eq_true rfl) ?_
        refine w_goto rfl rfl ?_
        have e : akN s q (k + 1) = akN s q k := by rw [akN, if_neg (fun z => hpos (by rw [← z.2.1, e2]; exact m1_lt))]; exact Int32.add_zero _
        have ih2 := ih (k + 1)
        rw [e] at ih2
        exact ih2 _ (by omega) (ld_s1 (by decide) g0 (fun _ => rfl)) (ld_s1 (by decide) g1 (fun _ => rfl)) (ld_s1 (by decide) g2 (fun _ => rfl)) ld_self
    · refine w_iload_n rfl g3 ?_
      refine w_iconst (v := 4) rfl (by decide) ?_
      refine w_if_icmp_ge rfl rfl (fun c6 => ?_) (fun c6 => ?_)
      · exact absurd c6 (nI_ge (a := k) (b := 4) (by omega) (by omega))
      · refine w_aload_n rfl g0 ?_
        refine w_getfield rfl (cs4 hc) rfl ?_
        refine w_iload_n rfl g3 ?_
        refine w_hal (j := k) rfl (cs5 hc) ⟨by decide, by decide⟩ rfl ⟨show k < 4 from by omega, by decide⟩ e1 ?_
        refine w_ifnull rfl rfl ?_
        refine w_aload_n rfl g0 ?_
        refine w_getfield rfl (cs4 hc) rfl ?_
        refine w_iload_n rfl g3 ?_
        refine w_hal (j := k) rfl (cs5 hc) ⟨by decide, by decide⟩ rfl ⟨show k < 4 from by omega, by decide⟩ e1 ?_
        refine w_aload_n rfl g1 ?_
        refine w_virtual rfl rfl e3 ⟨(Nat.le_of_ble_eq_true rfl), rfl, (Nat.le_of_ble_eq_true rfl), (Nat.le_of_ble_eq_true rfl)⟩ rfl (Nat.le_of_ble_eq_true rfl) (c_spt (h := (cset cs a Y, kn)) e3 hl) ?_
        rintro _ _ ⟨rfl, rfl⟩
        refine ⟨_, rfl, ?_⟩
        refine w_ifCond_eq rfl rfl (fun c28 => ?_) (fun c28 => ?_)
        · replace c28 := b01_f c28
          refine w_iincN (j := k) rfl rfl g3 (Nat.le_of_ble_eq_true rfl) ?_
          refine w_goto rfl rfl ?_
          have e : akN s q (k + 1) = akN s q k := by rw [akN, if_neg (fun z => c28 ⟨z.2.1, z.2.2.1, z.2.2.2⟩)]; exact Int32.add_zero _
          have ih2 := ih (k + 1)
          rw [e] at ih2
          exact ih2 _ (by omega) (ld_s1 (by decide) g0 (fun _ => rfl)) (ld_s1 (by decide) g1 (fun _ => rfl)) (ld_s1 (by decide) g2 (fun _ => rfl)) ld_self
        · replace c28 := b01_t c28
          refine w_iinc rfl g2 (Nat.le_of_ble_eq_true rfl) rfl ?_
          refine w_iincN (j := k) rfl rfl (ld_s1 (by decide) g3 (fun _ => rfl)) (Nat.le_of_ble_eq_true rfl) ?_
          refine w_goto rfl rfl ?_
          have e : akN s q (k + 1) = akN s q k + Int32.ofInt 1 := by rw [akN, if_pos ⟨by rw [h37]; decide, c28.1, c28.2.1, c28.2.2⟩]; rfl
          have ih2 := ih (k + 1)
          rw [e] at ih2
          exact ih2 _ (by omega) (ld_s1 (by decide) (ld_s1 (by decide) g0 (fun _ => rfl)) (fun _ => rfl)) (ld_s1 (by decide) (ld_s1 (by decide) g1 (fun _ => rfl)) (fun _ => rfl)) (ld_s1 (by decide) ld_self (fun _ => rfl)) ld_self
set_option maxRecDepth 100000 in
set_option maxHeartbeats 400000 in
theorem c_cAck {sc : pm_Sc} {cs : List pm_C} {a : MS} {Y : PT} {kn : Nat × Nat} (hc : 73 < cs.length) {s : MS} {q l : Nat} {y : Option Nat} (hl : (cset cs a Y)[l]? = some (letC 2 (s.1 38 q) (nI q) (s.1 39 q) (s.1 40 q) (s.1 41 q) y)) (h37 : s.1 37 q = 1) (hpos : ¬ s.1 38 q < 0) (hA : ∀ u, u < 4 → RH (cset cs a Y) Y s u) : pu sc 6 [.ref 4, .ref l] (cset cs a Y, kn) (pz (some (.int (akN s q 4))) (cset cs a Y, kn)) := by
  refine w_iconst (v := 0) rfl (by decide) ?_
  refine w_istore_n rfl (Nat.le_of_ble_eq_true rfl) ?_
  refine w_iconst (v := 0) rfl (by decide) ?_
  refine w_istore_n rfl (Nat.le_of_ble_eq_true rfl) ?_
  exact l_cAck hc hl h37 hpos hA 4 0 _ (by omega) rfl rfl rfl rfl
set_option maxRecDepth 100000 in
set_option maxHeartbeats 400000 in
theorem c_fin {sc : pm_Sc} {cs : List pm_C} {a : MS} {Y : PT} {kn : Nat × Nat} (hc : 73 < cs.length) {p l : Nat} (h30 : 30 < p) {x0 x1 x2 x3 x4 x5 x6 x7 : Value} (hp : cs[p]? = some (.inr (6, [x0, x1, x2, x3, x4, x5, x6, x7]))) (h30l : 30 < l) {k v q pl d e : Int32} {y : Option Nat} (hl : cs[l]? = some (letC k v q pl d e y)) : pu sc 51 [.ref p, .ref l] (cset cs a Y, kn) (pz none (cset (cs.set p (.inr (6, [x0, x1, x2, x3, x4, .int 1, .int e, .int pl]))) a Y, kn)) := by
  refine w_aload_n rfl rfl ?_
  refine w_iconst (v := 1) rfl (by decide) ?_
  refine w_dp rfl hc ⟨h30, hp⟩ (Nat.le_of_ble_eq_true rfl) rfl ?_
  refine w_aload_n rfl rfl ?_
  refine w_aload_n rfl rfl ?_
  refine w_getfield rfl ((cset_out (Nat.not_le_of_gt h30l)).trans ((gs_ne (fun z => by rw [z, hl] at hp; cases hp)).trans hl)) rfl ?_
  refine w_dp rfl (hcS hc) ⟨h30, (gs_self hp)⟩ (Nat.le_of_ble_eq_true rfl) rfl ?_
  refine w_aload_n rfl rfl ?_
  refine w_aload_n rfl rfl ?_
  refine w_getfield rfl ((cset_out (Nat.not_le_of_gt h30l)).trans ((gs_ne (fun z => by rw [z, hl] at hp; cases hp)).trans ((gs_ne (fun z => by rw [z, hl] at hp; cases hp)).trans hl))) rfl ?_
  refine w_dp rfl (hcS (hcS hc)) ⟨h30, (gs_self (gs_self hp))⟩ (Nat.le_of_ble_eq_true rfl) rfl ?_
  exact w_return rfl rfl ⟨rfl, by rw [List.set_set, List.set_set]; rfl⟩
set_option maxRecDepth 100000 in
set_option maxHeartbeats 400000 in
theorem c_find0 {sc : pm_Sc} {cs : List pm_C} {a : MS} {Y : PT} {kn : Nat × Nat} (hc : 73 < cs.length) (x : Int32) (h : x < 0 ∨ a.1 2 0 ≤ x) : pu sc 1 [.ref 4, .int x] (cset cs a Y, kn) (pz (some .null) (cset cs a Y, kn)) := by
  refine w_iload_n rfl rfl ?_
  refine w_ifCond_lt rfl rfl (fun c1 => ?_) (fun c1 => ?_)
  · refine w_aconst_null rfl ?_
    first | exact w_areturn rfl rfl ⟨rfl, rfl⟩ | exact w_areturnN rfl rfl ⟨rfl, rfl⟩
  · refine w_iload_n rfl rfl ?_
    refine w_aload_n rfl rfl ?_
    refine w_getfield rfl (cs4 hc) rfl ?_
    refine w_if_icmp_ge rfl rfl (fun c9 => ?_) (fun c9 => ?_)
    · refine w_aconst_null rfl ?_
      first | exact w_areturn rfl rfl ⟨rfl, rfl⟩ | exact w_areturnN rfl rfl ⟨rfl, rfl⟩
    · exact absurd h (fun z => z.elim c1 c9)
set_option maxRecDepth 100000 in
set_option maxHeartbeats 400000 in
theorem c_find1 {sc : pm_Sc} {cs : List pm_C} {a : MS} {Y : PT} {kn : Nat × Nat} (hc : 73 < cs.length) (j : Nat) {m p : Nat} (hm : a.1 2 0 = nI m) (h6 : m ≤ 12) (hj : j < m) (hp : Y 1 j = some p) : pu sc 1 [.ref 4, .int (nI j)] (cset cs a Y, kn) (pz (some (.ref p)) (cset cs a Y, kn)) := by
  refine w_iload_n rfl rfl ?_
  refine w_ifCond_lt rfl rfl (fun c1 => ?_) (fun c1 => ?_)
  · exact absurd c1 (nI_pos (by omega))
  · refine w_iload_n rfl rfl ?_
    refine w_aload_n rfl rfl ?_
    refine w_getfield rfl (cs4 hc) rfl ?_
    refine w_if_icmp_ge rfl rfl (fun c9 => ?_) (fun c9 => ?_)
    · exact absurd c9 (by rw [hm]; exact nI_ge hj (by omega))
    · refine w_aload_n rfl rfl ?_
      refine w_getfield rfl (cs4 hc) rfl ?_
      refine w_iload_n rfl rfl ?_
      refine w_hal (j := j) rfl (cs1 hc) ⟨by decide, by decide⟩ rfl ⟨show j < 12 from by omega, by decide⟩ hp ?_
      refine w_goto rfl rfl ?_
      first | exact w_areturn rfl rfl ⟨rfl, rfl⟩ | exact w_areturnN rfl rfl ⟨rfl, rfl⟩
