-- deps: 52.rel2
/-! states, kept changes, requests, in both -/
theorem R.st {s : MS} {cs : List pm_C} {a : MS} {Y : PT} {kn kn' : Nat × Nat} {j p l : Nat} (v : Int32) (h : R s (cs, a, Y, kn)) (hj : j < mN s) (hp : Y 3 j = some p) (h0 : cs[p]? = some (.inr (3, [.int (s.1 19 j), .int (s.1 20 j), .ref l, .int (s.1 28 j)]))) : R (up s 28 j v) (cs.set p (.inr (3, [.int (s.1 19 j), .int (s.1 20 j), .ref l, .int v])), a, Y, kn') := by
  obtain ⟨g1, g2, g3, g4, g5, g6, g7, g8, g9, g10⟩ := h
  have em : mN (up s 28 j v) = mN s := m_cong (up_n (by omega))
  have eq : nqN (up s 28 j v) = nqN s := nq_cong (up_n (by omega))
  have kl : ∀ {x}, KL cs (cs.set p x) := KC.set h0 nlk3
  have kq : ∀ {x}, KC isQ cs (cs.set p x) := KC.set h0 nQ3
  refine ⟨hcS g1, fun f i hf => ?_, fun r hr => ?_, fun i hi => (g4 i hi).cong kl rfl (fun a _ => up_n (by omega)) rfl, fun i hi => ?_, by rw [em]; exact g6, fun q hq => (g7 q (by omega)).cong kl kq rfl (fun a _ => up_n (by omega)) (fun a u _ _ _ => up_n (by omega)), by rw [eq]; exact g8, by rw [eq]; exact g9, fun u hu => (g10 u hu).cong kl rfl (fun a _ _ => up_n (by omega))⟩
  · rw [up_n (by omega)]; exact g2 f i hf
  · have e7 : lnN (up s 28 j v) r = lnN s r := ln_cong (up_n (by omega))
    rw [e7]
    exact (g3 r hr).eqa (fun k i _ => up_n (by omega))
  · by_cases e : i = j
    · subst e
      obtain ⟨p', l', e', y', b1, b2, b3, b4, b5, b6, b7⟩ := g5 i (by omega)
      have ep : p' = p := by
        have := b1.symm.trans hp
        cases this; rfl
      subst ep
      have el : l' = l := by
        have := b3.symm.trans h0
        injection this with h1
        injection h1 with h2
        injection h2 with h3 h4
        injection h4 with h5 h6
        injection h6 with h7 h8
        injection h8 with h9 h10
        injection h9
      subst el
      refine ⟨p', l', e', y', hp, b2, ?_, b4, ?_, ?_, fun z => ?_⟩
      · rw [up_n (by omega), up_n (by omega), up_i]; exact gs_self h0
      · rw [up_n (by omega), up_n (by omega), up_n (by omega), up_n (by omega), up_n (by omega)]; exact kl _ _ b4 lkL b5
      · rw [up_n (by omega), up_n (by omega)]; exact b6
      · rw [up_n (by omega)] at z
        obtain ⟨x, n, c1, c2, c3⟩ := b7 z
        refine ⟨x, n, c1, ?_, ?_⟩
        · rw [up_n (by omega)]; exact c2
        · rw [up_n (by omega)]; exact c3.kl kl
    · obtain ⟨p', l', e', y', b1, b2, b3, b4, b5, b6, b7⟩ := g5 i (by omega)
      have np : p ≠ p' := fun z => e (g6 i j (by omega) hj (by show Y 3 i = Y 3 j; rw [show Y 3 i = some p' from b1, hp, z]))
      refine ⟨p', l', e', y', b1, b2, ?_, b4, ?_, ?_, fun z => ?_⟩
      · rw [up_n (by omega), up_n (by omega), up_n (by omega), gs_ne np]; exact b3
      · rw [up_n (by omega), up_n (by omega), up_n (by omega), up_n (by omega), up_n (by omega)]; exact kl _ _ b4 lkL b5
      · rw [up_n (by omega), up_n (by omega)]; exact b6
      · rw [up_n (by omega)] at z
        obtain ⟨x, n, c1, c2, c3⟩ := b7 z
        refine ⟨x, n, c1, ?_, ?_⟩
        · rw [up_n (by omega)]; exact c2
        · rw [up_n (by omega)]; exact c3.kl kl
theorem R.keepc {s : MS} {cs : List pm_C} {a : MS} {Y : PT} {kn kn' : Nat × Nat} {r u l y n : Nat} {v q d e f : Int32} {x : Int64} (h : R s (cs, a, Y, kn)) (hr : r < 4) (hu : u < 4) (hl : 74 ≤ l) (hL : cs[l]? = some (letC 6 v q (nI n) d e (some y))) (hH : HisX cs y n f x) : R (kept s r u v x (nI n) f) (cs, a, uy Y 12 (4 * r + u) (some l), kn') := by
  obtain ⟨g1, g2, g3, g4, g5, g6, g7, g8, g9, g10⟩ := h
  obtain ⟨k1, k2, k3, k4⟩ := kept_get s r u v x (nI n) f
  have hY : ∀ w i, ¬ (w = 12 ∧ i = 4 * r + u) → uy Y 12 (4 * r + u) (some l) w i = Y w i := fun w i h => uy_n h
  have em : mN (kept s r u v x (nI n) f) = mN s := m_cong (kept_ne (by omega))
  have eq : nqN (kept s r u v x (nI n) f) = nqN s := nq_cong (kept_ne (by omega))
  refine ⟨g1, fun f i hf => ?_, fun w hw => ?_, fun i hi => ?_, fun i hi => (g5 i (by omega)).cong (KC.rf _) (KC.rf _) (hY 3 i (by omega)) (fun a _ _ => kept_ne (by omega)) (kept_nl (by omega)), ?_, fun q hq => (g7 q (by omega)).cong (KC.rf _) (KC.rf _) (hY 1 q (by omega)) (fun a _ => kept_ne (by omega)) (fun a u _ _ _ => kept_ne (by omega)), ?_, ?_, fun u hu => (g10 u hu).cong (KC.rf _) (hY 5 u (by omega)) (fun a _ _ => kept_ne (by omega))⟩
  · rw [kept_ne (by omega)]; exact g2 f i hf
  · rw [ln_cong (kept_ne (by omega)), kept_nl (by omega)]
    exact (g3 w hw).eqa (fun k i _ => kept_ne (by omega))
  · by_cases ei : i = 4 * r + u
    · subst ei
      refine Or.inr ⟨l, y, q, d, e, n, uy_i, hl, ?_, k2, ?_⟩
      · rw [k1, k2]; exact hL
      · rw [k3, k4]; exact hH
    · exact (g4 i hi).cong (KC.rf _) (hY 12 i (by omega)) (fun a _ => kept_ne (by omega)) (kept_nl (by omega))
  · rw [em]
    intro i j hi hj e
    have e' : uy Y 12 (4 * r + u) (some l) 3 i = uy Y 12 (4 * r + u) (some l) 3 j := e
    rw [uy_n (by omega), uy_n (by omega)] at e'
    exact g6 i j hi hj e'
  · rw [eq]
    intro i j hi hj e
    have e' : uy Y 12 (4 * r + u) (some l) 1 i = uy Y 12 (4 * r + u) (some l) 1 j := e
    rw [uy_n (by omega), uy_n (by omega)] at e'
    exact g8 i j hi hj e'
  · rw [eq]
    intro q q1 q2
    show uy Y 12 (4 * r + u) (some l) 1 q = none
    rw [uy_n (by omega)]
    exact g9 q q1 q2
/-- what the client knows of one request has changed -/
theorem R.req {s s' : MS} {cs cs' : List pm_C} {a : MS} {Y : PT} {kn kn' : Nat × Nat} {q p : Nat} {o o' : Option Nat} {g g' : Nat → Option Nat} (h : R s (cs, a, Y, kn)) (hq : q < nqN s) (hp : Y 1 q = some p) (h74 : 74 ≤ p) (hp1 : cs[p]? = some (reqC s q p o)) (hp2 : cs[p + 1]? = some (arrC g)) (h1 : ∀ f j, 1 ≤ f → f ≠ 45 → ¬ (37 ≤ f ∧ f ≤ 44 ∧ j = q) → ¬ (30 ≤ f ∧ f ≤ 33 ∧ 4 * q ≤ j ∧ j < 4 * q + 4) → s'.1 f j = s.1 f j) (h2 : s'.2 = s.2) (hl : cs'.length = cs.length) (k : ∀ i, i ≠ p → i ≠ p + 1 → cs'[i]? = cs[i]?) (n1 : cs'[p]? = some (reqC s' q p o')) (n2 : cs'[p + 1]? = some (arrC g')) (hP : ∀ u, u < 4 → RP cs s' q u (g' u)) (hQ : RQ cs s' q o') : R s' (cs', a, Y, kn') := by
  obtain ⟨g1, g2, g3, g4, g5, g6, g7, g8, g9, g10⟩ := h
  have em : mN s' = mN s := m_cong (h1 17 0 (by omega) (by omega) (by omega) (by omega))
  have eq : nqN s' = nqN s := nq_cong (h1 2 0 (by omega) (by omega) (by omega) (by omega))
  have kc : ∀ {P : pm_C → Prop}, ¬ P (reqC s q p o) → ¬ P (arrC g) → KC P cs cs' := fun {P} m1 m2 i c _ hP hc => by
    by_cases e : i = p
    · subst e
      rw [hp1] at hc
      cases hc
      exact absurd hP m1
    · by_cases e2 : i = p + 1
      · subst e2
        rw [hp2] at hc
        cases hc
        exact absurd hP m2
      · rw [k i e e2]; exact hc
  have kl : KL cs cs' := kc nlk6 nlkA
  have km : KC isM cs cs' := kc nM6 nMA
  refine ⟨by show 73 < cs'.length; rw [hl]; exact g1, fun f i hf => ?_, fun r hr => ?_, fun i hi => (g4 i hi).cong kl rfl (fun f _ => h1 f i (by omega) (by omega) (by omega) (by omega)) (by rw [h2]), fun i hi => (g5 i (by omega)).cong kl km rfl (fun f _ _ => h1 f i (by omega) (by omega) (by omega) (by omega)) (by rw [h2]), by rw [em]; exact g6, fun i hi => ?_, by rw [eq]; exact g8, by rw [eq]; exact g9, fun u hu => (g10 u hu).cong kl rfl (fun f _ _ => h1 f u (by omega) (by omega) (by omega) (by omega))⟩
  · rw [h1 f i (by omega) (by omega) (by omega) (by omega)]; exact g2 f i hf
  · have e8 : s'.2 8 r = s.2 8 r := by rw [h2]
    rw [ln_cong (h1 7 r (by omega) (by omega) (by omega) (by omega)), e8]
    exact (g3 r hr).eqa (fun k i _ => h1 k i (by omega) (by omega) (by omega) (by omega))
  · by_cases e : i = q
    · subst e
      exact ⟨p, o', g', hp, h74, n1, n2, fun u hu => (hP u hu).cong kl (fun _ _ _ => rfl), hQ.cong kl (fun _ _ _ => rfl)⟩
    · obtain ⟨p', o2, g2', b1, b2, b3, b4, b5, b6⟩ := g7 i (by omega)
      have np : p' ≠ p := fun z => e (g8 i q (by omega) hq (by show Y 1 i = Y 1 q; rw [show Y 1 i = some p' from b1, hp, z]))
      have np1 : p' ≠ p + 1 := fun z => by
        rw [← z] at hp2
        have := b3.symm.trans hp2
        cases this
      have np2 : p' + 1 ≠ p := fun z => by
        rw [← z] at hp1
        have := b4.symm.trans hp1
        cases this
      have f1 : ∀ x, (3 ≤ x ∧ x ≤ 5) ∨ (37 ≤ x ∧ x ≤ 44) → s'.1 x i = s.1 x i := fun x hx => h1 x i (by omega) (by omega) (by omega) (by omega)
      refine ⟨p', o2, g2', b1, b2, ?_, ?_, fun u hu => (b5 u hu).cong kl (fun x _ _ => h1 x _ (by omega) (by omega) (by omega) (by omega)), b6.cong kl (fun x _ _ => f1 x (by omega))⟩
      · rw [k p' np np1]
        unfold reqC
        rw [f1 3 (by omega), f1 4 (by omega), f1 5 (by omega), f1 42 (by omega), f1 43 (by omega), f1 44 (by omega)]
        exact b3
      · rw [k (p' + 1) np2 (by omega)]; exact b4
/-- an ACK is kept -/
theorem R.ack {s : MS} {cs : List pm_C} {a : MS} {Y : PT} {kn kn' : Nat × Nat} {r l j : Nat} {k q e : Int32} {y : Option Nat} (h : R s (cs, a, Y, kn)) (hl : 74 ≤ l) (hL : cs[l]? = some (letC k (s.1 21 j) q (s.1 22 j) (s.1 24 j) e y)) : R (ackS s r j) (cs, a, uy Y 5 r (some l), kn') := by
  obtain ⟨g1, g2, g3, g4, g5, g6, g7, g8, g9, g10⟩ := h
  obtain ⟨k1, k2, k3⟩ := ack_get s r j
  have hY : ∀ w i, ¬ (w = 5 ∧ i = r) → uy Y 5 r (some l) w i = Y w i := fun w i h => uy_n h
  have em : mN (ackS s r j) = mN s := m_cong (ack_ne (by omega))
  have eq : nqN (ackS s r j) = nqN s := nq_cong (ack_ne (by omega))
  refine ⟨g1, fun f i hf => ?_, fun w hw => ?_, fun i hi => (g4 i hi).cong (KC.rf _) (hY 12 i (by omega)) (fun f _ => ack_ne (by omega)) rfl, fun i hi => (g5 i (by omega)).cong (KC.rf _) (KC.rf _) (hY 3 i (by omega)) (fun a _ _ => ack_ne (by omega)) rfl, ?_, fun q hq => (g7 q (by omega)).cong (KC.rf _) (KC.rf _) (hY 1 q (by omega)) (fun a _ => ack_ne (by omega)) (fun a u _ _ _ => ack_ne (by omega)), ?_, ?_, fun u hu => ?_⟩
  · rw [ack_ne (by omega)]; exact g2 f i hf
  · have e8 : (ackS s r j).2 8 w = s.2 8 w := rfl
    rw [ln_cong (ack_ne (by omega)), e8]
    exact (g3 w hw).eqa (fun k i _ => ack_ne (by omega))
  · rw [em]
    intro i i' hi hj e
    have e' : uy Y 5 r (some l) 3 i = uy Y 5 r (some l) 3 i' := e
    rw [uy_n (by omega), uy_n (by omega)] at e'
    exact g6 i i' hi hj e'
  · rw [eq]
    intro i i' hi hj e
    have e' : uy Y 5 r (some l) 1 i = uy Y 5 r (some l) 1 i' := e
    rw [uy_n (by omega), uy_n (by omega)] at e'
    exact g8 i i' hi hj e'
  · rw [eq]
    intro q q1 q2
    show uy Y 5 r (some l) 1 q = none
    rw [uy_n (by omega)]
    exact g9 q q1 q2
  · by_cases e : u = r
    · subst e
      exact Or.inr ⟨l, k, q, _, y, uy_i, hl, by rw [k1, k2, k3]; exact hL⟩
    · exact (g10 u hu).cong (KC.rf _) (hY 5 u (by omega)) (fun f _ _ => ack_ne (by omega))
/-- a request more -/
def nreq (p : Nat) (o k v : Int32) : pm_C := .inr (6, [.int o, .int k, .int v, .ref (p + 1), .null, .int 0, .int 0, .int 0])
theorem R.isue {s : MS} {cs : List pm_C} {a : MS} {Y : PT} {kn kn' : Nat × Nat} {t : Nat} (o k v : Int32) (h : R s (cs, a, Y, kn)) (hi : Inv s t) (hq : nqN s < 12) : R (iss s o k v) (cs ++ [nreq cs.length o k v] ++ [arrC (fun _ => none)], up a 2 0 (nI (nqN s + 1)), uy Y 1 (nqN s) (some cs.length), kn') := by
  obtain ⟨g1, g2, g3, g4, g5, g6, g7, g8, g9, g10⟩ := h
  have g1' : 73 < cs.length := g1
  obtain ⟨k1, k2, k3, k4⟩ := iss_get s o k v
  have em : mN (iss s o k v) = mN s := m_cong (iss_ne (by omega))
  have eq : nqN (iss s o k v) = nqN s + 1 := by
    have e : nqN (iss s o k v) = ((iss s o k v).1 2 0).toNatClampNeg := rfl
    rw [e, k4, nI_clamp (by omega)]
  have kc : ∀ {P}, KC P cs (cs ++ [nreq cs.length o k v] ++ [arrC (fun _ => none)]) := fun {P} => KC.app.tr KC.app
  have hY : ∀ x i, ¬ (x = 1 ∧ i = nqN s) → uy Y 1 (nqN s) (some cs.length) x i = Y x i := fun x i h => uy_n h
  have hlt : ∀ i, i < nqN s → ∃ p, Y 1 i = some p ∧ p < cs.length := fun i hi => by
    obtain ⟨p, o', g', b1, b2, b3, b4⟩ := g7 i hi
    exact ⟨p, b1, g_lt b3⟩
  refine ⟨hcA (hcA g1), fun f i hf => ?_, fun w hw => ?_, fun i hi' => (g4 i hi').cong kc (hY 12 i (by omega)) (fun f _ => iss_ne (by omega)) rfl, fun i hi' => (g5 i (by omega)).cong kc kc (hY 3 i (by omega)) (fun a _ _ => iss_ne (by omega)) rfl, ?_, fun i hi' => ?_, fun i i' hi1 hi2 e => ?_, fun i q1 q2 => ?_, fun u hu => (g10 u hu).cong kc (hY 5 u (by omega)) (fun f _ _ => iss_ne (by omega))⟩
  · show (up a 2 0 (nI (nqN s + 1))).1 f i = _
    by_cases e : f = 2 ∧ i = 0
    · obtain ⟨rfl, rfl⟩ := e
      rw [up_i, k4]
    · rw [up_n e, iss_ne (by omega)]; exact g2 f i hf
  · have e8 : (iss s o k v).2 8 w = s.2 8 w := rfl
    have e7 : lnN (iss s o k v) w = lnN s w := ln_cong (iss_ne (by omega))
    rw [e7, e8]
    obtain ⟨b1, b2, b3⟩ := g3 w hw
    have hrow := (hi.r hw).2.2.1
    obtain ⟨f, f1, -, -⟩ := hrow.at
    have ew : ∀ m, m ≤ lnN s w → wkA (iss s o k v) (s.2 8 w) m = wkA s (s.2 8 w) m := by
      intro m
      induction m with
      | zero => intro _; rfl
      | succ m ih =>
        intro hm
        have hf := f1 m (by omega)
        rw [wkA, wkA, ih (by omega), hf.1, nI_clamp (by have := hi.q.2; omega), iss_ne (by omega), iss_ne (by omega), iss_ne (by omega)]
    refine RBx.up (f := 2) (j := 0) ⟨b1, fun i hi => by rw [ew _ (Nat.le_refl _)]; exact b2 i hi, fun i hi => by rw [ew _ (by omega)]; exact b3 i hi⟩ (by omega)
  · rw [em]
    intro i i' hi1 hi2 e
    have e' : uy Y 1 (nqN s) (some cs.length) 3 i = uy Y 1 (nqN s) (some cs.length) 3 i' := e
    rw [uy_n (by omega), uy_n (by omega)] at e'
    exact g6 i i' hi1 hi2 e'
  · by_cases e : i = nqN s
    · subst e
      obtain ⟨z1, z2, z3, z4, z5⟩ := hi.2.2.2.2.2.2 (nqN s) (Nat.le_refl _) hq
      refine ⟨cs.length, none, fun _ => none, uy_i, by omega, ?_, ?_, fun u hu => Or.inl ⟨rfl, ?_⟩, Or.inl ⟨rfl, ?_⟩⟩
      · unfold reqC
        rw [k1, k2, k3, iss_ne (by omega), iss_ne (by omega), iss_ne (by omega), z1, z2, z3]
        exact ga_old ga_new
      · have : (cs ++ [nreq cs.length o k v]).length = cs.length + 1 := by rw [List.length_append]; rfl
        rw [← this]; exact ga_new
      · rw [iss_ne (by omega)]; exact z5 u hu
      · rw [iss_ne (by omega)]; exact z4
    · exact (g7 i (by omega)).cong kc kc (hY 1 i (by omega)) (fun f _ => iss_ne (by omega)) (fun f u _ _ _ => iss_ne (by omega))
  · have e' : uy Y 1 (nqN s) (some cs.length) 1 i = uy Y 1 (nqN s) (some cs.length) 1 i' := e
    by_cases e1 : i = nqN s
    · by_cases e2 : i' = nqN s
      · omega
      · rw [e1, uy_i, uy_n (by omega)] at e'
        obtain ⟨p, b1, b2⟩ := hlt i' (by omega)
        rw [b1] at e'
        cases e'
        omega
    · by_cases e2 : i' = nqN s
      · rw [e2, uy_i, uy_n (by omega)] at e'
        obtain ⟨p, b1, b2⟩ := hlt i (by omega)
        rw [b1] at e'
        cases e'
        omega
      · rw [uy_n (by omega), uy_n (by omega)] at e'
        exact g8 i i' (by omega) (by omega) e'
  · show uy Y 1 (nqN s) (some cs.length) 1 i = none
    rw [uy_n (by omega)]
    exact g9 i (by omega) q2
/-! the turn: row by row -/
theorem wanN_j {s : MS} {r : Nat} {x : Int64} {j : Nat} (hj : j ≠ r) : ∀ k, (wanN s r x k).1 11 j = s.1 11 j
  | 0 => rfl
  | k + 1 => by rw [wanN, up_n (by omega)]; exact wanN_j hj k
theorem wanN_c {s s' : MS} {r : Nat} {x : Int64} (h : s'.1 11 r = s.1 11 r) : ∀ k, (wanN s' r x k).1 11 r = (wanN s r x k).1 11 r
  | 0 => h
  | k + 1 => by rw [wanN, wanN, up_i, up_i, wanN_c h k]
def tnS (s : MS) (r : Nat) (v : Int32) (x : Int64) (f : Int32) (i : Nat) : MS := wanN (trn0 s r v x (nI i) f) r x i
theorem tn_ne {s : MS} {r i f j : Nat} {v fx : Int32} {x : Int64} (h : ¬ ((f = 7 ∨ f = 11) ∧ j = r)) : (tnS s r v x fx (i + 1)).1 f j = (tnS s r v x fx i).1 f j := by
  unfold tnS
  by_cases e : f = 11
  · subst e
    rw [wanN_j (by omega), wanN_j (by omega)]; rfl
  · rw [wanN_k e, wanN_k e]
    unfold trn0
    by_cases e7 : f = 7
    · subst e7
      rw [up_n (by omega), up_n (by omega), up_n (by omega), up_n (by omega), up_n (by omega), up_n (by omega), up_n (by omega), up_n (by omega)]
    · have e1 : ∀ w, (up (ul (up s 6 r v) 8 r x) 7 r w).1 f j = (ul (up s 6 r v) 8 r x).1 f j := fun w => up_n (by omega)
      unfold up
      dsimp only
      rw [if_neg (by omega : ¬ (f = 7 ∧ j = r)), if_neg (by omega : ¬ (f = 7 ∧ j = r))]
theorem R.turn0 {s : MS} {cs : List pm_C} {a a0 : MS} {Y : PT} {kn kn' : Nat × Nat} {r : Nat} {v f : Int32} {x : Int64} (h : R s (cs, a, Y, kn)) (hl : ∀ w, w < 4 → lnN s w ≤ 12) (ha : ∀ k j, k = 1 ∨ k = 2 ∨ k = 6 ∨ k = 7 ∨ k = 9 ∨ k = 10 ∨ k = 11 ∨ k = 12 ∨ (k = 17 ∧ j = 0) ∨ k = 29 → ¬ ((k = 6 ∨ k = 7 ∨ k = 9 ∨ k = 10 ∨ k = 12) ∧ j = r) → a0.1 k j = a.1 k j) (h6 : a0.1 6 r = v) (h7 : a0.1 7 r = 0) (h9 : a0.1 9 r = f) (h10 : a0.1 10 r = 0) (h12 : a0.1 12 r = 0) (hz : ∀ k, k < 4 → a0.1 51 (4 * r + k) = 0) (ho : ∀ k j, 50 ≤ k → k ≤ 52 → ¬ (k = 51 ∧ 4 * r ≤ j ∧ j < 4 * r + 4) → a0.1 k j = a.1 k j) : R (tnS s r v x f 0) (cs, a0, Y, kn') := by
  obtain ⟨g1, g2, g3, g4, g5, g6, g7, g8, g9, g10⟩ := h
  have e0 : tnS s r v x f 0 = trn0 s r v x (nI 0) f := rfl
  rw [e0]
  obtain ⟨t1, t2, t3, t4, t5, t6⟩ := trn_get s r v x (nI 0) f
  have tne : ∀ {k j : Nat}, ¬ ((k = 6 ∨ k = 7 ∨ k = 9 ∨ k = 10 ∨ k = 12) ∧ j = r) → (trn0 s r v x (nI 0) f).1 k j = s.1 k j := fun {k j} hk => by
    unfold trn0
    rw [up_n (by omega), up_n (by omega), up_n (by omega), up_n (by omega)]
    exact up_n (by omega)
  have tnl : ∀ k j, ¬ (k = 8 ∧ j = r) → (trn0 s r v x (nI 0) f).2 k j = s.2 k j := fun k j hk => ul_n hk
  have em : mN (trn0 s r v x (nI 0) f) = mN s := m_cong (tne (by omega))
  have eq : nqN (trn0 s r v x (nI 0) f) = nqN s := nq_cong (tne (by omega))
  refine ⟨g1, fun k j hk => ?_, fun w hw => ?_, fun i hi => (g4 i hi).cong (KC.rf _) rfl (fun f _ => tne (by omega)) (tnl 15 i (by omega)), fun i hi => (g5 i (by omega)).cong (KC.rf _) (KC.rf _) rfl (fun f _ _ => tne (by omega)) (tnl 27 i (by omega)), by rw [em]; exact g6, fun i hi => (g7 i (by omega)).cong (KC.rf _) (KC.rf _) rfl (fun f _ => tne (by omega)) (fun f u _ _ _ => tne (by omega)), by rw [eq]; exact g8, by rw [eq]; exact g9, fun u hu => (g10 u hu).cong (KC.rf _) rfl (fun f _ _ => tne (by omega))⟩
  · show a0.1 k j = _
    by_cases e : (k = 6 ∨ k = 7 ∨ k = 9 ∨ k = 10 ∨ k = 12) ∧ j = r
    · obtain ⟨e1, rfl⟩ := e
      rcases e1 with rfl | rfl | rfl | rfl | rfl
      · rw [h6, t1]
      · rw [h7, t3]; rfl
      · rw [h9, t4]
      · rw [h10, t5]
      · rw [h12, t6]
    · rw [ha k j hk e, tne e]; exact g2 k j hk
  · show RBx _ a0 w _ _
    have hs : ∀ k j, k = 3 ∨ k = 4 ∨ k = 5 → (trn0 s r v x (nI 0) f).1 k j = s.1 k j := fun k j _ => tne (by omega)
    by_cases e : w = r
    · subst e
      have e7 : lnN (trn0 s w v x (nI 0) f) w = 0 := by rw [lnN, t3, nI_clamp (by omega)]
      rw [e7]
      exact ⟨fun k hk => by omega, fun k hk => hz k hk, fun k hk => by omega⟩
    · have e7 : lnN (trn0 s r v x (nI 0) f) w = lnN s w := ln_cong (tne (by omega))
      have e8 : (trn0 s r v x (nI 0) f).2 8 w = s.2 8 w := ul_n (by omega)
      rw [e7, e8]
      exact (g3 w hw).cong hs (fun k j k1 k2 k3 k4 => ho k j k1 k2 (by omega)) (hl w hw)
theorem R.turn1 {s : MS} {cs : List pm_C} {a : MS} {Y : PT} {kn : Nat × Nat} {r i q y : Nat} {v f : Int32} {x : Int64} (h : R (tnS s r v x f i) (cs, a, Y, kn)) (hr : r < 4) (hl : ∀ w, w < 4 → lnN s w ≤ 12) (hi : i < 12) (hq : m_at x (nI i) = nI q) (hq2 : q < 12) (hy : s.1 4 q = nI y) (hy4 : y < 4) : R (tnS s r v x f (i + 1)) (cs, nxtA a r i q y (s.1 3 q) (s.1 5 q), Y, kn) := by
  have tk : ∀ {k j : Nat} {n}, ¬ (6 ≤ k ∧ k ≤ 12) → (tnS s r v x f n).1 k j = s.1 k j := fun {k j n} hk => by
    unfold tnS
    rw [wanN_k (by omega), trn_ne (by omega)]
  have t7 : ∀ n, (tnS s r v x f n).1 7 r = nI n := fun n => by
    unfold tnS
    rw [wanN_k (by omega)]; exact (trn_get s r v x (nI n) f).2.2.1
  have t8 : ∀ n, (tnS s r v x f n).2 8 r = x := fun n => by
    unfold tnS
    rw [wanN_l]; exact (trn_get s r v x (nI n) f).2.1
  have h3 : (tnS s r v x f i).1 3 q = s.1 3 q := tk (by omega)
  have h5 : (tnS s r v x f i).1 5 q = s.1 5 q := tk (by omega)
  have := h.next (s' := tnS s r v x f (i + 1)) (r := r) (n := i) (q := q) (y := y) (fun w hw => ?_) hr (by rw [lnN, t7, nI_clamp (by omega)]) hi hq2 ((tk (by omega)).trans hy) hy4 (fun k j _ hk => tn_ne hk) (fun k j hk => ?_) (t7 _) ?_ (fun k hk => by rw [t8, t8]) (by rw [t8]; exact hq)
  · rw [h3, h5] at this; exact this
  · by_cases e : w = r
    · subst e; rw [lnN, t7, nI_clamp (by omega)]; omega
    · have e1 : lnN (tnS s r v x f i) w = lnN s w := ln_cong (by unfold tnS; rw [wanN_k (by omega), trn_ne (by omega)])
      rw [e1]; exact hl w hw
  · unfold tnS
    rw [wanN_l, wanN_l]; rfl
  · show (up (wanN (trn0 s r v x (nI (i + 1)) f) r x i) 11 r _).1 11 r = _
    rw [up_i, hq]
    have : (wanN (trn0 s r v x (nI (i + 1)) f) r x i).1 11 r = (tnS s r v x f i).1 11 r := wanN_c (by rfl) i
    rw [this]
