-- deps: 49.inv4
/-! what always holds, over the calls -/
theorem nI_ne4 {r : Nat} (hr : r < 4) : ¬ nI r = 4 := fun z => absurd ((nI_eq (b := 4) (by omega) (by omega)).mp z) (by omega)
theorem inv_take {s : MS} {t r j : Nat} (h : Inv s t) (ht : t + 1 < 2 ^ 31) (hr : r < 4) (hj : j < mN s) (hto : s.1 20 j = nI r) (hp : NP s r) : Inv (f_take s r j) (t + 1) ∧ (∀ y, NP s y → NP (f_take s r j) y) := by
  obtain ⟨hv, -, hm⟩ := h.2.2.2.1 j hj
  have h4 : ¬ s.1 20 j = 4 := by rw [hto]; exact nI_ne4 hr
  obtain ⟨r', r1, r2, hk⟩ := hm h4
  have hloc : ∀ {s' : MS}, NP s' r → Loc r s s' → ∀ y, NP s y → NP s' y := fun n l y hy => by
    by_cases e : y = r
    · subst e; exact n
    · exact hy.loc l e
  unfold f_take
  rcases hk with ⟨k, q, hq, eq⟩ | ⟨k, p, hp', ep⟩ | ⟨k, u, hu, eu⟩ | ⟨k, ⟨u, hu, eu⟩, n, f, e1, e2, e3, e4⟩
  · rcases k with k | k
    · rw [if_pos k]
      split
      · rw [eq]
        obtain ⟨b1, b2⟩ := inv_ask h hr (s.1 19 j) hq (by omega)
        exact ⟨b1.mono (by omega), b2⟩
      · exact ⟨h.mono (by omega), fun _ z => z⟩
    · rw [if_neg (by rw [k]; decide), if_pos k, eq]
      obtain ⟨b1, b2⟩ := inv_ord h hr (s.1 19 j) (s.1 21 j) (s.1 22 j) (s.1 24 j) hq
      exact ⟨b1.mono (by omega), b2⟩
  · rw [if_neg (by rw [k]; decide), if_neg (by rw [k]; decide), if_pos k]
    split
    · rw [ep, nI_clamp (by omega)]
      obtain ⟨b1, b2⟩ := inv_proof h hr (s.1 21 j) (s.1 24 j) hp'
      exact ⟨b1.mono (by omega), b2⟩
    · exact ⟨h.mono (by omega), fun _ z => z⟩
  · rw [if_neg (by rw [k]; decide), if_neg (by rw [k]; decide), if_neg (by rw [k]; decide), if_pos k]
    split
    · rw [eu]
      obtain ⟨b1, b2, b3, -⟩ := inv_hate h ht hr hu hp
      exact ⟨b1, hloc b2 b3⟩
    · exact ⟨h.mono (by omega), fun _ z => z⟩
  · rcases k with k | k
    · rw [if_neg (by rw [k]; decide), if_neg (by rw [k]; decide), if_neg (by rw [k]; decide), if_neg (by rw [k]; decide), if_pos k, eu, nI_clamp (by omega), e1, e2]
      obtain ⟨b1, b2, b3, -⟩ := inv_change h (by omega) hr hu hv e3 e4 (Or.inr hp)
      exact ⟨b1.mono (by omega), hloc b2 b3⟩
    · rw [if_neg (by rw [k]; decide), if_neg (by rw [k]; decide), if_neg (by rw [k]; decide), if_neg (by rw [k]; decide), if_neg (by rw [k]; decide)]
      obtain ⟨b1, b2, b3⟩ := inv_tnew h hr hv e1 e2 e3 e4 hp
      exact ⟨b1.mono (by omega), hloc b2 b3⟩
theorem m_take {s : MS} {t r j : Nat} (h : Inv s t) (ht : t + 1 < 2 ^ 31) (hr : r < 4) (hj : j < mN s) (hto : s.1 20 j = nI r) (hp : NP s r) {sc : pm_Sc} {cs : List pm_C} {kn : Nat × Nat} (hc : 72 < cs.length) : pu sc 100 [.ref 31, .int (nI r), .int (nI j)] (mset cs s, kn) (pz none (mset cs (f_take s r j), kn)) := by
  obtain ⟨hv, -, hm⟩ := h.2.2.2.1 j hj
  have h4 : ¬ s.1 20 j = 4 := by rw [hto]; exact nI_ne4 hr
  obtain ⟨r', r1, r2, hk⟩ := hm h4
  obtain ⟨a1, a2, a3, a4, a5, a6, a7⟩ := h.r hr
  have hj6 : j < 600 := by have := h.m.2; omega
  have hky := h.1.2.2.1
  rcases hk with ⟨k, q, hq, eq⟩ | ⟨k, p, hp', ep⟩ | ⟨k, u, hu, eu⟩ | ⟨k, ⟨u, hu, eu⟩, n, f, e1, e2, e3, e4⟩
  · rcases k with k | k
    · exact c_m_take0 hc r j hr hj6 k a1 a2 (a3.ok h.q.2) hky h.m.1 h.m.2 (fun _ _ c => by rw [eq] at c ⊢; exact app_pre h hr hq c)
    · exact c_m_take1 hc r j hr hj6 k a1 a2 hky h.m.1 h.m.2 (fun _ _ c => by rw [eq] at c ⊢; exact app_pre h hr hq c)
  · exact c_m_take3 hc r j hr hj6 k ep (by omega) h.m.1 h.m.2
  · exact c_m_take5 hc r j hr hj6 k h.m.1 h.m.2 (by rw [eu]; exact (inv_hate h ht hr hu hp).2.2.2)
  · rcases k with k | k
    · exact c_m_take6 hc r j hr hj6 k hu eu (by rw [e1, e2]; exact (inv_change h (by omega) hr hu hv e3 e4 (Or.inr hp)).2.2.2)
    · exact c_m_take7 hc r j hr hj6 k e1 e4.1 (e4.ok h.q.2) hky h.m.1 h.m.2
/-! the client -/
theorem fin_ne {s : MS} {q a j : Nat} {res p : Int32} (h : ¬ (42 ≤ a ∧ a ≤ 44 ∧ j = q)) : (f_fin s q res p).1 a j = s.1 a j := by
  unfold f_fin
  rw [up_n (by omega), up_n (by omega), up_n (by omega)]
theorem inv_fin {s : MS} {t q : Nat} {res p : Int32} (h : Inv s t) (hq : q < nqN s) : Inv (f_fin s q res p) t := by
  refine h.cli (fun a j _ _ => fin_ne (by omega)) rfl ?_ (fun x h1 h2 => ?_)
  · obtain ⟨a1, a2, a3, a4⟩ := h.2.2.2.2.1
    refine ⟨by rw [fin_ne (by omega)]; exact a1, fun k hk => by rw [fin_ne (by omega), fin_ne (by omega)]; exact a2 k hk, fun u hu => by rw [fin_ne (by omega)]; exact a3 u hu, fun x hx => ?_⟩
    rw [fin_ne (by omega)]
    refine ⟨(a4 x hx).1, ?_⟩
    by_cases e : x = q
    · subst e
      right
      unfold f_fin
      rw [up_n (by omega), up_n (by omega), up_i]
    · rw [fin_ne (by omega)]; exact (a4 x hx).2
  · rw [fin_ne (by omega), fin_ne (by omega), fin_ne (by omega), fin_ne (by omega)]
    obtain ⟨b1, b2, b3, b4, b5⟩ := h.2.2.2.2.2.2 x h1 h2
    exact ⟨b1, b2, b3, b4, fun u hu => by rw [fin_ne (by omega)]; exact b5 u hu⟩
theorem inv_look {s : MS} {t q : Nat} (h : Inv s t) (hq : q < nqN s) : Inv (f_look s q) t := by
  unfold f_look
  split
  · split
    · exact inv_fin h hq
    · split
      · exact h
      · exact inv_fin h hq
  · exact h
theorem inv_lkN {s : MS} {t : Nat} (h : Inv s t) : ∀ k, k ≤ nqN s → Inv (lkN s k) t
  | 0, _ => h
  | k + 1, hk => inv_look (inv_lkN h k (by omega)) (by rw [nq_cong (lkN_k (by omega) k)]; omega)
theorem inv_cvw {s : MS} {t : Nat} {v : Int32} (h : Inv s t) (hv : Vw t v) : Inv (cvw s v) t := by
  refine h.cli (fun a j _ _ => up_n (by omega)) rfl ?_ (fun x h1 h2 => h.2.2.2.2.2.2 x h1 h2)
  obtain ⟨a1, a2, a3, a4⟩ := h.2.2.2.2.1
  refine ⟨?_, a2, a3, a4⟩
  unfold cvw
  rw [up_i]
  split
  · exact a1
  · exact hv
theorem krp_ne {s : MS} {k a j : Nat} {v p d res : Int32} (h : ¬ (30 ≤ a ∧ a ≤ 33 ∧ j = k)) : (krp s k v p d res).1 a j = s.1 a j := by
  unfold krp
  split
  · rfl
  · rw [up_n (by omega), up_n (by omega), up_n (by omega), up_n (by omega)]
theorem krp_l {s : MS} {k : Nat} {v p d res : Int32} : (krp s k v p d res).2 = s.2 := by unfold krp; split <;> rfl
theorem inv_krp {s : MS} {t q u p : Nat} {v d res : Int32} (h : Inv s t) (hq : q < nqN s) (hu : u < 4) (hv : Vw t v) (hp : p ≤ 12) : Inv (krp s (4 * q + u) v (nI p) d res) t := by
  refine h.cli (fun a j _ _ => krp_ne (by omega)) krp_l ?_ (fun x h1 h2 => ?_)
  · obtain ⟨a1, a2, a3, a4⟩ := h.2.2.2.2.1
    refine ⟨by rw [krp_ne (by omega)]; exact a1, fun k hk => ?_, fun u hu => by rw [krp_ne (by omega)]; exact a3 u hu, fun x hx => by rw [krp_ne (by omega), krp_ne (by omega)]; exact a4 x hx⟩
    by_cases e : k = 4 * q + u
    · subst e
      unfold krp
      split
      · exact a2 _ hk
      · right
        refine ⟨?_, p, hp, ?_⟩
        · rw [up_n (by omega), up_n (by omega), up_n (by omega), up_i]; exact hv
        · rw [up_n (by omega), up_n (by omega), up_i]
    · rw [krp_ne (by omega), krp_ne (by omega)]; exact a2 k hk
  · rw [krp_ne (by omega), krp_ne (by omega), krp_ne (by omega), krp_ne (by omega)]
    obtain ⟨b1, b2, b3, b4, b5⟩ := h.2.2.2.2.2.2 x h1 h2
    exact ⟨b1, b2, b3, b4, fun w hw => by rw [krp_ne (by omega)]; exact b5 w hw⟩
theorem inv_trep {s : MS} {t q u p : Nat} {v d res : Int32} (h : Inv s t) (hq : q < nqN s) (hu : u < 4) (hv : Vw t v) (hp : p ≤ 12) : Inv (f_trep s u q v (nI p) d res) t := by
  have h1 := inv_cvw h hv
  have e1 : nqN (cvw s v) = nqN s := nq_cong (up_n (by omega))
  have h2 := inv_krp (q := q) (d := d) (res := res) h1 (by omega) hu hv hp
  have e2 : nqN (krp (cvw s v) (4 * q + u) v (nI p) d res) = nqN (cvw s v) := nq_cong (krp_ne (by omega))
  exact inv_look (q := q) h2 (by omega)
theorem ack_ne {s : MS} {r j a i : Nat} (h : ¬ (34 ≤ a ∧ a ≤ 36 ∧ i = r)) : (ackS s r j).1 a i = s.1 a i := by
  unfold ackS
  rw [up_n (by omega), up_n (by omega), up_n (by omega)]
theorem ack_get (s : MS) (r j : Nat) : (ackS s r j).1 34 r = s.1 21 j ∧ (ackS s r j).1 35 r = s.1 22 j ∧ (ackS s r j).1 36 r = s.1 24 j := by simp [ackS, up]
theorem inv_ack {s : MS} {t r j : Nat} (h : Inv s t) (hv : Vw t (s.1 21 j)) : Inv (ackS s r j) t := by
  refine h.cli (fun a i _ _ => ack_ne (by omega)) rfl ?_ (fun x h1 h2 => ?_)
  · obtain ⟨a1, a2, a3, a4⟩ := h.2.2.2.2.1
    refine ⟨by rw [ack_ne (by omega)]; exact a1, fun k hk => by rw [ack_ne (by omega), ack_ne (by omega)]; exact a2 k hk, fun u hu => ?_, fun x hx => by rw [ack_ne (by omega), ack_ne (by omega)]; exact a4 x hx⟩
    by_cases e : u = r
    · subst e
      rw [(ack_get s u j).1]; exact Or.inr hv
    · rw [ack_ne (by omega)]; exact a3 u hu
  · rw [ack_ne (by omega), ack_ne (by omega), ack_ne (by omega), ack_ne (by omega)]
    obtain ⟨b1, b2, b3, b4, b5⟩ := h.2.2.2.2.2.2 x h1 h2
    exact ⟨b1, b2, b3, b4, fun w hw => by rw [ack_ne (by omega)]; exact b5 w hw⟩
theorem inv_tack {s : MS} {t r j : Nat} (h : Inv s t) (hv : Vw t (s.1 21 j)) : Inv (f_tack s r j) t := by
  have e : nqN (ackS s r j) = nqN s := nq_cong (ack_ne (by omega))
  exact inv_lkN (inv_ack h hv) _ (by omega)
theorem inv_st {s : MS} {t j : Nat} (h : Inv s t) (hj : j < mN s) (v : Int32) : Inv (up s 28 j v) t := by
  obtain ⟨b1, b2, b3, b4, b5, b6⟩ := h
  have em : mN (up s 28 j v) = mN s := m_cong (up_n (by omega))
  refine ⟨b1, fun x hx => (b2 x hx).cong (Nat.le_refl _) (Nat.le_refl _) (fun a _ _ _ => up_n (by omega)) rfl, fun k hk => (b3 k hk).cong (Nat.le_refl _) (Nat.le_refl _) (fun a _ _ => up_n (by omega)) rfl, fun i hi => (b4 i (by omega)).cong (Nat.le_refl _) (Nat.le_refl _) (fun a _ _ => up_n (by omega)) rfl, b5.cong (Nat.le_refl _) (fun a i _ _ => up_n (by omega)), fun i hi => ?_, b6.2⟩
  rw [up_n (by omega)]
  exact b6.1 i (by omega)
theorem np_cli {s s' : MS} (h1 : ∀ a j, 1 ≤ a → a < 29 → s'.1 a j = s.1 a j) {y : Nat} (h : NP s y) : NP s' y := h.cong (h1 6 y (by omega) (by omega)) (h1 10 y (by omega) (by omega)) (fun u _ => h1 13 _ (by omega) (by omega))
theorem look_lt {s : MS} {q a j : Nat} (ha : a < 42) : (f_look s q).1 a j = s.1 a j := f_look_k (by omega)
theorem trep_lt {s : MS} {u q a j : Nat} {v p d res : Int32} (ha : a < 29) : (f_trep s u q v p d res).1 a j = s.1 a j := by
  unfold f_trep
  rw [look_lt (by omega), krp_ne (by omega)]
  exact up_n (by omega)
theorem tack_lt {s : MS} {r i a j : Nat} (ha : a < 29) : (f_tack s r i).1 a j = s.1 a j := by
  unfold f_tack
  rw [lkN_k (by omega), ack_ne (by omega)]
/-- a message is delivered -/
theorem inv_del {s : MS} {t j : Nat} (h : Inv s t) (ht : t + 1 < 2 ^ 31) (hj : j < mN s) (hp : ∀ y, y < 4 → NP s y) : Inv (f_del s j) (t + 1) ∧ (∀ y, NP s y → NP (f_del s j) y) := by
  unfold f_del
  split
  · have h' := inv_st h hj 1
    have hn : ∀ y, NP s y → NP (up s 28 j 1) y := fun y hy => np_up hy (by omega)
    have em : mN (up s 28 j 1) = mN s := m_cong (up_n (by omega))
    have eq : nqN (up s 28 j 1) = nqN s := nq_cong (up_n (by omega))
    obtain ⟨hv, h1, h2⟩ := h.2.2.2.1 j hj
    split
    · rename_i c4
      obtain ⟨⟨u, hu, eu⟩, h3⟩ := h1 c4
      split
      · rename_i c2
        rcases h3 with ⟨-, ⟨q, hq, eq'⟩, p, hp', ep⟩ | c
        · rw [eu, eq', ep, nI_clamp (by omega), nI_clamp (by have := h.q.2; omega)]
          exact ⟨Inv.mono (inv_trep (q := q) (u := u) (p := p) h' (by omega) hu hv hp') (by omega), fun y hy => np_cli (fun a i _ g => trep_lt g) (hn y hy)⟩
        · rw [c2] at c; exact absurd c (by decide)
      · exact ⟨(inv_tack h' hv).mono (by omega), fun y hy => np_cli (fun a i _ g => tack_lt g) (hn y hy)⟩
    · rename_i c4
      obtain ⟨r, hr, er, -⟩ := h2 c4
      split
      · exact ⟨h'.mono (by omega), hn⟩
      · rw [er, nI_clamp (by omega)]
        obtain ⟨b1, b2⟩ := inv_take h' ht hr (by omega) er (hn r (hp r hr))
        exact ⟨b1, fun y hy => b2 y (hn y hy)⟩
  · exact ⟨h.mono (by omega), fun _ z => z⟩
theorem m_del {s z : MS} {t j : Nat} (hz : up s 0 0 0 = z) (h : Inv z t) (ht : t + 1 < 2 ^ 31) (hj : j < mN z) (hp : ∀ y, y < 4 → NP z y) {sc : pm_Sc} {cs : List pm_C} {kn : Nat × Nat} (hc : 72 < cs.length) : pu sc 111 [.ref 31, .int (nI j)] (mset cs s, kn) (pz (some (.int (b01 (z.1 28 j = 0)))) (mset cs (f_del z j), kn)) := by
  obtain ⟨hv, h1, h2⟩ := h.2.2.2.1 j hj
  refine c_m_del1 hc hz j h.m.1 h.m.2 hj h.q.2 h.q.1 (fun _ c4 => ?_) (fun _ c4 _ => ?_)
  · obtain ⟨⟨u, hu, eu⟩, h3⟩ := h1 c4
    refine ⟨u, hu, eu, fun c2 => ?_⟩
    rcases h3 with ⟨-, ⟨q, hq, eq'⟩, p, hp', ep⟩ | c
    · exact ⟨q, by have := h.q.2; omega, eq'⟩
    · rw [c2] at c; exact absurd c (by decide)
  · obtain ⟨r, hr, er, -⟩ := h2 c4
    exact ⟨r, hr, er, m_take (inv_st h hj 1) ht hr hj er (np_up (hp r hr) (by omega)) hc⟩
/-! issue, retry, patience, lie, echo, lose -/
theorem inv_0 {s : MS} {t : Nat} (h : Inv s t) (v : Int32) : Inv (up s 0 0 v) t := h.scr (fun a j _ _ => up_n (by omega)) rfl
theorem inv_num {s : MS} {t : Nat} (h : Inv s t) (f : Nat → Int32) : Inv (numset s f) t := h.scr (fun a j _ g => if_neg g) rfl
theorem iss_ne {s : MS} {o k v : Int32} {a j : Nat} (h : ¬ ((3 ≤ a ∧ a ≤ 5 ∧ j = nqN s) ∨ (a = 2 ∧ j = 0))) : (iss s o k v).1 a j = s.1 a j := by
  unfold iss
  rw [up_n (by omega), up_n (by omega), up_n (by omega), up_n (by omega)]
theorem iss_get (s : MS) (o k v : Int32) : (iss s o k v).1 3 (nqN s) = o ∧ (iss s o k v).1 4 (nqN s) = k ∧ (iss s o k v).1 5 (nqN s) = v ∧ (iss s o k v).1 2 0 = nI (nqN s + 1) := by simp [iss, up]
theorem inv_iss {s : MS} {t y : Nat} {o a : Int32} (h : Inv s t) (hq : nqN s < 12) (hy : y < 4) : Inv (iss s o (nI y) a) t := by
  obtain ⟨g1, g2, g3, g4⟩ := iss_get s o (nI y) a
  have eq : nqN (iss s o (nI y) a) = nqN s + 1 := by
    have e : nqN (iss s o (nI y) a) = ((iss s o (nI y) a).1 2 0).toNatClampNeg := rfl
    rw [e, g4, nI_clamp (by omega)]
  obtain ⟨⟨b1, b1', b1'', b1'''⟩, b2, b3, b4, b5, b6⟩ := h
  have em : mN (iss s o (nI y) a) = mN s := m_cong (iss_ne (by omega))
  refine ⟨⟨b1, ⟨nqN s + 1, by omega, g4⟩, fun q hq' => ?_, b1'''⟩, fun x hx => (b2 x hx).cong (Nat.le_refl _) (by omega) (fun i _ _ _ => iss_ne (by omega)) rfl, fun k hk => (b3 k hk).cong (Nat.le_refl _) (by omega) (fun i _ _ => iss_ne (by omega)) rfl, fun j hj => (b4 j (by omega)).cong (Nat.le_refl _) (by omega) (fun i _ _ => iss_ne (by omega)) rfl, b5.cong (Nat.le_refl _) (fun i j _ _ => iss_ne (by omega)), fun j hj => ?_, fun q h1 h2 => ?_⟩
  · by_cases e : q = nqN s
    · subst e; exact ⟨y, hy, g2⟩
    · rw [iss_ne (by omega)]; exact b1'' q hq'
  · rw [iss_ne (by omega)]; exact b6.1 j (by omega)
  · exact b6.2 q (by omega) h2
theorem inv_issue {s : MS} {t : Nat} (h : Inv s t) (ht : t < 2 ^ 31) (o k a : Int32) : Inv (f_issue s o k a) t ∧ (∀ y, NP s y → NP (f_issue s o k a) y) := by
  unfold f_issue
  split
  · exact ⟨inv_0 h 1, fun y hy => np_up hy (by omega)⟩
  · rename_i c
    split
    · exact ⟨inv_0 h 2, fun y hy => np_up hy (by omega)⟩
    · rename_i c2
      have hq : nqN s < 12 := by
        obtain ⟨h1, h2⟩ := h.q
        rcases Nat.lt_or_ge (nqN s) 12 with g | g
        · exact g
        · exact absurd (by rw [h1, show nqN s = 12 by omega]; rfl) c2
      obtain ⟨y, hy, ey⟩ := isRep_of (x := k) (fun z => c (Or.inr (Or.inr (Or.inl z)))) (fun z => c (Or.inr (Or.inr (Or.inr (fun w => absurd (Int32.lt_of_lt_of_le z w) Int32.lt_irrefl)))))
      subst ey
      have hi := inv_iss (o := o) (a := a) h hq hy
      have eq : nqN (iss s o (nI y) a) = nqN s + 1 := by
        have e : nqN (iss s o (nI y) a) = ((iss s o (nI y) a).1 2 0).toNatClampNeg := rfl
        rw [e, (iss_get s o (nI y) a).2.2.2, nI_clamp (by omega)]
      obtain ⟨⟨v, hv, ev⟩, -⟩ := h.2.2.2.2.1
      have e4 : rm4 (s.1 29 0) = nI (v % 4) := by rw [ev]; exact pk_rem (d := 4) (by omega) (by omega) (by omega)
      refine ⟨inv_send hi 0 ⟨⟨0, by omega, rfl⟩, fun z => ?_, fun _ => ⟨v % 4, Nat.mod_lt _ (by omega), e4, Or.inl ⟨Or.inl rfl, nqN s, by omega, rfl⟩⟩⟩, fun x hx => NP.fr (s := iss s o (nI y) a) (hx.cong (iss_ne (by omega)) (iss_ne (by omega)) (fun u _ => iss_ne (by omega))) fr_send⟩
      rw [e4] at z
      exact absurd z (nI_ne4 (Nat.mod_lt _ (by omega)))
theorem fr_alk {s : MS} {q : Nat} : ∀ d r, r + d ≤ 4 → frN s q d r < r + d → 3 ≤ alN s q (frN s q d r) 4
  | 0, r, _, h => by rw [frN] at h; omega
  | d + 1, r, hd, h => by
    rw [frN] at h ⊢
    split
    · assumption
    · rename_i c
      rw [if_neg c] at h
      exact fr_alk d (r + 1) (by omega) (by omega)
theorem alN_neg {s : MS} {q r : Nat} (h : s.1 30 (4 * q + r) < 0) : ∀ t, alN s q r t = 0
  | 0 => rfl
  | t + 1 => by rw [alN, if_neg (fun z => z.1 h), alN_neg h t]; rfl
theorem fr_ok {s : MS} {q t : Nat} (h : Inv s t) (hq : q < 12) (hf : ¬ frN s q 4 0 = 4) : frN s q 4 0 < 4 ∧ ¬ s.1 30 (4 * q + frN s q 4 0) < 0 ∧ Vw t (s.1 30 (4 * q + frN s q 4 0)) ∧ ∃ p, p ≤ 12 ∧ s.1 31 (4 * q + frN s q 4 0) = nI p := by
  have h1 := frN_le s q 4 0
  have h2 : frN s q 4 0 < 4 := by omega
  have h3 := fr_alk (s := s) (q := q) 4 0 (by omega) (by omega)
  have h4 : ¬ s.1 30 (4 * q + frN s q 4 0) < 0 := fun z => by
    rw [alN_neg z] at h3; exact absurd h3 (by decide)
  refine ⟨h2, h4, ?_⟩
  rcases h.2.2.2.2.1.2.1 (4 * q + frN s q 4 0) (by omega) with z | z
  · exact absurd (by rw [z]; decide) h4
  · exact z
theorem prv_ne {s : MS} {q k a j : Nat} (h : ¬ (37 ≤ a ∧ a ≤ 41 ∧ j = q)) : (prv s q k).1 a j = s.1 a j := by
  unfold prv
  rw [up_n (by omega), up_n (by omega), up_n (by omega), up_n (by omega), up_n (by omega)]
theorem prv_get (s : MS) (q k : Nat) : (prv s q k).1 37 q = 1 ∧ (prv s q k).1 38 q = s.1 30 k ∧ (prv s q k).1 39 q = s.1 31 k ∧ (prv s q k).1 40 q = s.1 32 k ∧ (prv s q k).1 41 q = s.1 33 k := by simp [prv, up]
theorem inv_prv {s : MS} {t q k : Nat} (h : Inv s t) (hq : q < nqN s) : Inv (prv s q k) t := by
  refine h.cli (fun a i _ _ => prv_ne (by omega)) rfl ?_ (fun x h1 h2 => ?_)
  · obtain ⟨a1, a2, a3, a4⟩ := h.2.2.2.2.1
    refine ⟨by rw [prv_ne (by omega)]; exact a1, fun k hk => by rw [prv_ne (by omega), prv_ne (by omega)]; exact a2 k hk, fun u hu => by rw [prv_ne (by omega)]; exact a3 u hu, fun x hx => ?_⟩
    rw [prv_ne (a := 42) (by omega)]
    refine ⟨?_, (a4 x hx).2⟩
    by_cases e : x = q
    · subst e
      exact Or.inr (prv_get s x k).1
    · rw [prv_ne (by omega)]; exact (a4 x hx).1
  · rw [prv_ne (by omega), prv_ne (by omega), prv_ne (by omega), prv_ne (by omega)]
    obtain ⟨b1, b2, b3, b4, b5⟩ := h.2.2.2.2.2.2 x h1 h2
    exact ⟨b1, b2, b3, b4, fun w hw => by rw [prv_ne (by omega)]; exact b5 w hw⟩
theorem inv_retry {s : MS} {t q : Nat} (h : Inv s t) (hq : q < nqN s) : Inv (f_retry s q) t ∧ (∀ y, NP s y → NP (f_retry s q) y) := by
  have hq12 := h.q.2
  unfold f_retry
  split
  · split
    · exact ⟨inv_all h 0 (fun r hr => ⟨⟨0, by omega, rfl⟩, fun z => absurd z (nI_ne4 hr), fun _ => ⟨r, hr, rfl, Or.inl ⟨Or.inl rfl, q, hq, rfl⟩⟩⟩) 4 (by omega), fun y hy => hy.fr (fr_all 4)⟩
    · rename_i c
      obtain ⟨c1, c2, c3, p, c4, c5⟩ := fr_ok h (by omega) c
      rw [c5]
      exact ⟨inv_all (inv_prv h hq) _ (fun r hr => ⟨c3, fun z => absurd z (nI_ne4 hr), fun _ => ⟨r, hr, rfl, Or.inr (Or.inl ⟨rfl, p, c4, rfl⟩)⟩⟩) 4 (by omega), fun y hy => NP.fr (s := prv s q _) (hy.cong (prv_ne (by omega)) (prv_ne (by omega)) (fun u _ => prv_ne (by omega))) (fr_all 4)⟩
  · exact ⟨h, fun _ z => z⟩
theorem inv_hatS {s : MS} {t r : Nat} (h : Inv s t) (hr : r < 4) : Inv (hatS s r) t := inv_all h 0 (fun x hx => ⟨(h.r hr).2.2.2.2.1, fun z => absurd z (nI_ne4 hx), fun _ => ⟨x, hx, rfl, Or.inr (Or.inr ⟨rfl, r, hr, rfl⟩)⟩⟩) 4 (by omega)
theorem inv_pat {s : MS} {t r : Nat} (h : Inv s t) (ht : t + 1 < 2 ^ 31) (hr : r < 4) (hp : NP s r) : Inv (f_pat s r) (t + 1) ∧ (∀ y, NP s y → NP (f_pat s r) y) := by
  unfold f_pat
  split
  · exact ⟨h.mono (by omega), fun _ z => z⟩
  · obtain ⟨b1, b2, b3, -⟩ := inv_hate (inv_hatS h hr) ht hr hr (hp.fr (fr_all 4))
    refine ⟨b1, fun y hy => ?_⟩
    by_cases e : y = r
    · subst e; exact b2
    · exact NP.loc (NP.fr hy (fr_all 4)) b3 e
theorem m_pat {s z : MS} {t r : Nat} (hz : up s 0 0 0 = z) (h : Inv z t) (ht : t + 1 < 2 ^ 31) (hr : r < 4) (hp : NP z r) {sc : pm_Sc} {cs : List pm_C} {kn : Nat × Nat} (hc : 72 < cs.length) : pu sc 116 [.ref 31, .int (nI r)] (mset cs s, kn) (pz (some (.int (b01 (¬ (nI r = z.1 1 0 ∨ (z.1 10 r = 0 ∧ z.1 11 r = 0)))))) (mset cs (f_pat z r), kn)) := c_m_pat1 hc hz r hr h.m.1 h.m.2 (inv_hate (inv_hatS h hr) ht hr hr (hp.fr (fr_all 4))).2.2.2
/-! what is under way -/
theorem k_send {s : MS} {k fr to v q p d : Int32} {j : Nat} : (f_send s k fr to v q p d).1 28 j = s.1 28 j := by unfold f_send; split <;> rfl
theorem k_row {s : MS} {k fr to v n f : Int32} {x : Int64} {j : Nat} : (f_row s k fr to v x n f).1 28 j = s.1 28 j := by unfold f_row; split <;> rfl
theorem k_reply {s : MS} {r p j : Nat} : (f_reply s r p).1 28 j = s.1 28 j := by unfold f_reply; split <;> rfl
theorem k_all {s : MS} {k fr v q p d : Int32} {j : Nat} : ∀ n, (f_all s k fr v q p d n).1 28 j = s.1 28 j
  | 0 => rfl
  | n + 1 => by
    rw [f_all]; split
    · exact k_all n
    · rw [k_send]; exact k_all n
theorem k_wan {s : MS} {r j : Nat} {x : Int64} (k : Nat) : (wanN s r x k).1 28 j = s.1 28 j := wanN_k (by omega) k
theorem k_rep {s : MS} {r j : Nat} : ∀ k, (repN s r k).1 28 j = s.1 28 j
  | 0 => rfl
  | k + 1 => by rw [repN, k_reply]; exact k_rep k
theorem k_turn {s : MS} {r n j : Nat} {v f : Int32} {x : Int64} : (f_turn s r v x n f).1 28 j = s.1 28 j := by unfold f_turn; rw [k_rep, k_wan]; rfl
theorem k_rw {s : MS} {r j : Nat} {x : Int64} {n f : Int32} : ∀ u, (rwN s r x n f u).1 28 j = s.1 28 j
  | 0 => rfl
  | u + 1 => by
    rw [rwN]; split
    · exact k_rw u
    · rw [k_row]; exact k_rw u
theorem k_new {s : MS} {r j : Nat} : (f_new s r).1 28 j = s.1 28 j := by unfold f_new nwR; rw [k_turn, k_rw]
theorem k_change {s : MS} {r u j : Nat} {v n f : Int32} {x : Int64} : (f_change s r u v x n f).1 28 j = s.1 28 j := by
  unfold f_change
  split
  · split
    · rw [k_new]; rfl
    · rfl
  · rfl
theorem k_hate {s : MS} {r j : Nat} {fr : Int32} : (f_hate s r fr).1 28 j = s.1 28 j := by
  unfold f_hate
  split
  · split
    · rw [k_change]; rfl
    · rw [k_row]; rfl
  · rfl
theorem k_ask {s : MS} {r j : Nat} {q fr : Int32} : (f_ask s r q fr).1 28 j = s.1 28 j := by
  unfold f_ask
  split
  · split
    · rw [k_reply]; unfold f_order; rw [k_all]; rfl
    · split
      · rfl
      · rw [k_send]; rfl
  · split
    · unfold f_order; rw [k_all, k_reply]
    · rw [k_reply]
theorem k_ord {s : MS} {r j : Nat} {fr v p q d : Int32} : (f_ord s r fr v p q d).1 28 j = s.1 28 j := by
  unfold f_ord
  split
  · rw [k_reply]; rfl
  · rfl
theorem k_take {s : MS} {r m j : Nat} : (f_take s r m).1 28 j = s.1 28 j := by
  unfold f_take
  split
  · split
    · exact k_ask
    · rfl
  · split
    · exact k_ord
    · split
      · split
        · unfold f_proof; split
          · rw [k_send]; rfl
          · rfl
        · rfl
      · split
        · split
          · exact k_hate
          · rfl
        · split
          · exact k_change
          · unfold f_tnew; split
            · exact k_turn
            · rfl
theorem k_del {s : MS} {i j : Nat} : (f_del s i).1 28 j = if s.1 28 i = 0 ∧ j = i then 1 else s.1 28 j := by
  have e : (up s 28 i 1).1 28 j = if j = i then 1 else s.1 28 j := by
    by_cases e : j = i
    · subst e; rw [up_i, if_pos rfl]
    · rw [up_n (by omega), if_neg e]
  unfold f_del
  by_cases c : s.1 28 i = 0
  · rw [if_pos c]
    have e2 : (if s.1 28 i = 0 ∧ j = i then (1 : Int32) else s.1 28 j) = if j = i then 1 else s.1 28 j := by
      by_cases e : j = i
      · rw [if_pos ⟨c, e⟩, if_pos e]
      · rw [if_neg (fun z => e z.2), if_neg e]
    rw [e2]
    split
    · split
      · rw [trep_lt (by omega), e]
      · rw [tack_lt (by omega), e]
    · split
      · exact e
      · rw [k_take, e]
  · rw [if_neg c, if_neg (fun z => c z.1)]
def dlN (s : MS) : Nat → Nat
  | 0 => 0
  | j + 1 => dlN s j + (if s.1 28 j = 0 then 0 else 1)
theorem dlN_le (s : MS) : ∀ n, dlN s n ≤ n
  | 0 => Nat.le_refl _
  | n + 1 => by rw [dlN]; have := dlN_le s n; split <;> omega
theorem dlN_mono {s s' : MS} : ∀ n, (∀ j, s'.1 28 j = 0 → s.1 28 j = 0) → dlN s n ≤ dlN s' n
  | 0, _ => Nat.le_refl _
  | n + 1, h => by
    rw [dlN, dlN]
    have := dlN_mono n h
    by_cases e : s'.1 28 n = 0
    · rw [if_pos e, if_pos (h n e)]; omega
    · rw [if_neg e]; split <;> omega
theorem dlN_cong {s s' : MS} (n : Nat) (h : ∀ j, s'.1 28 j = s.1 28 j) : dlN s' n = dlN s n := Nat.le_antisymm (dlN_mono n (fun j z => by rw [h]; exact z)) (dlN_mono n (fun j z => by rw [← h]; exact z))
theorem dlN_more {s s' : MS} {i : Nat} (h0 : s.1 28 i = 0) (h1 : ¬ s'.1 28 i = 0) : ∀ n, i < n → (∀ j, s'.1 28 j = 0 → s.1 28 j = 0) → dlN s n + 1 ≤ dlN s' n
  | 0, hi, _ => by omega
  | n + 1, hi, h => by
    rw [dlN, dlN]
    by_cases e : i = n
    · subst e
      rw [if_pos h0, if_neg h1]
      have := dlN_mono i h
      omega
    · have := dlN_more h0 h1 n (by omega) h
      by_cases e : s'.1 28 n = 0
      · rw [if_pos e, if_pos (h n e)]; omega
      · rw [if_neg e]; split <;> omega
theorem dl_del {s : MS} {i : Nat} (hi : i < 600) : dlN s 600 + (if s.1 28 i = 0 then 1 else 0) ≤ dlN (f_del s i) 600 := by
  have hm : ∀ j, (f_del s i).1 28 j = 0 → s.1 28 j = 0 := fun j hj => by
    rw [k_del] at hj
    by_cases c : s.1 28 i = 0 ∧ j = i
    · rw [if_pos c] at hj; exact absurd hj (by decide)
    · rw [if_neg c] at hj; exact hj
  by_cases c : s.1 28 i = 0
  · rw [if_pos c]
    exact dlN_more c (by rw [k_del, if_pos ⟨c, rfl⟩]; decide) 600 hi hm
  · rw [if_neg c, Nat.add_zero]
    exact dlN_mono 600 hm
/-- what holds between the calls -/
def All (s : MS) (t : Nat) : Prop := Inv s t ∧ ∀ y, y < 4 → NP s y
def FlP (T : Nat) (s : MS) : Prop := ∃ t, t + 600 ≤ T + dlN s 600 ∧ All s t
theorem all_0 {s : MS} {t : Nat} (h : All s t) (v : Int32) : All (up s 0 0 v) t := ⟨inv_0 h.1 v, fun y hy => np_up (h.2 y hy) (by omega)⟩
theorem flp_del {T : Nat} (hT : T + 1 < 2 ^ 31) {s : MS} {j : Nat} (h : FlP T s) (hj : j < mN s) : FlP T (f_del (up s 0 0 0) j) := by
  obtain ⟨t, h1, h2⟩ := h
  have h0 := all_0 h2 0
  have hj' : j < mN (up s 0 0 0) := by rw [m_cong (up_n (by omega))]; exact hj
  have hd := dlN_le s 600
  have h6 := h2.1.m.2
  have e0 : dlN (up s 0 0 0) 600 = dlN s 600 := dlN_cong 600 (fun j => up_n (by omega))
  have hdl := dl_del (s := up s 0 0 0) (i := j) (by omega)
  obtain ⟨b1, b2⟩ := inv_del h0.1 (by omega) hj' h0.2
  by_cases c : (up s 0 0 0).1 28 j = 0
  · rw [if_pos c] at hdl
    exact ⟨t + 1, by omega, b1, fun y hy => b2 y (h0.2 y hy)⟩
  · rw [if_neg c] at hdl
    have e : f_del (up s 0 0 0) j = up s 0 0 0 := by unfold f_del; rw [if_neg c]
    rw [e] at hdl ⊢
    exact ⟨t, by omega, h0⟩
theorem m_fl {s z : MS} (hz : up s 0 0 0 = z) {T : Nat} (hT : T + 1 < 2 ^ 31) (h : FlP T z) {sc : pm_Sc} {cs : List pm_C} {kn : Nat × Nat} (hc : 72 < cs.length) (j : Nat) (hj : j < 2 ^ 31 - 600) : pu sc 112 [.ref 31, .int (nI j)] (mset cs s, kn) (pz (some (.int (flN 600 z j 0).2)) (mset cs (flN 600 z j 0).1, kn)) := by
  refine c_m_fl1 hc hz (PI := FlP T) (fun s h => ?_) (fun s j h hj => ?_) j hj h
  · obtain ⟨t, h1, h2⟩ := h
    exact ⟨mN s, h2.1.m.2, h2.1.m.1⟩
  · refine ⟨?_, flp_del hT h hj⟩
    obtain ⟨t, h1, h2⟩ := h
    have h0 := all_0 h2 0
    have hd := dlN_le s 600
    exact m_del rfl h0.1 (by omega) (by rw [m_cong (up_n (by omega))]; exact hj) h0.2 hc
