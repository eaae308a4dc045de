-- deps: 46.inv
/-! what always holds, over the reference's steps -/
def MsgV (nq t : Nat) (k fr to v q p : Int32) : Prop := Vw t v ∧
  (to = 4 → (∃ u, u < 4 ∧ fr = nI u) ∧ ((k = 2 ∧ (∃ x, x < nq ∧ q = nI x) ∧ ∃ y, y ≤ 12 ∧ p = nI y) ∨ k = 4)) ∧
  (¬ to = 4 → ∃ r, r < 4 ∧ to = nI r ∧ (((k = 0 ∨ k = 1) ∧ ∃ x, x < nq ∧ q = nI x) ∨ (k = 3 ∧ ∃ y, y ≤ 12 ∧ p = nI y) ∨ (k = 5 ∧ ∃ u, u < 4 ∧ fr = nI u)))
theorem put_get (s : MS) (m : Nat) (k fr to v q p d : Int32) : (put s m k fr to v q p d).1 18 m = k ∧ (put s m k fr to v q p d).1 19 m = fr ∧ (put s m k fr to v q p d).1 20 m = to ∧ (put s m k fr to v q p d).1 21 m = v ∧ (put s m k fr to v q p d).1 22 m = p ∧ (put s m k fr to v q p d).1 23 m = q ∧ (put s m k fr to v q p d).1 24 m = d := by simp [put, up]
theorem put_ne {s : MS} {m a j : Nat} {k fr to v q p d : Int32} (h : ¬ ((18 ≤ a ∧ a ≤ 24 ∧ j = m) ∨ (a = 17 ∧ j = 0))) : (put s m k fr to v q p d).1 a j = s.1 a j := by
  unfold put
  rw [up_n (by omega), up_n (by omega), up_n (by omega), up_n (by omega), up_n (by omega), up_n (by omega), up_n (by omega), up_n (by omega)]
theorem put_17 {s : MS} {m : Nat} {k fr to v q p d : Int32} (hm : s.1 17 0 = nI m) : (put s m k fr to v q p d).1 17 0 = nI (m + 1) := by
  show s.1 17 0 + 1 = _
  rw [hm, nI_succ]
theorem is600 {s : MS} {t : Nat} (h : Inv s t) (e : ¬ s.1 17 0 = 600) : mN s < 600 := by
  obtain ⟨h1, h2⟩ := h.m
  rcases Nat.lt_or_ge (mN s) 600 with g | g
  · exact g
  · exact absurd (by rw [h1, show mN s = 600 by omega]; rfl) e
theorem inv_send {s : MS} {t : Nat} (h : Inv s t) {k fr to v q p : Int32} (d : Int32) (hv : MsgV (nqN s) t k fr to v q p) : Inv (f_send s k fr to v q p d) t := by
  unfold f_send
  by_cases e : s.1 17 0 = 600
  · rw [if_pos e]; exact h
  · rw [if_neg e]
    have hlt := is600 h e
    obtain ⟨e18, e19, e20, e21, e22, e23, e24⟩ := put_get s (mN s) k fr to v q p d
    refine h.msg h.m.1 hlt fr_put (put_17 h.m.1) (fun a j g1 g2 g3 => put_ne (by omega)) (put_ne (by omega)) (fun j _ => rfl) ?_
    unfold IM
    rw [e18, e19, e20, e21, e22, e23, nq_cong (put_ne (s := s) (by omega))]
    obtain ⟨b1, b2, b3⟩ := hv
    refine ⟨b1, b2, fun z => ?_⟩
    obtain ⟨r, c1, c2, c3⟩ := b3 z
    refine ⟨r, c1, c2, ?_⟩
    rcases c3 with c | c | c
    · exact Or.inl c
    · exact Or.inr (Or.inl c)
    · exact Or.inr (Or.inr (Or.inl c))
theorem inv_all {s : MS} {t : Nat} (h : Inv s t) {k fr v q p : Int32} (d : Int32) (hv : ∀ r, r < 4 → MsgV (nqN s) t k fr (nI r) v q p) : ∀ n, n ≤ 4 → Inv (f_all s k fr v q p d n) t
  | 0, _ => h
  | n + 1, hn => by
    rw [f_all]; split
    · exact inv_all h d hv n (by omega)
    · refine inv_send (inv_all h d hv n (by omega)) d ?_
      rw [nq_cong ((fr_all n).1 2 0 (by omega) (by omega))]
      exact hv n (by omega)
theorem inv_row {s : MS} {t : Nat} (h : Inv s t) {k v : Int32} {u r n f : Nat} {x : Int64} (hk : k = 6 ∨ k = 7) (hu : u < 4) (hr : r < 4) (hv : Vw t v) (hf : f ≤ n) (hx : Row (nqN s) x n) : Inv (f_row s k (nI u) (nI r) v x (nI n) (nI f)) t := by
  unfold f_row
  by_cases e : s.1 17 0 = 600
  · rw [if_pos e]; exact h
  · rw [if_neg e]
    have hlt := is600 h e
    obtain ⟨e18, e19, e20, e21, e22, e23, e24⟩ := put_get s (mN s) k (nI u) (nI r) v (-1) (nI n) 0
    refine h.msg h.m.1 hlt ((fr_put.tr (fr_ul (by omega))).tr (fr_up (by omega))) (show s.1 17 0 + 1 = _ by rw [h.m.1, nI_succ]) (fun a j g1 g2 g3 => ?_) ?_ (fun j hj => ?_) ?_
    · exact (up_n (by omega)).trans (put_ne (a := a) (j := j) (by omega))
    · rfl
    · exact ul_n (by omega)
    · unfold IM
      have e4 : ¬ nI r = 4 := fun z => absurd ((nI_eq (b := 4) (by omega) (by omega)).mp z) (by omega)
      have g18 : (up (ul (put s (mN s) k (nI u) (nI r) v (-1) (nI n) 0) 27 (mN s) x) 26 (mN s) (nI f)).1 18 (mN s) = k := e18
      have g19 : (up (ul (put s (mN s) k (nI u) (nI r) v (-1) (nI n) 0) 27 (mN s) x) 26 (mN s) (nI f)).1 19 (mN s) = nI u := e19
      have g20 : (up (ul (put s (mN s) k (nI u) (nI r) v (-1) (nI n) 0) 27 (mN s) x) 26 (mN s) (nI f)).1 20 (mN s) = nI r := e20
      have g21 : (up (ul (put s (mN s) k (nI u) (nI r) v (-1) (nI n) 0) 27 (mN s) x) 26 (mN s) (nI f)).1 21 (mN s) = v := e21
      have g22 : (up (ul (put s (mN s) k (nI u) (nI r) v (-1) (nI n) 0) 27 (mN s) x) 26 (mN s) (nI f)).1 22 (mN s) = nI n := e22
      have g26 : (up (ul (put s (mN s) k (nI u) (nI r) v (-1) (nI n) 0) 27 (mN s) x) 26 (mN s) (nI f)).1 26 (mN s) = nI f := up_i
      have g27 : (up (ul (put s (mN s) k (nI u) (nI r) v (-1) (nI n) 0) 27 (mN s) x) 26 (mN s) (nI f)).2 27 (mN s) = x := ul_i
      have gq : nqN (up (ul (put s (mN s) k (nI u) (nI r) v (-1) (nI n) 0) 27 (mN s) x) 26 (mN s) (nI f)) = nqN s := nq_cong rfl
      rw [g18, g19, g20, g21, g22, g26, g27, gq]
      exact ⟨hv, fun z => absurd z e4, fun _ => ⟨r, hr, rfl, Or.inr (Or.inr (Or.inr ⟨hk, ⟨u, hu, rfl⟩, n, f, rfl, rfl, hf, hx⟩))⟩⟩
theorem Inv.r {s : MS} {t r : Nat} (h : Inv s t) (hr : r < 4) : s.1 7 r = nI (lnN s r) ∧ lnN s r ≤ 12 ∧ Row (nqN s) (s.2 8 r) (lnN s r) ∧ (∃ f, f ≤ lnN s r ∧ s.1 9 r = nI f) ∧ Vw t (s.1 6 r) ∧ (s.1 10 r = 0 ∨ s.1 10 r = 1) ∧ ∃ b, b < 16 ∧ s.1 12 r = nI b := by
  obtain ⟨vv, ⟨n, f, a1, a2, a3, a4⟩, a5, a6⟩ := h.2.1 r hr
  have e : lnN s r = n := by rw [lnN, a1, nI_clamp (by have := a4.1; omega)]
  rw [e]
  exact ⟨a1, a4.1, a4, ⟨f, a3, a2⟩, vv, a5, a6⟩
theorem ln_cong {s s' : MS} {r : Nat} (h : s'.1 7 r = s.1 7 r) : lnN s' r = lnN s r := by unfold lnN; rw [h]
theorem inv_reply {s : MS} {t : Nat} (h : Inv s t) {r p : Nat} (hr : r < 4) (h1 : 1 ≤ p) (h2 : p ≤ lnN s r) : Inv (f_reply s r p) t := by
  obtain ⟨a1, a2, a3, a4, a5, a6, a7⟩ := h.r hr
  obtain ⟨f, f1, -, -⟩ := a3.at
  unfold f_reply
  by_cases e : s.1 17 0 = 600
  · rw [if_pos e]; exact h
  · rw [if_neg e]
    have hlt := is600 h e
    obtain ⟨e18, e19, e20, e21, e22, e23, e24⟩ := put_get s (mN s) 2 (nI r) 4 (s.1 6 r) (m_at (s.2 8 r) (nI (p - 1))) (nI p) (digN (s.2 8 r) p)
    refine h.msg h.m.1 hlt ((fr_put.tr fr_num).tr (fr_up (by omega))) (show s.1 17 0 + 1 = _ by rw [h.m.1, nI_succ]) (fun a j g1 g2 g3 => ?_) ?_ (fun j hj => rfl) ?_
    · exact (up_n (by omega)).trans ((if_neg (by omega)).trans (put_ne (a := a) (j := j) (by omega)))
    · rfl
    · generalize hz : up (numset (put s (mN s) 2 (nI r) 4 (s.1 6 r) (m_at (s.2 8 r) (nI (p - 1))) (nI p) (digN (s.2 8 r) p)) (wkA s (s.2 8 r) p).1) 25 (mN s) (wkA s (s.2 8 r) p).2 = z
      have g18 : z.1 18 (mN s) = 2 := by rw [← hz]; exact e18
      have g19 : z.1 19 (mN s) = nI r := by rw [← hz]; exact e19
      have g20 : z.1 20 (mN s) = 4 := by rw [← hz]; exact e20
      have g21 : z.1 21 (mN s) = s.1 6 r := by rw [← hz]; exact e21
      have g22 : z.1 22 (mN s) = nI p := by rw [← hz]; exact e22
      have g23 : z.1 23 (mN s) = m_at (s.2 8 r) (nI (p - 1)) := by rw [← hz]; exact e23
      have gq : nqN z = nqN s := by rw [← hz]; exact nq_cong rfl
      unfold IM
      rw [g18, g19, g20, g21, g22, g23, gq]
      exact ⟨a5, fun _ => ⟨⟨r, hr, rfl⟩, Or.inl ⟨rfl, ⟨f (p - 1), (f1 (p - 1) (by omega)).2, (f1 (p - 1) (by omega)).1⟩, p, by omega, rfl⟩⟩, fun z => absurd rfl z⟩
theorem inv_order {s : MS} {t : Nat} (h : Inv s t) {r p : Nat} (hr : r < 4) (h1 : 1 ≤ p) (h2 : p ≤ lnN s r) : Inv (f_order s r p) t := by
  obtain ⟨a1, a2, a3, a4, a5, a6, a7⟩ := h.r hr
  obtain ⟨f, f1, -, -⟩ := a3.at
  refine inv_all h _ (fun x hx => ⟨a5, fun z => ?_, fun _ => ⟨x, hx, rfl, Or.inl ⟨Or.inr rfl, f (p - 1), (f1 (p - 1) (by omega)).2, (f1 (p - 1) (by omega)).1⟩⟩⟩) 4 (by omega)
  exact absurd ((nI_eq (b := 4) (by omega) (by omega)).mp z) (by omega)
/-- replica r's own fields, one after the other -/
theorem app_get (s : MS) (r : Nat) (q : Int32) : (f_append s r q).1 7 r = s.1 7 r + 1 ∧ (f_append s r q).2 8 r = m_with (s.2 8 r) (s.1 7 r) q ∧ (f_append s r q).1 11 r = s.1 11 r &&& ((1 <<< (q &&& 31)) ^^^ (-1)) := by simp [f_append, up, ul]
theorem app_ne {s : MS} {r a j : Nat} {q : Int32} (h : ¬ ((a = 7 ∨ a = 11) ∧ j = r)) : (f_append s r q).1 a j = s.1 a j := by
  unfold f_append
  rw [up_n (by omega), up_n (by omega)]; rfl
theorem app_nl {s : MS} {r a j : Nat} {q : Int32} (h : ¬ (a = 8 ∧ j = r)) : (f_append s r q).2 a j = s.2 a j := ul_n h
theorem inv_app {s : MS} {t : Nat} (h : Inv s t) {r q : Nat} (hr : r < 4) (hq : q < nqN s) (hn : ∀ k, k < lnN s r → m_at (s.2 8 r) (nI k) ≠ nI q) : Inv (f_append s r (nI q)) t ∧ lnN (f_append s r (nI q)) r = lnN s r + 1 ∧ lnN s r < 12 ∧ (∀ k, k < lnN s r → m_at ((f_append s r (nI q)).2 8 r) (nI k) = m_at (s.2 8 r) (nI k)) ∧ m_at ((f_append s r (nI q)).2 8 r) (nI (lnN s r)) = nI q := by
  obtain ⟨a1, a2, a3, ⟨f, a4, a4'⟩, a5, a6, a7⟩ := h.r hr
  obtain ⟨b1, b2, b3⟩ := a3.add hq h.q.2 hn
  obtain ⟨c1, c2, c3⟩ := app_get s r (nI q)
  have hroom := a3.room hq hn
  have e7 : (f_append s r (nI q)).1 7 r = nI (lnN s r + 1) := by rw [c1, a1, nI_succ, ← a1]
  have e8 : (f_append s r (nI q)).2 8 r = m_with (s.2 8 r) (nI (lnN s r)) (nI q) := by rw [c2, ← a1]
  have hq12 := h.q.2
  have gq : nqN (f_append s r (nI q)) = nqN s := nq_cong rfl
  refine ⟨h.rep (Nat.le_refl _) r (fun a j _ _ g => app_ne (by omega)) (fun a j g => app_nl g) (fun _ => ?_), ?_, by omega, ?_, ?_⟩
  · refine ⟨by rw [app_ne (by omega)]; exact a5, ⟨lnN s r + 1, f, e7, by rw [app_ne (by omega)]; exact a4', by omega, by rw [e8, gq]; exact b1⟩, by rw [app_ne (by omega)]; exact a6, by rw [app_ne (by omega)]; exact a7⟩
  · rw [lnN, e7, nI_clamp (by omega)]
  · intro k hk; rw [e8]; exact b2 k hk
  · rw [e8]; exact b3
theorem inv_wan {s : MS} {t : Nat} (h : Inv s t) {r : Nat} (v : Int32) : Inv (up s 11 r v) t := h.rep (Nat.le_refl _) r (fun a j _ _ g => up_n (by omega)) (fun _ _ _ => rfl) (fun hr => (h.2.1 r hr).cong (Nat.le_refl _) (Nat.le_refl _) (fun a _ _ g => up_n (by omega)) rfl)
theorem inv_fix {s : MS} {t : Nat} (h : Inv s t) {r p : Nat} (hp : p ≤ lnN s r) : Inv (up s 9 r (nI p)) t := h.rep (Nat.le_refl _) r (fun a j _ _ g => up_n (by omega)) (fun _ _ _ => rfl) (fun hr => by
  obtain ⟨a1, a2, a3, a4, a5, a6, a7⟩ := h.r hr
  exact ⟨a5, ⟨lnN s r, p, a1, up_i, hp, a3⟩, a6, a7⟩)
theorem inv_hat {s : MS} {t : Nat} (h : Inv s t) {r b : Nat} (hb : b < 16) : Inv (up s 12 r (nI b)) t := h.rep (Nat.le_refl _) r (fun a j _ _ g => up_n (by omega)) (fun _ _ _ => rfl) (fun hr => by
  obtain ⟨a1, a2, a3, ⟨f, a4, a4'⟩, a5, a6, a7⟩ := h.r hr
  exact ⟨a5, ⟨lnN s r, f, a1, a4', a4, a3⟩, a6, b, hb, up_i⟩)
theorem bit_or : ∀ b, b < 16 → ∀ u, u < 4 → ∃ c, c < 16 ∧ nI b ||| (1 <<< (nI u &&& 31)) = nI c := by decide +kernel
theorem inv_hat1 {s : MS} {t : Nat} (h : Inv s t) {r u : Nat} (hr : r < 4) (hu : u < 4) : Inv (hat1 s r (nI u)) t := by
  obtain ⟨a1, a2, a3, a4, a5, a6, b, a7, a8⟩ := h.r hr
  obtain ⟨c, c1, c2⟩ := bit_or b a7 u hu
  unfold hat1
  rw [a8, c2]
  exact inv_hat h c1
theorem hat4_get (s : MS) (r : Nat) (fr : Int32) : (hat4 s r fr).1 6 r = s.1 6 r + 1 ∧ (hat4 s r fr).1 12 r = 0 ∧ (hat4 s r fr).1 10 r = 1 := by simp [hat4, hat1, up]
theorem hat4_ne {s : MS} {r a j : Nat} {fr : Int32} (h : ¬ ((a = 6 ∨ a = 10 ∨ a = 12) ∧ j = r)) : (hat4 s r fr).1 a j = s.1 a j := by
  unfold hat4 hat1
  rw [up_n (by omega), up_n (by omega), up_n (by omega), up_n (by omega)]
theorem inv_hat4 {s : MS} {t : Nat} (h : Inv s t) {r : Nat} (fr : Int32) : Inv (hat4 s r fr) (t + 1) := h.rep (by omega) r (fun a j _ _ g => hat4_ne (by omega)) (fun _ _ _ => rfl) (fun hr => by
  obtain ⟨a1, a2, a3, ⟨f, a4, a4'⟩, ⟨v, a5, a5'⟩, a6, a7⟩ := h.r hr
  obtain ⟨b1, b2, b3⟩ := hat4_get s r fr
  exact ⟨⟨v + 1, by omega, by rw [b1, a5', nI_succ]⟩, ⟨lnN s r, f, by rw [hat4_ne (by omega)]; exact a1, by rw [hat4_ne (by omega)]; exact a4', a4, a3⟩, Or.inr b3, 0, by omega, b2⟩)
theorem kept_get (s : MS) (r u : Nat) (v : Int32) (x : Int64) (n f : Int32) : (kept s r u v x n f).1 13 (4 * r + u) = v ∧ (kept s r u v x n f).1 14 (4 * r + u) = n ∧ (kept s r u v x n f).1 16 (4 * r + u) = f ∧ (kept s r u v x n f).2 15 (4 * r + u) = x := by simp [kept, up, ul]
theorem kept_ne {s : MS} {r u a j : Nat} {v : Int32} {x : Int64} {n f : Int32} (h : ¬ ((a = 13 ∨ a = 14 ∨ a = 16) ∧ j = 4 * r + u)) : (kept s r u v x n f).1 a j = s.1 a j := by
  unfold kept
  rw [up_n (by omega), up_n (by omega)]
  exact up_n (by omega)
theorem kept_nl {s : MS} {r u a j : Nat} {v : Int32} {x : Int64} {n f : Int32} (h : ¬ (a = 15 ∧ j = 4 * r + u)) : (kept s r u v x n f).2 a j = s.2 a j := ul_n h
theorem inv_kept {s : MS} {t : Nat} (h : Inv s t) {r u n f : Nat} {v : Int32} {x : Int64} (hv : Vw t v) (hf : f ≤ n) (hx : Row (nqN s) x n) : Inv (kept s r u v x (nI n) (nI f)) t := by
  obtain ⟨b1, b2, b3, b4⟩ := kept_get s r u v x (nI n) (nI f)
  have gq : nqN (kept s r u v x (nI n) (nI f)) = nqN s := nq_cong (kept_ne (by omega))
  exact h.kep (4 * r + u) (fun a j _ _ g => kept_ne (by omega)) (fun a j g => kept_nl g) (fun _ => Or.inr ⟨by rw [b1]; exact hv, n, f, b2, b3, hf, by rw [b4, gq]; exact hx⟩)
theorem trn_get (s : MS) (r : Nat) (v : Int32) (x : Int64) (n f : Int32) : (trn0 s r v x n f).1 6 r = v ∧ (trn0 s r v x n f).2 8 r = x ∧ (trn0 s r v x n f).1 7 r = n ∧ (trn0 s r v x n f).1 9 r = f ∧ (trn0 s r v x n f).1 10 r = 0 ∧ (trn0 s r v x n f).1 12 r = 0 := by simp [trn0, up, ul]
theorem trn_ne {s : MS} {r a j : Nat} {v : Int32} {x : Int64} {n f : Int32} (h : ¬ (6 ≤ a ∧ a ≤ 12 ∧ j = r)) : (trn0 s r v x n f).1 a j = s.1 a j := by
  unfold trn0
  rw [up_n (by omega), up_n (by omega), up_n (by omega), up_n (by omega)]
  exact up_n (by omega)
theorem inv_trn {s : MS} {t : Nat} (h : Inv s t) {r n f : Nat} {v : Int32} {x : Int64} (hv : Vw t v) (hf : f ≤ n) (hx : Row (nqN s) x n) : Inv (trn0 s r v x (nI n) (nI f)) t := by
  obtain ⟨b1, b2, b3, b4, b5, b6⟩ := trn_get s r v x (nI n) (nI f)
  have gq : nqN (trn0 s r v x (nI n) (nI f)) = nqN s := nq_cong (trn_ne (by omega))
  exact h.rep (Nat.le_refl _) r (fun a j _ _ g => trn_ne g) (fun a j g => ul_n g) (fun _ => ⟨by rw [b1]; exact hv, ⟨n, f, b3, b4, hf, by rw [b2, gq]; exact hx⟩, Or.inl b5, 0, by omega, b6⟩)
theorem inv_wanN {s : MS} {t : Nat} (h : Inv s t) {r : Nat} {x : Int64} : ∀ k, Inv (wanN s r x k) t
  | 0 => h
  | k + 1 => inv_wan (inv_wanN h k) _
theorem inv_repN {s : MS} {t : Nat} (h : Inv s t) {r : Nat} (hr : r < 4) : ∀ k, k ≤ lnN s r → Inv (repN s r k) t
  | 0, _ => h
  | k + 1, hk => inv_reply (inv_repN h hr k (by omega)) hr (by omega) (by rw [ln_cong ((fr_rep k).1 7 r (by omega) (by omega))]; exact hk)
theorem inv_turn {s : MS} {t : Nat} (h : Inv s t) {r n f : Nat} (hr : r < 4) {v : Int32} {x : Int64} (hv : Vw t v) (hf : f ≤ n) (hx : Row (nqN s) x n) : Inv (f_turn s r v x n (nI f)) t := by
  refine inv_repN (inv_wanN (inv_trn h hv hf hx) n) hr n ?_
  have e : (wanN (trn0 s r v x (nI n) (nI f)) r x n).1 7 r = nI n := (wanN_k (by omega) n).trans (trn_get s r v x (nI n) (nI f)).2.2.1
  rw [lnN, e, nI_clamp (by have := hx.1; omega)]
  exact Nat.le_refl _
