-- deps: 48.inv3
/-! what a replica takes keeps what always holds -/
def Loc (r : Nat) (s s' : MS) : Prop := (∀ x, x ≠ r → s'.1 6 x = s.1 6 x ∧ s'.1 10 x = s.1 10 x) ∧ (∀ x u, x ≠ r → u < 4 → s'.1 13 (4 * x + u) = s.1 13 (4 * x + u))
theorem Loc.tr {r : Nat} {s s' s'' : MS} (h : Loc r s s') (g : Loc r s' s'') : Loc r s s'' := ⟨fun x hx => ⟨(g.1 x hx).1.trans (h.1 x hx).1, (g.1 x hx).2.trans (h.1 x hx).2⟩, fun x u hx hu => (g.2 x u hx hu).trans (h.2 x u hx hu)⟩
theorem Fr.loc {r : Nat} {s s' : MS} (h : Fr s s') : Loc r s s' := ⟨fun x _ => ⟨h.1 6 x (by omega) (by omega), h.1 10 x (by omega) (by omega)⟩, fun x u _ _ => h.1 13 _ (by omega) (by omega)⟩
theorem NP.cong {s s' : MS} {x : Nat} (h : NP s x) (h1 : s'.1 6 x = s.1 6 x) (h2 : s'.1 10 x = s.1 10 x) (h3 : ∀ u, u < 4 → s'.1 13 (4 * x + u) = s.1 13 (4 * x + u)) : NP s' x := by
  unfold NP at *
  rw [h1, h2, cntN_n, cnN_cong 4 h3, ← cntN_n]
  exact h
theorem NP.loc {r x : Nat} {s s' : MS} (h : NP s x) (g : Loc r s s') (hx : x ≠ r) : NP s' x := h.cong (g.1 x hx).1 (g.1 x hx).2 (fun u hu => g.2 x u hx hu)
theorem NP.fr {x : Nat} {s s' : MS} (h : NP s x) (g : Fr s s') : NP s' x := h.cong (g.1 6 x (by omega) (by omega)) (g.1 10 x (by omega) (by omega)) (fun u _ => g.1 13 _ (by omega) (by omega))
theorem np_app {s : MS} {r y : Nat} {q : Int32} (h : NP s y) : NP (f_append s r q) y := h.cong (app_ne (by omega)) (app_ne (by omega)) (fun _ _ => app_ne (by omega))
theorem np_up {s : MS} {k j y : Nat} {v : Int32} (h : NP s y) (hk : k ≠ 6 ∧ k ≠ 10 ∧ k ≠ 13) : NP (up s k j v) y := h.cong (up_n (by omega)) (up_n (by omega)) (fun _ _ => up_n (by omega))
theorem NP.not {s : MS} {x : Nat} (h : s.1 10 x = 0) : NP s x := fun z => z.1 h
theorem turn_k {s : MS} {r a j n : Nat} {v : Int32} {x : Int64} {f : Int32} (h1 : 1 ≤ a) (h2 : a < 17 ∨ (29 ≤ a ∧ a ≤ 44)) (h : ¬ (6 ≤ a ∧ a ≤ 12 ∧ j = r)) (h11 : a ≠ 11) : (f_turn s r v x n f).1 a j = s.1 a j := by
  unfold f_turn
  rw [(fr_rep n).1 a j h1 h2, wanN_k h11, trn_ne h]
theorem turn_g {s : MS} {r n : Nat} {v : Int32} {x : Int64} {f : Int32} : (f_turn s r v x n f).1 6 r = v ∧ (f_turn s r v x n f).2 8 r = x ∧ (f_turn s r v x n f).1 7 r = nI n ∧ (f_turn s r v x n f).1 9 r = f ∧ (f_turn s r v x n f).1 10 r = 0 ∧ (f_turn s r v x n f).1 12 r = 0 := by
  obtain ⟨b1, b2, b3, b4, b5, b6⟩ := trn_get s r v x (nI n) f
  unfold f_turn
  refine ⟨?_, ?_, ?_, ?_, ?_, ?_⟩
  · rw [(fr_rep n).1 6 r (by omega) (by omega), wanN_k (by omega), b1]
  · rw [(fr_rep n).2 8 r (by omega), wanN_l, b2]
  · rw [(fr_rep n).1 7 r (by omega) (by omega), wanN_k (by omega), b3]
  · rw [(fr_rep n).1 9 r (by omega) (by omega), wanN_k (by omega), b4]
  · rw [(fr_rep n).1 10 r (by omega) (by omega), wanN_k (by omega), b5]
  · rw [(fr_rep n).1 12 r (by omega) (by omega), wanN_k (by omega), b6]
theorem turn_loc {s : MS} {r n : Nat} {v : Int32} {x : Int64} {f : Int32} : Loc r s (f_turn s r v x n f) := ⟨fun y hy => ⟨turn_k (by omega) (by omega) (by omega) (by omega), turn_k (by omega) (by omega) (by omega) (by omega)⟩, fun y u _ _ => turn_k (by omega) (by omega) (by omega) (by omega)⟩
theorem inv_rwN {s : MS} {t r n f : Nat} {x : Int64} (h : Inv s t) (hr : r < 4) (hf : f ≤ n) (hx : Row (nqN s) x n) : ∀ u, u ≤ 4 → Inv (rwN s r x (nI n) (nI f) u) t
  | 0, _ => h
  | u + 1, hu => by
    rw [rwN]; split
    · exact inv_rwN h hr hf hx u (by omega)
    · have h' := inv_rwN h hr hf hx u (by omega)
      refine inv_row h' (Or.inr rfl) hr (by omega) (h'.r hr).2.2.2.2.1 hf ?_
      rw [nq_cong ((fr_rw u).1 2 0 (by omega) (by omega))]; exact hx
theorem inv_new {s : MS} {t r : Nat} (h : Inv s t) (ht : t < 2 ^ 31) (hr : r < 4) (hc : ¬ cntN s r (s.1 6 r) 4 < 3) : Inv (f_new s r) t ∧ (f_new s r).1 10 r = 0 ∧ Loc r s (f_new s r) := by
  obtain ⟨-, hrow, f, hf, ef⟩ := nw_ok h ht hr hc
  have hR : Inv (nwR s r) t := by
    unfold nwR
    rw [ef]
    exact inv_rwN h hr hf hrow 4 (by omega)
  refine ⟨?_, turn_g.2.2.2.2.1, (fr_rw 4).loc.tr turn_loc⟩
  unfold f_new
  rw [ef]
  have eq : nqN (nwR s r) = nqN s := nq_cong ((fr_rw 4).1 2 0 (by omega) (by omega))
  refine inv_turn hR hr (hR.r hr).2.2.2.2.1 hf ?_
  rw [eq]
  exact hrow
theorem kept_loc {s : MS} {r u : Nat} (hu : u < 4) {v : Int32} {x : Int64} {n f : Int32} : Loc r s (kept s r u v x n f) := ⟨fun y _ => ⟨kept_ne (by omega), kept_ne (by omega)⟩, fun y w hy hw => kept_ne (by omega)⟩
theorem inv_change {s : MS} {t r u n f : Nat} {v : Int32} {x : Int64} (h : Inv s t) (ht : t < 2 ^ 31) (hr : r < 4) (hu : u < 4) (hv : Vw t v) (hf : f ≤ n) (hx : Row (nqN s) x n) (hp : (v = s.1 6 r ∧ rm4 v = nI r) ∨ NP s r) : Inv (f_change s r u v x (nI n) (nI f)) t ∧ NP (f_change s r u v x (nI n) (nI f)) r ∧ Loc r s (f_change s r u v x (nI n) (nI f)) ∧ (¬ (kept s r u v x (nI n) (nI f)).1 10 r = 0 → (kept s r u v x (nI n) (nI f)).1 6 r = v → ¬ cntN (kept s r u v x (nI n) (nI f)) r v 4 < 3 → NewPre (kept s r u v x (nI n) (nI f)) r) := by
  have hk := inv_kept (r := r) (u := u) h hv hf hx
  have hnp : ¬ (kept s r u v x (nI n) (nI f)).1 10 r = 0 → (kept s r u v x (nI n) (nI f)).1 6 r = v → ¬ cntN (kept s r u v x (nI n) (nI f)) r v 4 < 3 → NewPre (kept s r u v x (nI n) (nI f)) r := fun z1 z2 z3 => (nw_ok hk ht hr (by rw [z2]; exact z3)).1
  unfold f_change
  by_cases c : rm4 v = nI r ∧ s.1 6 r ≤ v
  · rw [if_pos c]
    by_cases c2 : ¬ (kept s r u v x (nI n) (nI f)).1 10 r = 0 ∧ (kept s r u v x (nI n) (nI f)).1 6 r = v ∧ ¬ cntN (kept s r u v x (nI n) (nI f)) r v 4 < 3
    · rw [if_pos c2]
      obtain ⟨b1, b2, b3⟩ := inv_new hk ht hr (by rw [c2.2.1]; exact c2.2.2)
      exact ⟨b1, NP.not b2, (kept_loc hu).tr b3, hnp⟩
    · rw [if_neg c2]
      refine ⟨hk, fun z => ?_, kept_loc hu, hnp⟩
      by_cases e : (kept s r u v x (nI n) (nI f)).1 6 r = v
      · have z3 := z.2.2
        rw [e] at z3
        exact c2 ⟨z.1, e, z3⟩
      · have e6 : (kept s r u v x (nI n) (nI f)).1 6 r = s.1 6 r := kept_ne (by omega)
        have e10 : (kept s r u v x (nI n) (nI f)).1 10 r = s.1 10 r := kept_ne (by omega)
        rw [e6] at e z
        rw [e10] at z
        rcases hp with y | y
        · exact e y.1.symm
        · refine y ⟨z.1, z.2.1, fun w => z.2.2 ?_⟩
          rw [cnt_lt] at w ⊢
          refine Nat.lt_of_le_of_lt (cnN_mono 4 (fun i hi q => ?_)) w
          by_cases ei : i = u
          · subst ei
            rw [(kept_get s r i v x (nI n) (nI f)).1] at q
            exact absurd q.symm e
          · rw [kept_ne (by omega)] at q; exact q
  · rw [if_neg c]
    refine ⟨h, ?_, ⟨fun _ _ => ⟨rfl, rfl⟩, fun _ _ _ _ => rfl⟩, hnp⟩
    rcases hp with y | y
    · exact absurd ⟨y.2, by rw [y.1]; exact Int32.le_refl _⟩ c
    · exact y
theorem hat1_loc {s : MS} {r : Nat} {fr : Int32} : Loc r s (hat1 s r fr) := ⟨fun _ _ => ⟨rfl, rfl⟩, fun _ _ _ _ => rfl⟩
theorem hat4_loc {s : MS} {r : Nat} {fr : Int32} : Loc r s (hat4 s r fr) := ⟨fun x hx => ⟨hat4_ne (by omega), hat4_ne (by omega)⟩, fun x u _ _ => hat4_ne (by omega)⟩
abbrev hK (s : MS) (r : Nat) (fr : Int32) : MS := kept (hat4 s r fr) r r ((hat4 s r fr).1 6 r) ((hat4 s r fr).2 8 r) ((hat4 s r fr).1 7 r) ((hat4 s r fr).1 9 r)
theorem inv_hate {s : MS} {t r u : Nat} (h : Inv s t) (ht : t + 1 < 2 ^ 31) (hr : r < 4) (hu : u < 4) (hp : NP s r) : Inv (f_hate s r (nI u)) (t + 1) ∧ NP (f_hate s r (nI u)) r ∧ Loc r s (f_hate s r (nI u)) ∧ (rm4 ((hat4 s r (nI u)).1 6 r) = nI r → ¬ cntN (hK s r (nI u)) r ((hat4 s r (nI u)).1 6 r) 4 < 3 → NewPre (hK s r (nI u)) r) := by
  have h4 := inv_hat4 (r := r) h (nI u)
  obtain ⟨a1, a2, a3, ⟨f, a4, a4'⟩, a5, a6, a7⟩ := h4.r hr
  have hpre : rm4 ((hat4 s r (nI u)).1 6 r) = nI r → ¬ cntN (hK s r (nI u)) r ((hat4 s r (nI u)).1 6 r) 4 < 3 → NewPre (hK s r (nI u)) r := by
    intro z1 z2
    have hk := inv_kept (r := r) (u := r) h4 a5 a4 a3
    have e6 : (kept (hat4 s r (nI u)) r r ((hat4 s r (nI u)).1 6 r) ((hat4 s r (nI u)).2 8 r) (nI (lnN (hat4 s r (nI u)) r)) (nI f)).1 6 r = (hat4 s r (nI u)).1 6 r := kept_ne (by omega)
    unfold hK at *
    rw [a1, a4'] at z2 ⊢
    exact (nw_ok hk (by omega) hr (by rw [e6]; exact z2)).1
  unfold f_hate
  by_cases c : 2 ≤ bitN ((hat1 s r (nI u)).1 12 r) 4
  · rw [if_pos c]
    by_cases c2 : rm4 ((hat4 s r (nI u)).1 6 r) = nI r
    · rw [if_pos c2]
      have := inv_change (u := r) h4 (by omega) hr hr a5 a4 a3 (Or.inl ⟨rfl, c2⟩)
      rw [← a1, ← a4'] at this
      exact ⟨this.1, this.2.1, hat4_loc.tr this.2.2.1, hpre⟩
    · rw [if_neg c2]
      have hrow : Inv (f_row (hat4 s r (nI u)) 6 (nI r) (rm4 ((hat4 s r (nI u)).1 6 r)) ((hat4 s r (nI u)).1 6 r) ((hat4 s r (nI u)).2 8 r) ((hat4 s r (nI u)).1 7 r) ((hat4 s r (nI u)).1 9 r)) (t + 1) := by
        obtain ⟨v, hv, ev⟩ := a5
        have e4 : rm4 ((hat4 s r (nI u)).1 6 r) = nI (v % 4) := by
          rw [ev]; exact pk_rem (d := 4) (by omega) (by omega) (by omega)
        rw [e4, a1, a4']
        exact inv_row h4 (Or.inl rfl) hr (Nat.mod_lt _ (by omega)) ⟨v, hv, ev⟩ a4 a3
      refine ⟨hrow, fun z => c2 ?_, hat4_loc.tr fr_row.loc, hpre⟩
      have := z.2.1
      rw [fr_row.1 6 r (by omega) (by omega)] at this
      exact this
  · rw [if_neg c]
    exact ⟨(inv_hat1 h hr hu).mono (by omega), np_up hp (by omega), hat1_loc, hpre⟩
theorem inv_ask {s : MS} {t r q : Nat} (h : Inv s t) (hr : r < 4) (fr : Int32) (hq : q < nqN s) (ht : t < 2 ^ 31) : Inv (f_ask s r (nI q) fr) t ∧ (∀ y, NP s y → NP (f_ask s r (nI q) fr) y) := by
  obtain ⟨a1, a2, a3, a4, a5, a6, a7⟩ := h.r hr
  obtain ⟨p, p1, p2⟩ := plN_nat (s.2 8 r) (nI q) (lnN s r)
  unfold f_ask
  by_cases c : plN (s.2 8 r) (nI q) (lnN s r) ≤ 0
  · rw [if_pos c]
    have hn := plN_none (by omega) c
    by_cases c2 : rm4 (s.1 6 r) = nI r
    · rw [if_pos c2]
      obtain ⟨b1, b2, b3, b4, b5⟩ := inv_app h hr hq hn
      have o1 := inv_order b1 hr (p := lnN s r + 1) (by omega) (by omega)
      have e7 : lnN (f_order (f_append s r (nI q)) r (lnN s r + 1)) r = lnN s r + 1 := (ln_cong (s := f_append s r (nI q)) ((fr_all 4).1 7 r (by omega) (by omega))).trans b2
      refine ⟨inv_reply o1 hr (by omega) (by omega), fun y hy => NP.fr (s := f_order (f_append s r (nI q)) r (lnN s r + 1)) (NP.fr (s := f_append s r (nI q)) (np_app hy) (fr_all 4)) fr_reply⟩
    · rw [if_neg c2]
      have hw : Inv (wnt s r (nI q)) t := inv_wan h _
      by_cases c3 : rm4 ((wnt s r (nI q)).1 6 r) = fr
      · rw [if_pos c3]; exact ⟨hw, fun y hy => np_up hy (by omega)⟩
      · rw [if_neg c3]
        obtain ⟨v, hv, ev⟩ := a5
        have e4 : rm4 ((wnt s r (nI q)).1 6 r) = nI (v % 4) := by
          show rm4 (s.1 6 r) = _
          rw [ev]; exact pk_rem (d := 4) (by omega) (by omega) (by omega)
        refine ⟨inv_send hw _ ⟨⟨0, by omega, rfl⟩, fun z => ?_, fun _ => ⟨v % 4, Nat.mod_lt _ (by omega), e4, Or.inl ⟨Or.inl rfl, q, hq, rfl⟩⟩⟩, fun y hy => NP.fr (s := wnt s r (nI q)) (np_up hy (by omega)) fr_send⟩
        rw [e4] at z
        exact absurd ((nI_eq (b := 4) (by omega) (by omega)).mp z) (by omega)
  · rw [if_neg c, p2, nI_clamp (by omega)]
    have hp1 : 1 ≤ p := not_le0 (by rw [← p2]; exact c)
    have r1 := inv_reply h hr hp1 p1
    split
    · exact ⟨inv_order r1 hr hp1 (by rw [ln_cong (fr_reply.1 7 r (by omega) (by omega))]; exact p1), fun y hy => (hy.fr fr_reply).fr (fr_all 4)⟩
    · exact ⟨r1, fun y hy => hy.fr fr_reply⟩
theorem inv_ord {s : MS} {t r q : Nat} (h : Inv s t) (hr : r < 4) (fr v p d : Int32) (hq : q < nqN s) : Inv (f_ord s r fr v p (nI q) d) t ∧ (∀ y, NP s y → NP (f_ord s r fr v p (nI q) d) y) := by
  obtain ⟨a1, a2, a3, a4, a5, a6, a7⟩ := h.r hr
  unfold f_ord
  split
  · rename_i c
    have hn := plN_none (by omega) c.2.2.2.2.1
    obtain ⟨b1, b2, b3, b4, b5⟩ := inv_app h hr hq hn
    exact ⟨inv_reply b1 hr (by omega) (by omega), fun y hy => NP.fr (np_app hy) fr_reply⟩
  · exact ⟨h, fun y hy => hy⟩
theorem app_pre {s : MS} {t r q : Nat} (h : Inv s t) (hr : r < 4) (hq : q < nqN s) (c : plN (s.2 8 r) (nI q) (lnN s r) ≤ 0) : lnN s r < 12 ∧ RowOK ((f_append s r (nI q)).2 8 r) (lnN s r + 1) := by
  obtain ⟨a1, a2, a3, a4, a5, a6, a7⟩ := h.r hr
  obtain ⟨b1, b2, b3, b4, b5⟩ := inv_app h hr hq (plN_none (by omega) c)
  refine ⟨b3, ?_⟩
  have := (b1.r hr).2.2.1
  rw [b2] at this
  exact this.ok b1.q.2
theorem inv_proof {s : MS} {t r p : Nat} (h : Inv s t) (hr : r < 4) (v d : Int32) (hp : p ≤ 12) : Inv (f_proof s r v p d) t ∧ (∀ y, NP s y → NP (f_proof s r v p d) y) := by
  obtain ⟨a1, a2, a3, ⟨f, a4, a4'⟩, a5, a6, a7⟩ := h.r hr
  unfold f_proof
  split
  · rename_i c
    have hpl : p ≤ lnN s r := by
      rcases Nat.lt_or_ge (lnN s r) p with z | z
      · exact absurd (by rw [a1]; exact nI_lt z (by omega)) c.2.1
      · exact z
    have hx : Inv (up s 9 r (if nI p ≤ s.1 9 r then s.1 9 r else nI p)) t := by
      split
      · rw [a4']; exact inv_fix h a4
      · exact inv_fix h hpl
    refine ⟨inv_send hx d ⟨by rw [c.1]; exact a5, fun _ => ⟨⟨r, hr, rfl⟩, Or.inr rfl⟩, fun z => absurd rfl z⟩, fun y hy => NP.fr (s := up s 9 r _) (np_up hy (by omega)) fr_send⟩
  · exact ⟨h, fun y hy => hy⟩
theorem inv_tnew {s : MS} {t r j n f : Nat} (h : Inv s t) (hr : r < 4) (hv : Vw t (s.1 21 j)) (hn : s.1 22 j = nI n) (hf : s.1 26 j = nI f) (hle : f ≤ n) (hx : Row (nqN s) (s.2 27 j) n) (hp : NP s r) : Inv (f_tnew s r j) t ∧ NP (f_tnew s r j) r ∧ Loc r s (f_tnew s r j) := by
  unfold f_tnew
  have hcl : (nI n).toNatClampNeg = n := nI_clamp (by have := hx.1; omega)
  rw [hn, hf, hcl]
  split
  · exact ⟨inv_turn h hr hv hle hx, NP.not turn_g.2.2.2.2.1, turn_loc⟩
  · exact ⟨h, hp, ⟨fun _ _ => ⟨rfl, rfl⟩, fun _ _ _ _ => rfl⟩⟩
