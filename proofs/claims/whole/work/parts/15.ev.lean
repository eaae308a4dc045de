/-! a run, taken apart; its references and counts -/
theorem pm_Ok2.rf {s : pm_S} (h : pm_okS s) : pm_Ok2 s s := ⟨h, Nat.le_refl _, Nat.le_refl _, Nat.le_refl _⟩
theorem pm_Ok2.tr {s0 s1 s2 : pm_S} (h1 : pm_Ok2 s0 s1) (h2 : pm_Ok2 s1 s2) : pm_Ok2 s0 s2 := ⟨h2.1, Nat.le_trans h1.2.1 h2.2.1, Nat.le_trans h1.2.2.1 h2.2.2.1, Nat.le_trans h1.2.2.2 h2.2.2.2⟩
theorem pm_step_at {sc : pm_Sc} {i : Nat} {s : pm_S} {r : pm_S ⊕ pm_K} (h : pm_step sc i s = some r) : ∃ a, pm_at i s.1 = some a ∧ pm_do sc (pm_nL i) (pm_rk i) pm_np pm_mc pm_rk a.1 a.2.2 s.1 s.2.1 s.2.2.1 s.2.2.2 = some r := by
  unfold pm_step at h
  split at h
  · next a ha => exact ⟨a, ha, h⟩
  · cases h
theorem pm_entry_ok {s : pm_S} {as : List Value} (O : pm_okS s) (h : ∀ v ∈ as, v ∈ s.2.2.1) : pm_okS (0, lv_args 0 as, [], s.2.2.2) := ⟨fun q hq => O.2.1 _ (h _ (pm_args_mem as 0 q hq)), fun v hv => (by cases hv), O.2.2⟩
theorem pm_back_ok {s o : pm_S} {a lv' : pm_L} {pc' k n : Nat} {st' : List Value} (O : pm_okS s) (E : pm_Ok2 (0, a, [], s.2.2.2) o) (hlv : ∀ q ∈ lv', q ∈ s.2.1) (hst : ∀ v ∈ st', v ∈ s.2.2.1 ∨ v ∈ o.2.2.1) (hk : o.2.2.2.2.1 ≤ k) (hn : o.2.2.2.2.2 ≤ n) : pm_Ok2 s (pc', lv', st', (o.2.2.2.1, k, n)) := by
  obtain ⟨e1, e2, e3, e4⟩ := E
  refine ⟨⟨fun q hq => pm_okv_mono e4 (O.1 q (hlv q hq)), fun v hv => ?_, e1.2.2⟩, Nat.le_trans e2 hk, Nat.le_trans e3 hn, e4⟩
  rcases hst v hv with z | z
  · exact pm_okv_mono e4 (O.2.1 v z)
  · exact e1.2.1 v z
theorem pm_ev_inv {sc : pm_Sc} {n i : Nat} {s o : pm_S} (h : pm_ev sc (n + 1) i s = some o) :
    (pm_term i s.1 = true ∧ o = s) ∨ (∃ s', pm_step sc i s = some (.inl s') ∧ pm_ev sc n i s' = some o) ∨
    (∃ (k : pm_K) (w : pm_S) (v : Option Value), pm_step sc i s = some (.inr k) ∧ pm_sum k.2.1 ≤ pm_nL k.1 ∧ pm_ev sc n k.1 (0, lv_args 0 k.2.1, [], s.2.2.2) = some w ∧ pm_ret k.1 w = some (.inl v) ∧ pm_ev sc n i (s.1 + 3, s.2.1, v.toList ++ k.2.2, w.2.2.2) = some o) ∨
    (∃ (k : pm_K) (w : pm_S) (x : Nat) (q : Nat × Nat × Nat × Nat × Nat × Nat), pm_step sc i s = some (.inr k) ∧ pm_sum k.2.1 ≤ pm_nL k.1 ∧ pm_ev sc n k.1 (0, lv_args 0 k.2.1, [], s.2.2.2) = some w ∧ pm_ret k.1 w = some (.inr x) ∧ pm_hnd (pm_hn i) s.1 x = some q ∧ pm_ev sc n i (q.2.2.2.2.2, pm_dr s.2.1 q.2.2.2.2.1, [], (w.2.2.2.1, w.2.2.2.2.1 + 1, w.2.2.2.2.2 + 6)) = some o) := by
  rw [pm_ev] at h
  split at h
  · next ht => cases h; exact Or.inl ⟨ht, rfl⟩
  · split at h
    · cases h
    · next s' hs => exact Or.inr (Or.inl ⟨s', hs, h⟩)
    · next k hs =>
      split at h
      · next hsum =>
        split at h
        · cases h
        · next w hw =>
          split at h
          · cases h
          · next v hv => exact Or.inr (Or.inr (Or.inl ⟨k, w, v, hs, hsum, hw, hv, h⟩))
          · next x hx =>
            split at h
            · cases h
            · next q hq => exact Or.inr (Or.inr (Or.inr ⟨k, w, x, q, hs, hsum, hw, hx, hq, h⟩))
      · cases h
theorem pm_ret_ok {i : Nat} {o : pm_S} {v : Option Value} {r : List Value} (h : pm_ret i o = some (.inl v)) {P : Value → Prop} (h1 : ∀ x ∈ o.2.2.1, P x) (h2 : ∀ x ∈ r, P x) : ∀ x ∈ v.toList ++ r, P x := by
  intro x hx
  rcases List.mem_append.mp hx with z | z
  · cases v with
    | none => cases z
    | some y => rw [List.mem_singleton.mp z]; exact h1 y (pm_ret_mem h)
  · exact h2 x z
theorem pm_dr_sub {lv : pm_L} {i : Nat} : ∀ q ∈ pm_dr lv i, q ∈ lv := fun q hq => (List.mem_filter.mp hq).1
theorem pm_ev_ok (sc : pm_Sc) : ∀ (n i : Nat) (s o : pm_S), pm_ev sc n i s = some o → pm_okS s → pm_Ok2 s o := by
  intro n
  induction n with
  | zero => intro i s o h; rw [pm_ev] at h; cases h
  | succ n ih =>
    intro i s o h O
    rcases pm_ev_inv h with ⟨-, rfl⟩ | ⟨s', hs, h⟩ | ⟨k, w, v, hs, -, hw, hv, h⟩ | ⟨k, w, x, q, hs, -, hw, -, -, h⟩
    · exact .rf O
    · obtain ⟨a, -, hd⟩ := pm_step_at hs
      have h1 : pm_Ok2 s s' := pm_do_ok hd O
      exact h1.tr (ih i s' o h h1.1)
    · obtain ⟨a, -, hd⟩ := pm_step_at hs
      obtain ⟨m1, m2⟩ := pm_do_sub hd
      have E := ih _ _ _ hw (pm_entry_ok O m1)
      have B : pm_Ok2 s (s.1 + 3, s.2.1, v.toList ++ k.2.2, w.2.2.2) := pm_back_ok O E (fun q hq => hq) (pm_ret_ok hv (fun x hx => Or.inr hx) (fun x hx => Or.inl (m2 x hx))) (Nat.le_refl _) (Nat.le_refl _)
      exact B.tr (ih _ _ _ h B.1)
    · obtain ⟨a, -, hd⟩ := pm_step_at hs
      obtain ⟨m1, m2⟩ := pm_do_sub hd
      have E := ih _ _ _ hw (pm_entry_ok O m1)
      have B : pm_Ok2 s (q.2.2.2.2.2, pm_dr s.2.1 q.2.2.2.2.1, [], (w.2.2.2.1, w.2.2.2.2.1 + 1, w.2.2.2.2.2 + 6)) := pm_back_ok O E pm_dr_sub (fun x hx => by cases hx) (Nat.le_succ _) (Nat.le_add_right _ _)
      exact B.tr (ih _ _ _ h B.1)
/-- more fuel changes nothing -/
theorem pm_ev_up (sc : pm_Sc) : ∀ (n i : Nat) (s o : pm_S), pm_ev sc n i s = some o → pm_ev sc (n + 1) i s = some o := by
  intro n
  induction n with
  | zero => intro i s o h; rw [pm_ev] at h; cases h
  | succ n ih =>
    intro i s o h
    rw [pm_ev] at h ⊢
    split at h
    · next ht => rw [if_pos ht]; exact h
    · next ht =>
      rw [if_neg ht]
      split at h
      · cases h
      · next s' hs => exact ih _ _ _ h
      · next k hs =>
        try dsimp only
        split at h
        · next hsum =>
          rw [if_pos hsum]
          split at h
          · cases h
          · next w hw =>
            rw [ih _ _ _ hw]
            try dsimp only
            split at h
            · cases h
            · exact ih _ _ _ h
            · try dsimp only
              split at h
              · cases h
              · exact ih _ _ _ h
        · cases h
theorem pm_ev_le (sc : pm_Sc) {n m i : Nat} {s o : pm_S} (hle : n ≤ m) (h : pm_ev sc n i s = some o) : pm_ev sc m i s = some o := by
  induction hle with
  | refl => exact h
  | step _ ih => exact pm_ev_up sc _ i s o ih
