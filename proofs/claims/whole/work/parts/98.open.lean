/-- OPEN: the pure machine's run of the law, for every script -/
theorem pu_law (L : Nat) (xs : Nat → Int32) (hL : L ≤ 2049) : ∃ (n : Nat) (o : pm_S), pm_ev (L, xs) n 136 (0, [(0, .retAddr 0)], [], ([], 0, 0)) = some o ∧ o.2.2.1 = [.int 1] ∧ pm_at 136 o.1 = some (.ireturn, 1, []) ∧ o.2.2.2.2.1 ≤ 400000 ∧ o.2.2.2.2.2 ≤ 5000000 := by
  sorry
