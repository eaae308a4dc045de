-- deps: 71.d7
/-! the pure machine's run of the law, for every script -/
def rt1 (r : Nat × Instr × Nat × List Nat) : Bool := match r.2.1 with
  | .ireturn => r.2.2.1 == 1 && r.2.2.2.isEmpty
  | _ => true
theorem rt1_all : (pm_tb 136).all rt1 = true := by decide +kernel
theorem pu_law (L : Nat) (xs : Nat → Int32) (hL : L ≤ 2049) : ∃ (n : Nat) (o : pm_S), pm_ev (L, xs) n 136 (0, [(0, .retAddr 0)], [], ([], 0, 0)) = some o ∧ o.2.2.1 = [.int 1] ∧ pm_at 136 o.1 = some (.ireturn, 1, []) ∧ o.2.2.2.2.1 ≤ 400000 ∧ o.2.2.2.2.2 ≤ 5000000 := by
  obtain ⟨n, w, r, h1, h2, rfl, h4, h5⟩ := pw_law (L, xs) hL
  obtain ⟨g1, len, res, g2⟩ := pm_ret1 h2
  refine ⟨n, w, h1, g1, ?_, h4, h5⟩
  have h := List.all_eq_true.mp rt1_all _ (pm_at_row g2)
  have h' : (len == 1 && res.isEmpty) = true := h
  rw [Bool.and_eq_true, beq_iff_eq, List.isEmpty_iff] at h'
  rw [g2, h'.1, h'.2]
