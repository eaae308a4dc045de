/-! THE REFERENCE, its small methods -/
/-- a run that gives v and leaves the heap h1 -/
def pz (v : Option Value) (h1 : pm_H) : (Option Value ⊕ Nat) → pm_H → Prop := fun x h2 => x = .inl v ∧ h2 = h1
abbrev pu (sc : pm_Sc) (j : Nat) (as : List Value) (h : pm_H) (Q : (Option Value ⊕ Nat) → pm_H → Prop) : Prop := pw sc j (0, lv_args 0 as, [], h) Q
def m_at (r : Int64) (k : Int32) : Int32 := ((r >>> ((4 * k).toInt64 &&& 63)) &&& 15).toInt32
def m_with (r : Int64) (n q : Int32) : Int64 := (r &&& ((1 <<< ((4 * n).toInt64 &&& 63)) - 1)) ||| (q.toInt64 <<< ((4 * n).toInt64 &&& 63))
def m_begin (r : Int64) (n : Int32) : Int64 := r &&& ((1 <<< ((4 * n).toInt64 &&& 63)) - 1)
set_option maxRecDepth 100000 in
set_option maxHeartbeats 4000000 in
theorem c_m_at {sc : pm_Sc} {h : pm_H} (r : Int64) (k : Int32) : pu sc 75 [.long r, .int k] h (pz (some (.int (m_at r k))) h) := by
  refine w_lload_n rfl rfl ?_
  refine w_iconst (v := 4) rfl (by decide) ?_
  refine w_iload_n rfl rfl ?_
  refine w_imul rfl ?_
  refine w_lshr rfl ?_
  refine w_ldc2_w (v := 15) rfl (by decide) ?_
  refine w_land rfl ?_
  refine w_l2i rfl ?_
  exact w_ireturn rfl (by first | exact Or.inl rfl | exact Or.inr ⟨rfl, Or.inl rfl⟩ | exact Or.inr ⟨rfl, Or.inr rfl⟩) ⟨rfl, rfl⟩
set_option maxRecDepth 100000 in
set_option maxHeartbeats 4000000 in
theorem c_m_with {sc : pm_Sc} {h : pm_H} (r : Int64) (n q : Int32) : pu sc 76 [.long r, .int n, .int q] h (pz (some (.long (m_with r n q))) h) := by
  refine w_lload_n rfl rfl ?_
  refine w_lconst (v := 1) rfl (by decide) ?_
  refine w_iconst (v := 4) rfl (by decide) ?_
  refine w_iload_n rfl rfl ?_
  refine w_imul rfl ?_
  refine w_lshl rfl ?_
  refine w_lconst (v := 1) rfl (by decide) ?_
  refine w_lsub rfl ?_
  refine w_land rfl ?_
  refine w_iload_n rfl rfl ?_
  refine w_i2l rfl ?_
  refine w_iconst (v := 4) rfl (by decide) ?_
  refine w_iload_n rfl rfl ?_
  refine w_imul rfl ?_
  refine w_lshl rfl ?_
  refine w_lor rfl ?_
  exact w_lreturn rfl rfl ⟨rfl, rfl⟩
set_option maxRecDepth 100000 in
set_option maxHeartbeats 4000000 in
theorem c_m_begin {sc : pm_Sc} {h : pm_H} (r : Int64) (n : Int32) : pu sc 77 [.long r, .int n] h (pz (some (.long (m_begin r n))) h) := by
  refine w_lload_n rfl rfl ?_
  refine w_lconst (v := 1) rfl (by decide) ?_
  refine w_iconst (v := 4) rfl (by decide) ?_
  refine w_iload_n rfl rfl ?_
  refine w_imul rfl ?_
  refine w_lshl rfl ?_
  refine w_lconst (v := 1) rfl (by decide) ?_
  refine w_lsub rfl ?_
  refine w_land rfl ?_
  exact w_lreturn rfl rfl ⟨rfl, rfl⟩
set_option maxRecDepth 100000 in
set_option maxHeartbeats 4000000 in
theorem c_m_isRep {sc : pm_Sc} {h : pm_H} (r : Int32) : pu sc 114 [.int r] h (pz (some (.int (if 0 ≤ r ∧ r ≤ 3 then 1 else 0))) h) := by
  refine w_iload_n rfl rfl ?_
  refine w_ifCond_lt rfl rfl (fun c1 => ?_) (fun c1 => ?_)
  · refine w_iconst (v := 0) rfl (by decide) ?_
    exact w_ireturn rfl (by first | exact Or.inl rfl | exact Or.inr ⟨rfl, Or.inl rfl⟩ | exact Or.inr ⟨rfl, Or.inr rfl⟩) ⟨by simp_all, rfl⟩
  · refine w_iload_n rfl rfl ?_
    refine w_iconst (v := 3) rfl (by decide) ?_
    refine w_if_icmp_gt rfl rfl (fun c6 => ?_) (fun c6 => ?_)
    · refine w_iconst (v := 0) rfl (by decide) ?_
      exact w_ireturn rfl (by first | exact Or.inl rfl | exact Or.inr ⟨rfl, Or.inl rfl⟩ | exact Or.inr ⟨rfl, Or.inr rfl⟩) ⟨by simp_all, rfl⟩
    · refine w_iconst (v := 1) rfl (by decide) ?_
      refine w_goto rfl rfl ?_
      exact w_ireturn rfl (by first | exact Or.inl rfl | exact Or.inr ⟨rfl, Or.inl rfl⟩ | exact Or.inr ⟨rfl, Or.inr rfl⟩) ⟨by simp_all, rfl⟩
