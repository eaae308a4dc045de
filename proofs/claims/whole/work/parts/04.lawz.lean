theorem tdl_s (k n : Nat) {r : pm_R} (h : r ∈ tb_L_law.drop k) : r ∈ (tb_L_law.drop k).take n ∨ r ∈ tb_L_law.drop (k + n) := by
  rw [← List.take_append_drop n (tb_L_law.drop k)] at h
  rcases List.mem_append.mp h with h | h
  · exact Or.inl h
  · rw [List.drop_drop] at h
    exact Or.inr h
theorem td_L_law : ∀ r ∈ tb_L_law, decode cL_law r.1 = .ok (r.2.1, r.2.2.1) := by
  intro r h
  have h : r ∈ tb_L_law.drop 0 := h
  rcases tdl_s 0 80 h with g | h
  · exact tdl_0 r g
  rcases tdl_s 80 80 h with g | h
  · exact tdl_1 r g
  rcases tdl_s 160 80 h with g | h
  · exact tdl_2 r g
  rcases tdl_s 240 80 h with g | h
  · exact tdl_3 r g
  rcases tdl_s 320 80 h with g | h
  · exact tdl_4 r g
  rcases tdl_s 400 80 h with g | h
  · exact tdl_5 r g
  have e : tb_L_law.drop 480 = [] := by decide +kernel
  rw [e] at h
  cases h
