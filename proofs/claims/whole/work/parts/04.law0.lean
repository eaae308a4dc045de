set_option maxRecDepth 100000 in
theorem tdl_0 : ∀ r ∈ (tb_L_law.drop 0).take 80, decode cL_law r.1 = .ok (r.2.1, r.2.2.1) := by decide +kernel
