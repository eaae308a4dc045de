set_option maxRecDepth 100000 in
theorem tdl_3 : ∀ r ∈ (tb_L_law.drop 240).take 80, decode cL_law r.1 = .ok (r.2.1, r.2.2.1) := by decide +kernel
