set_option maxRecDepth 100000 in
theorem td_X8_view : ∀ r ∈ tb_X8_view, decode cX8_view r.1 = .ok (r.2.1, r.2.2.1) := by decide +kernel
set_option maxRecDepth 100000 in
theorem td_J6_bitCount_0f7a4 : ∀ r ∈ tb_J6_bitCount_0f7a4, decode cJ6_bitCount_0f7a4 r.1 = .ok (r.2.1, r.2.2.1) := by decide +kernel
set_option maxRecDepth 100000 in
theorem td_L_cell : ∀ r ∈ tb_L_cell, decode cL_cell r.1 = .ok (r.2.1, r.2.2.1) := by decide +kernel
set_option maxRecDepth 100000 in
theorem td_L_issue : ∀ r ∈ tb_L_issue, decode cL_issue r.1 = .ok (r.2.1, r.2.2.1) := by decide +kernel
set_option maxRecDepth 100000 in
theorem td_L_retry : ∀ r ∈ tb_L_retry, decode cL_retry r.1 = .ok (r.2.1, r.2.2.1) := by decide +kernel
set_option maxRecDepth 100000 in
theorem td_L_flood : ∀ r ∈ tb_L_flood, decode cL_flood r.1 = .ok (r.2.1, r.2.2.1) := by decide +kernel
set_option maxRecDepth 100000 in
theorem td_L_patience : ∀ r ∈ tb_L_patience, decode cL_patience r.1 = .ok (r.2.1, r.2.2.1) := by decide +kernel
set_option maxRecDepth 100000 in
theorem td_L_lie : ∀ r ∈ tb_L_lie, decode cL_lie r.1 = .ok (r.2.1, r.2.2.1) := by decide +kernel
set_option maxRecDepth 100000 in
theorem td_L_echo : ∀ r ∈ tb_L_echo, decode cL_echo r.1 = .ok (r.2.1, r.2.2.1) := by decide +kernel
set_option maxRecDepth 100000 in
theorem td_L_replica : ∀ r ∈ tb_L_replica, decode cL_replica r.1 = .ok (r.2.1, r.2.2.1) := by decide +kernel
set_option maxRecDepth 100000 in
theorem td_L_message : ∀ r ∈ tb_L_message, decode cL_message r.1 = .ok (r.2.1, r.2.2.1) := by decide +kernel
set_option maxRecDepth 100000 in
theorem td_L_request : ∀ r ∈ tb_L_request, decode cL_request r.1 = .ok (r.2.1, r.2.2.1) := by decide +kernel
