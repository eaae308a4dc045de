set_option maxRecDepth 100000 in
theorem td_X8_thrown : ∀ r ∈ tb_X8_thrown, decode cX8_thrown r.1 = .ok (r.2.1, r.2.2.1) := by decide +kernel
set_option maxRecDepth 100000 in
theorem td_X8_refuse : ∀ r ∈ tb_X8_refuse, decode cX8_refuse r.1 = .ok (r.2.1, r.2.2.1) := by decide +kernel
set_option maxRecDepth 100000 in
theorem td_X8_at : ∀ r ∈ tb_X8_at, decode cX8_at r.1 = .ok (r.2.1, r.2.2.1) := by decide +kernel
set_option maxRecDepth 100000 in
theorem td_X8_with : ∀ r ∈ tb_X8_with, decode cX8_with r.1 = .ok (r.2.1, r.2.2.1) := by decide +kernel
set_option maxRecDepth 100000 in
theorem td_X8_begin : ∀ r ∈ tb_X8_begin, decode cX8_begin r.1 = .ok (r.2.1, r.2.2.1) := by decide +kernel
set_option maxRecDepth 100000 in
theorem td_X8_digestOf : ∀ r ∈ tb_X8_digestOf, decode cX8_digestOf r.1 = .ok (r.2.1, r.2.2.1) := by decide +kernel
set_option maxRecDepth 100000 in
theorem td_X8_placeIn : ∀ r ∈ tb_X8_placeIn, decode cX8_placeIn r.1 = .ok (r.2.1, r.2.2.1) := by decide +kernel
set_option maxRecDepth 100000 in
theorem td_X8_work : ∀ r ∈ tb_X8_work, decode cX8_work r.1 = .ok (r.2.1, r.2.2.1) := by decide +kernel
set_option maxRecDepth 100000 in
theorem td_X8_send : ∀ r ∈ tb_X8_send, decode cX8_send r.1 = .ok (r.2.1, r.2.2.1) := by decide +kernel
set_option maxRecDepth 100000 in
theorem td_X8_sendToAll : ∀ r ∈ tb_X8_sendToAll, decode cX8_sendToAll r.1 = .ok (r.2.1, r.2.2.1) := by decide +kernel
set_option maxRecDepth 100000 in
theorem td_X8_sendRow : ∀ r ∈ tb_X8_sendRow, decode cX8_sendRow r.1 = .ok (r.2.1, r.2.2.1) := by decide +kernel
set_option maxRecDepth 100000 in
theorem td_X8_reply : ∀ r ∈ tb_X8_reply, decode cX8_reply r.1 = .ok (r.2.1, r.2.2.1) := by decide +kernel
set_option maxRecDepth 100000 in
theorem td_X8_order : ∀ r ∈ tb_X8_order, decode cX8_order r.1 = .ok (r.2.1, r.2.2.1) := by decide +kernel
set_option maxRecDepth 100000 in
theorem td_X8_isPrimary : ∀ r ∈ tb_X8_isPrimary, decode cX8_isPrimary r.1 = .ok (r.2.1, r.2.2.1) := by decide +kernel
set_option maxRecDepth 100000 in
theorem td_X8_append : ∀ r ∈ tb_X8_append, decode cX8_append r.1 = .ok (r.2.1, r.2.2.1) := by decide +kernel
set_option maxRecDepth 100000 in
theorem td_X8_takeAsk : ∀ r ∈ tb_X8_takeAsk, decode cX8_takeAsk r.1 = .ok (r.2.1, r.2.2.1) := by decide +kernel
set_option maxRecDepth 100000 in
theorem td_X8_takeOrder : ∀ r ∈ tb_X8_takeOrder, decode cX8_takeOrder r.1 = .ok (r.2.1, r.2.2.1) := by decide +kernel
set_option maxRecDepth 100000 in
theorem td_X8_takeProof : ∀ r ∈ tb_X8_takeProof, decode cX8_takeProof r.1 = .ok (r.2.1, r.2.2.1) := by decide +kernel
set_option maxRecDepth 100000 in
theorem td_X8_bits : ∀ r ∈ tb_X8_bits, decode cX8_bits r.1 = .ok (r.2.1, r.2.2.1) := by decide +kernel
set_option maxRecDepth 100000 in
theorem td_X8_takeHate : ∀ r ∈ tb_X8_takeHate, decode cX8_takeHate r.1 = .ok (r.2.1, r.2.2.1) := by decide +kernel
set_option maxRecDepth 100000 in
theorem td_X8_takeChange : ∀ r ∈ tb_X8_takeChange, decode cX8_takeChange r.1 = .ok (r.2.1, r.2.2.1) := by decide +kernel
