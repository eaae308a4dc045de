set_option maxRecDepth 100000 in
theorem td_X0_init : ∀ r ∈ tb_X0_init, decode cX0_init r.1 = .ok (r.2.1, r.2.2.1) := by decide +kernel
set_option maxRecDepth 100000 in
theorem td_X0_find : ∀ r ∈ tb_X0_find, decode cX0_find r.1 = .ok (r.2.1, r.2.2.1) := by decide +kernel
set_option maxRecDepth 100000 in
theorem td_X0_begin : ∀ r ∈ tb_X0_begin, decode cX0_begin r.1 = .ok (r.2.1, r.2.2.1) := by decide +kernel
set_option maxRecDepth 100000 in
theorem td_X0_tryAgain : ∀ r ∈ tb_X0_tryAgain, decode cX0_tryAgain r.1 = .ok (r.2.1, r.2.2.1) := by decide +kernel
set_option maxRecDepth 100000 in
theorem td_X0_take : ∀ r ∈ tb_X0_take, decode cX0_take r.1 = .ok (r.2.1, r.2.2.1) := by decide +kernel
set_option maxRecDepth 100000 in
theorem td_X0_lookAt : ∀ r ∈ tb_X0_lookAt, decode cX0_lookAt r.1 = .ok (r.2.1, r.2.2.1) := by decide +kernel
set_option maxRecDepth 100000 in
theorem td_X0_countAcks : ∀ r ∈ tb_X0_countAcks, decode cX0_countAcks r.1 = .ok (r.2.1, r.2.2.1) := by decide +kernel
set_option maxRecDepth 100000 in
theorem td_X1_init : ∀ r ∈ tb_X1_init, decode cX1_init r.1 = .ok (r.2.1, r.2.2.1) := by decide +kernel
set_option maxRecDepth 100000 in
theorem td_X1_add : ∀ r ∈ tb_X1_add, decode cX1_add r.1 = .ok (r.2.1, r.2.2.1) := by decide +kernel
set_option maxRecDepth 100000 in
theorem td_X1_at : ∀ r ∈ tb_X1_at, decode cX1_at r.1 = .ok (r.2.1, r.2.2.1) := by decide +kernel
set_option maxRecDepth 100000 in
theorem td_X1_placeOf : ∀ r ∈ tb_X1_placeOf, decode cX1_placeOf r.1 = .ok (r.2.1, r.2.2.1) := by decide +kernel
set_option maxRecDepth 100000 in
theorem td_X1_digest : ∀ r ∈ tb_X1_digest, decode cX1_digest r.1 = .ok (r.2.1, r.2.2.1) := by decide +kernel
set_option maxRecDepth 100000 in
theorem td_X1_beginsWith : ∀ r ∈ tb_X1_beginsWith, decode cX1_beginsWith r.1 = .ok (r.2.1, r.2.2.1) := by decide +kernel
set_option maxRecDepth 100000 in
theorem td_X1_copy : ∀ r ∈ tb_X1_copy, decode cX1_copy r.1 = .ok (r.2.1, r.2.2.1) := by decide +kernel
set_option maxRecDepth 100000 in
theorem td_X1_digestWith : ∀ r ∈ tb_X1_digestWith, decode cX1_digestWith r.1 = .ok (r.2.1, r.2.2.1) := by decide +kernel
set_option maxRecDepth 100000 in
theorem td_X2_init : ∀ r ∈ tb_X2_init, decode cX2_init r.1 = .ok (r.2.1, r.2.2.1) := by decide +kernel
set_option maxRecDepth 100000 in
theorem td_X2_samePoint : ∀ r ∈ tb_X2_samePoint, decode cX2_samePoint r.1 = .ok (r.2.1, r.2.2.1) := by decide +kernel
set_option maxRecDepth 100000 in
theorem td_X2_sameReply : ∀ r ∈ tb_X2_sameReply, decode cX2_sameReply r.1 = .ok (r.2.1, r.2.2.1) := by decide +kernel
set_option maxRecDepth 100000 in
theorem td_X3_init : ∀ r ∈ tb_X3_init, decode cX3_init r.1 = .ok (r.2.1, r.2.2.1) := by decide +kernel
set_option maxRecDepth 100000 in
theorem td_X3_tell : ∀ r ∈ tb_X3_tell, decode cX3_tell r.1 = .ok (r.2.1, r.2.2.1) := by decide +kernel
set_option maxRecDepth 100000 in
theorem td_X4_init : ∀ r ∈ tb_X4_init, decode cX4_init r.1 = .ok (r.2.1, r.2.2.1) := by decide +kernel
set_option maxRecDepth 100000 in
theorem td_X4_send : ∀ r ∈ tb_X4_send, decode cX4_send r.1 = .ok (r.2.1, r.2.2.1) := by decide +kernel
set_option maxRecDepth 100000 in
theorem td_X4_sendToAll : ∀ r ∈ tb_X4_sendToAll, decode cX4_sendToAll r.1 = .ok (r.2.1, r.2.2.1) := by decide +kernel
set_option maxRecDepth 100000 in
theorem td_X4_find : ∀ r ∈ tb_X4_find, decode cX4_find r.1 = .ok (r.2.1, r.2.2.1) := by decide +kernel
set_option maxRecDepth 100000 in
theorem td_X5_init : ∀ r ∈ tb_X5_init, decode cX5_init r.1 = .ok (r.2.1, r.2.2.1) := by decide +kernel
set_option maxRecDepth 100000 in
theorem td_X5_tell : ∀ r ∈ tb_X5_tell, decode cX5_tell r.1 = .ok (r.2.1, r.2.2.1) := by decide +kernel
set_option maxRecDepth 100000 in
theorem td_X5_fittingOrder : ∀ r ∈ tb_X5_fittingOrder, decode cX5_fittingOrder r.1 = .ok (r.2.1, r.2.2.1) := by decide +kernel
set_option maxRecDepth 100000 in
theorem td_X5_take : ∀ r ∈ tb_X5_take, decode cX5_take r.1 = .ok (r.2.1, r.2.2.1) := by decide +kernel
