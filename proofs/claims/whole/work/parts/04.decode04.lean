set_option maxRecDepth 100000 in
theorem td_X8_safest : ∀ r ∈ tb_X8_safest, decode cX8_safest r.1 = .ok (r.2.1, r.2.2.1) := by decide +kernel
set_option maxRecDepth 100000 in
theorem td_X8_goesOn : ∀ r ∈ tb_X8_goesOn, decode cX8_goesOn r.1 = .ok (r.2.1, r.2.2.1) := by decide +kernel
set_option maxRecDepth 100000 in
theorem td_X8_nextOf : ∀ r ∈ tb_X8_nextOf, decode cX8_nextOf r.1 = .ok (r.2.1, r.2.2.1) := by decide +kernel
set_option maxRecDepth 100000 in
theorem td_X8_makeNew : ∀ r ∈ tb_X8_makeNew, decode cX8_makeNew r.1 = .ok (r.2.1, r.2.2.1) := by decide +kernel
set_option maxRecDepth 100000 in
theorem td_X8_turn : ∀ r ∈ tb_X8_turn, decode cX8_turn r.1 = .ok (r.2.1, r.2.2.1) := by decide +kernel
set_option maxRecDepth 100000 in
theorem td_X8_takeNew : ∀ r ∈ tb_X8_takeNew, decode cX8_takeNew r.1 = .ok (r.2.1, r.2.2.1) := by decide +kernel
set_option maxRecDepth 100000 in
theorem td_X8_take : ∀ r ∈ tb_X8_take, decode cX8_take r.1 = .ok (r.2.1, r.2.2.1) := by decide +kernel
set_option maxRecDepth 100000 in
theorem td_X8_areAlike : ∀ r ∈ tb_X8_areAlike, decode cX8_areAlike r.1 = .ok (r.2.1, r.2.2.1) := by decide +kernel
set_option maxRecDepth 100000 in
theorem td_X8_alike : ∀ r ∈ tb_X8_alike, decode cX8_alike r.1 = .ok (r.2.1, r.2.2.1) := by decide +kernel
set_option maxRecDepth 100000 in
theorem td_X8_finish : ∀ r ∈ tb_X8_finish, decode cX8_finish r.1 = .ok (r.2.1, r.2.2.1) := by decide +kernel
set_option maxRecDepth 100000 in
theorem td_X8_look : ∀ r ∈ tb_X8_look, decode cX8_look r.1 = .ok (r.2.1, r.2.2.1) := by decide +kernel
set_option maxRecDepth 100000 in
theorem td_X8_takeReply : ∀ r ∈ tb_X8_takeReply, decode cX8_takeReply r.1 = .ok (r.2.1, r.2.2.1) := by decide +kernel
set_option maxRecDepth 100000 in
theorem td_X8_takeAck : ∀ r ∈ tb_X8_takeAck, decode cX8_takeAck r.1 = .ok (r.2.1, r.2.2.1) := by decide +kernel
