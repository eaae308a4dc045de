set_option maxRecDepth 100000 in
theorem td_X5_endPatience : ∀ r ∈ tb_X5_endPatience, decode cX5_endPatience r.1 = .ok (r.2.1, r.2.2.1) := by decide +kernel
set_option maxRecDepth 100000 in
theorem td_X5_takeAsk : ∀ r ∈ tb_X5_takeAsk, decode cX5_takeAsk r.1 = .ok (r.2.1, r.2.2.1) := by decide +kernel
set_option maxRecDepth 100000 in
theorem td_X5_takeOrder : ∀ r ∈ tb_X5_takeOrder, decode cX5_takeOrder r.1 = .ok (r.2.1, r.2.2.1) := by decide +kernel
set_option maxRecDepth 100000 in
theorem td_X5_takeProof : ∀ r ∈ tb_X5_takeProof, decode cX5_takeProof r.1 = .ok (r.2.1, r.2.2.1) := by decide +kernel
set_option maxRecDepth 100000 in
theorem td_X5_takeHate : ∀ r ∈ tb_X5_takeHate, decode cX5_takeHate r.1 = .ok (r.2.1, r.2.2.1) := by decide +kernel
set_option maxRecDepth 100000 in
theorem td_X5_changeView : ∀ r ∈ tb_X5_changeView, decode cX5_changeView r.1 = .ok (r.2.1, r.2.2.1) := by decide +kernel
set_option maxRecDepth 100000 in
theorem td_X5_keepChange : ∀ r ∈ tb_X5_keepChange, decode cX5_keepChange r.1 = .ok (r.2.1, r.2.2.1) := by decide +kernel
set_option maxRecDepth 100000 in
theorem td_X5_mayTurn : ∀ r ∈ tb_X5_mayTurn, decode cX5_mayTurn r.1 = .ok (r.2.1, r.2.2.1) := by decide +kernel
set_option maxRecDepth 100000 in
theorem td_X5_countChanges : ∀ r ∈ tb_X5_countChanges, decode cX5_countChanges r.1 = .ok (r.2.1, r.2.2.1) := by decide +kernel
set_option maxRecDepth 100000 in
theorem td_X5_changedHistory : ∀ r ∈ tb_X5_changedHistory, decode cX5_changedHistory r.1 = .ok (r.2.1, r.2.2.1) := by decide +kernel
set_option maxRecDepth 100000 in
theorem td_X5_mergeChanges : ∀ r ∈ tb_X5_mergeChanges, decode cX5_mergeChanges r.1 = .ok (r.2.1, r.2.2.1) := by decide +kernel
set_option maxRecDepth 100000 in
theorem td_X5_mostFixed : ∀ r ∈ tb_X5_mostFixed, decode cX5_mostFixed r.1 = .ok (r.2.1, r.2.2.1) := by decide +kernel
set_option maxRecDepth 100000 in
theorem td_X5_agreedNext : ∀ r ∈ tb_X5_agreedNext, decode cX5_agreedNext r.1 = .ok (r.2.1, r.2.2.1) := by decide +kernel
set_option maxRecDepth 100000 in
theorem td_X5_nextAfter : ∀ r ∈ tb_X5_nextAfter, decode cX5_nextAfter r.1 = .ok (r.2.1, r.2.2.1) := by decide +kernel
set_option maxRecDepth 100000 in
theorem td_X5_turnTo : ∀ r ∈ tb_X5_turnTo, decode cX5_turnTo r.1 = .ok (r.2.1, r.2.2.1) := by decide +kernel
set_option maxRecDepth 100000 in
theorem td_X5_doNext : ∀ r ∈ tb_X5_doNext, decode cX5_doNext r.1 = .ok (r.2.1, r.2.2.1) := by decide +kernel
set_option maxRecDepth 100000 in
theorem td_X5_orderOf : ∀ r ∈ tb_X5_orderOf, decode cX5_orderOf r.1 = .ok (r.2.1, r.2.2.1) := by decide +kernel
set_option maxRecDepth 100000 in
theorem td_X5_reply : ∀ r ∈ tb_X5_reply, decode cX5_reply r.1 = .ok (r.2.1, r.2.2.1) := by decide +kernel
set_option maxRecDepth 100000 in
theorem td_X6_init : ∀ r ∈ tb_X6_init, decode cX6_init r.1 = .ok (r.2.1, r.2.2.1) := by decide +kernel
set_option maxRecDepth 100000 in
theorem td_X6_doOn : ∀ r ∈ tb_X6_doOn, decode cX6_doOn r.1 = .ok (r.2.1, r.2.2.1) := by decide +kernel
set_option maxRecDepth 100000 in
theorem td_X6_keep : ∀ r ∈ tb_X6_keep, decode cX6_keep r.1 = .ok (r.2.1, r.2.2.1) := by decide +kernel
