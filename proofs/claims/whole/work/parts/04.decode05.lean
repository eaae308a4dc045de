set_option maxRecDepth 100000 in
theorem td_X8_issue : ∀ r ∈ tb_X8_issue, decode cX8_issue r.1 = .ok (r.2.1, r.2.2.1) := by decide +kernel
set_option maxRecDepth 100000 in
theorem td_X8_isRequest : ∀ r ∈ tb_X8_isRequest, decode cX8_isRequest r.1 = .ok (r.2.1, r.2.2.1) := by decide +kernel
set_option maxRecDepth 100000 in
theorem td_X8_retry : ∀ r ∈ tb_X8_retry, decode cX8_retry r.1 = .ok (r.2.1, r.2.2.1) := by decide +kernel
set_option maxRecDepth 100000 in
theorem td_X8_isUnderWay : ∀ r ∈ tb_X8_isUnderWay, decode cX8_isUnderWay r.1 = .ok (r.2.1, r.2.2.1) := by decide +kernel
set_option maxRecDepth 100000 in
theorem td_X8_deliver : ∀ r ∈ tb_X8_deliver, decode cX8_deliver r.1 = .ok (r.2.1, r.2.2.1) := by decide +kernel
set_option maxRecDepth 100000 in
theorem td_X8_flood : ∀ r ∈ tb_X8_flood, decode cX8_flood r.1 = .ok (r.2.1, r.2.2.1) := by decide +kernel
set_option maxRecDepth 100000 in
theorem td_X8_lose : ∀ r ∈ tb_X8_lose, decode cX8_lose r.1 = .ok (r.2.1, r.2.2.1) := by decide +kernel
set_option maxRecDepth 100000 in
theorem td_X8_isReplica : ∀ r ∈ tb_X8_isReplica, decode cX8_isReplica r.1 = .ok (r.2.1, r.2.2.1) := by decide +kernel
set_option maxRecDepth 100000 in
theorem td_X8_refuseThis : ∀ r ∈ tb_X8_refuseThis, decode cX8_refuseThis r.1 = .ok (r.2.1, r.2.2.1) := by decide +kernel
set_option maxRecDepth 100000 in
theorem td_X8_patience : ∀ r ∈ tb_X8_patience, decode cX8_patience r.1 = .ok (r.2.1, r.2.2.1) := by decide +kernel
set_option maxRecDepth 100000 in
theorem td_X8_lie : ∀ r ∈ tb_X8_lie, decode cX8_lie r.1 = .ok (r.2.1, r.2.2.1) := by decide +kernel
set_option maxRecDepth 100000 in
theorem td_X8_echo : ∀ r ∈ tb_X8_echo, decode cX8_echo r.1 = .ok (r.2.1, r.2.2.1) := by decide +kernel
set_option maxRecDepth 100000 in
theorem td_X8_replica : ∀ r ∈ tb_X8_replica, decode cX8_replica r.1 = .ok (r.2.1, r.2.2.1) := by decide +kernel
set_option maxRecDepth 100000 in
theorem td_X8_messages : ∀ r ∈ tb_X8_messages, decode cX8_messages r.1 = .ok (r.2.1, r.2.2.1) := by decide +kernel
set_option maxRecDepth 100000 in
theorem td_X8_message : ∀ r ∈ tb_X8_message, decode cX8_message r.1 = .ok (r.2.1, r.2.2.1) := by decide +kernel
set_option maxRecDepth 100000 in
theorem td_X8_replies : ∀ r ∈ tb_X8_replies, decode cX8_replies r.1 = .ok (r.2.1, r.2.2.1) := by decide +kernel
set_option maxRecDepth 100000 in
theorem td_X8_request : ∀ r ∈ tb_X8_request, decode cX8_request r.1 = .ok (r.2.1, r.2.2.1) := by decide +kernel
