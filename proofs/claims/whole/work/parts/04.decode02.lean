set_option maxRecDepth 100000 in
theorem td_X6_agreedBy : ∀ r ∈ tb_X6_agreedBy, decode cX6_agreedBy r.1 = .ok (r.2.1, r.2.2.1) := by decide +kernel
set_option maxRecDepth 100000 in
theorem td_X6_countLike : ∀ r ∈ tb_X6_countLike, decode cX6_countLike r.1 = .ok (r.2.1, r.2.2.1) := by decide +kernel
set_option maxRecDepth 100000 in
theorem td_X6_finish : ∀ r ∈ tb_X6_finish, decode cX6_finish r.1 = .ok (r.2.1, r.2.2.1) := by decide +kernel
set_option maxRecDepth 100000 in
theorem td_X6_tell : ∀ r ∈ tb_X6_tell, decode cX6_tell r.1 = .ok (r.2.1, r.2.2.1) := by decide +kernel
set_option maxRecDepth 100000 in
theorem td_X6_countReplies : ∀ r ∈ tb_X6_countReplies, decode cX6_countReplies r.1 = .ok (r.2.1, r.2.2.1) := by decide +kernel
set_option maxRecDepth 100000 in
theorem td_X7_init : ∀ r ∈ tb_X7_init, decode cX7_init r.1 = .ok (r.2.1, r.2.2.1) := by decide +kernel
set_option maxRecDepth 100000 in
theorem td_X7_issue : ∀ r ∈ tb_X7_issue, decode cX7_issue r.1 = .ok (r.2.1, r.2.2.1) := by decide +kernel
theorem dX7_issue_21 : decode cX7_issue 21 = .ok (.dup, 1) := by decide +kernel
theorem dX7_issue_22 : decode cX7_issue 22 = .ok (.ldc 46, 2) := by decide +kernel
theorem dX7_issue_24 : decode cX7_issue 24 = .ok (.invokespecial 48, 3) := by decide +kernel
theorem dX7_issue_27 : decode cX7_issue 27 = .ok (.athrow, 1) := by decide +kernel
theorem dX7_issue_43 : decode cX7_issue 43 = .ok (.dup, 1) := by decide +kernel
theorem dX7_issue_44 : decode cX7_issue 44 = .ok (.ldc 56, 2) := by decide +kernel
theorem dX7_issue_46 : decode cX7_issue 46 = .ok (.invokespecial 58, 3) := by decide +kernel
theorem dX7_issue_49 : decode cX7_issue 49 = .ok (.athrow, 1) := by decide +kernel
theorem dX7_issue_18 : decode cX7_issue 18 = .ok (.new 44, 3) := by decide +kernel
theorem dX7_issue_40 : decode cX7_issue 40 = .ok (.new 54, 3) := by decide +kernel
set_option maxRecDepth 100000 in
theorem td_X7_retry : ∀ r ∈ tb_X7_retry, decode cX7_retry r.1 = .ok (r.2.1, r.2.2.1) := by decide +kernel
theorem dX7_retry_16 : decode cX7_retry 16 = .ok (.dup, 1) := by decide +kernel
theorem dX7_retry_17 : decode cX7_retry 17 = .ok (.ldc 72, 2) := by decide +kernel
theorem dX7_retry_19 : decode cX7_retry 19 = .ok (.invokespecial 74, 3) := by decide +kernel
theorem dX7_retry_22 : decode cX7_retry 22 = .ok (.athrow, 1) := by decide +kernel
theorem dX7_retry_13 : decode cX7_retry 13 = .ok (.new 70, 3) := by decide +kernel
set_option maxRecDepth 100000 in
theorem td_X7_deliver : ∀ r ∈ tb_X7_deliver, decode cX7_deliver r.1 = .ok (r.2.1, r.2.2.1) := by decide +kernel
set_option maxRecDepth 100000 in
theorem td_X7_flood : ∀ r ∈ tb_X7_flood, decode cX7_flood r.1 = .ok (r.2.1, r.2.2.1) := by decide +kernel
theorem dX7_flood_7 : decode cX7_flood 7 = .ok (.dup, 1) := by decide +kernel
theorem dX7_flood_8 : decode cX7_flood 8 = .ok (.ldc 82, 2) := by decide +kernel
theorem dX7_flood_10 : decode cX7_flood 10 = .ok (.invokespecial 48, 3) := by decide +kernel
theorem dX7_flood_13 : decode cX7_flood 13 = .ok (.athrow, 1) := by decide +kernel
theorem dX7_flood_4 : decode cX7_flood 4 = .ok (.new 44, 3) := by decide +kernel
set_option maxRecDepth 100000 in
theorem td_X7_lose : ∀ r ∈ tb_X7_lose, decode cX7_lose r.1 = .ok (r.2.1, r.2.2.1) := by decide +kernel
set_option maxRecDepth 100000 in
theorem td_X7_patience : ∀ r ∈ tb_X7_patience, decode cX7_patience r.1 = .ok (r.2.1, r.2.2.1) := by decide +kernel
theorem dX7_patience_10 : decode cX7_patience 10 = .ok (.dup, 1) := by decide +kernel
theorem dX7_patience_11 : decode cX7_patience 11 = .ok (.ldc 93, 2) := by decide +kernel
theorem dX7_patience_13 : decode cX7_patience 13 = .ok (.invokespecial 48, 3) := by decide +kernel
theorem dX7_patience_16 : decode cX7_patience 16 = .ok (.athrow, 1) := by decide +kernel
theorem dX7_patience_7 : decode cX7_patience 7 = .ok (.new 44, 3) := by decide +kernel
set_option maxRecDepth 100000 in
theorem td_X7_lie : ∀ r ∈ tb_X7_lie, decode cX7_lie r.1 = .ok (r.2.1, r.2.2.1) := by decide +kernel
theorem dX7_lie_29 : decode cX7_lie 29 = .ok (.dup, 1) := by decide +kernel
theorem dX7_lie_30 : decode cX7_lie 30 = .ok (.ldc 99, 2) := by decide +kernel
theorem dX7_lie_32 : decode cX7_lie 32 = .ok (.invokespecial 48, 3) := by decide +kernel
theorem dX7_lie_35 : decode cX7_lie 35 = .ok (.athrow, 1) := by decide +kernel
theorem dX7_lie_26 : decode cX7_lie 26 = .ok (.new 44, 3) := by decide +kernel
set_option maxRecDepth 100000 in
theorem td_X7_echo : ∀ r ∈ tb_X7_echo, decode cX7_echo r.1 = .ok (r.2.1, r.2.2.1) := by decide +kernel
theorem dX7_echo_31 : decode cX7_echo 31 = .ok (.dup, 1) := by decide +kernel
theorem dX7_echo_32 : decode cX7_echo 32 = .ok (.ldc 99, 2) := by decide +kernel
theorem dX7_echo_34 : decode cX7_echo 34 = .ok (.invokespecial 48, 3) := by decide +kernel
theorem dX7_echo_37 : decode cX7_echo 37 = .ok (.athrow, 1) := by decide +kernel
theorem dX7_echo_28 : decode cX7_echo 28 = .ok (.new 44, 3) := by decide +kernel
set_option maxRecDepth 100000 in
theorem td_X7_replica : ∀ r ∈ tb_X7_replica, decode cX7_replica r.1 = .ok (r.2.1, r.2.2.1) := by decide +kernel
theorem dX7_replica_78 : decode cX7_replica 78 = .ok (.dup, 1) := by decide +kernel
theorem dX7_replica_79 : decode cX7_replica 79 = .ok (.ldc 130, 2) := by decide +kernel
theorem dX7_replica_81 : decode cX7_replica 81 = .ok (.invokespecial 48, 3) := by decide +kernel
theorem dX7_replica_84 : decode cX7_replica 84 = .ok (.athrow, 1) := by decide +kernel
theorem dX7_replica_75 : decode cX7_replica 75 = .ok (.new 44, 3) := by decide +kernel
set_option maxRecDepth 100000 in
theorem td_X7_messages : ∀ r ∈ tb_X7_messages, decode cX7_messages r.1 = .ok (r.2.1, r.2.2.1) := by decide +kernel
set_option maxRecDepth 100000 in
theorem td_X7_message : ∀ r ∈ tb_X7_message, decode cX7_message r.1 = .ok (r.2.1, r.2.2.1) := by decide +kernel
theorem dX7_message_26 : decode cX7_message 26 = .ok (.dup, 1) := by decide +kernel
theorem dX7_message_27 : decode cX7_message 27 = .ok (.ldc 142, 2) := by decide +kernel
theorem dX7_message_29 : decode cX7_message 29 = .ok (.invokespecial 74, 3) := by decide +kernel
theorem dX7_message_32 : decode cX7_message 32 = .ok (.athrow, 1) := by decide +kernel
theorem dX7_message_23 : decode cX7_message 23 = .ok (.new 70, 3) := by decide +kernel
set_option maxRecDepth 100000 in
theorem td_X7_request : ∀ r ∈ tb_X7_request, decode cX7_request r.1 = .ok (r.2.1, r.2.2.1) := by decide +kernel
theorem dX7_request_25 : decode cX7_request 25 = .ok (.dup, 1) := by decide +kernel
theorem dX7_request_26 : decode cX7_request 26 = .ok (.ldc 145, 2) := by decide +kernel
theorem dX7_request_28 : decode cX7_request 28 = .ok (.invokespecial 74, 3) := by decide +kernel
theorem dX7_request_31 : decode cX7_request 31 = .ok (.athrow, 1) := by decide +kernel
theorem dX7_request_22 : decode cX7_request 22 = .ok (.new 70, 3) := by decide +kernel
set_option maxRecDepth 100000 in
theorem td_X7_view : ∀ r ∈ tb_X7_view, decode cX7_view r.1 = .ok (r.2.1, r.2.2.1) := by decide +kernel
set_option maxRecDepth 100000 in
theorem td_X7_handOver : ∀ r ∈ tb_X7_handOver, decode cX7_handOver r.1 = .ok (r.2.1, r.2.2.1) := by decide +kernel
set_option maxRecDepth 100000 in
theorem td_X7_isReplica : ∀ r ∈ tb_X7_isReplica, decode cX7_isReplica r.1 = .ok (r.2.1, r.2.2.1) := by decide +kernel
set_option maxRecDepth 100000 in
theorem td_X7_primaryOf : ∀ r ∈ tb_X7_primaryOf, decode cX7_primaryOf r.1 = .ok (r.2.1, r.2.2.1) := by decide +kernel
set_option maxRecDepth 100000 in
theorem td_X7_askFor : ∀ r ∈ tb_X7_askFor, decode cX7_askFor r.1 = .ok (r.2.1, r.2.2.1) := by decide +kernel
set_option maxRecDepth 100000 in
theorem td_X8_init : ∀ r ∈ tb_X8_init, decode cX8_init r.1 = .ok (r.2.1, r.2.2.1) := by decide +kernel
