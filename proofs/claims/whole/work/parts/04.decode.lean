set_option maxRecDepth 100000 in
theorem td_X0_init : ∀ r ∈ tb_X0_init, decode cX0_init r.1 = .ok (r.2.1, r.2.2.1) := by decide +kernel
set_option maxRecDepth 100000 in
theorem td_X0_find : ∀ r ∈ tb_X0_find, decode cX0_find r.1 = .ok (r.2.1, r.2.2.1) := by decide +kernel
set_option maxRecDepth 100000 in
theorem td_X0_begin : ∀ r ∈ tb_X0_begin, decode cX0_begin r.1 = .ok (r.2.1, r.2.2.1) := by decide +kernel
set_option maxRecDepth 100000 in
theorem td_X0_tryAgain : ∀ r ∈ tb_X0_tryAgain, decode cX0_tryAgain r.1 = .ok (r.2.1, r.2.2.1) := by decide +kernel
set_option maxRecDepth 100000 in
theorem td_X0_take : ∀ r ∈ tb_X0_take, decode cX0_take r.1 = .ok (r.2.1, r.2.2.1) := by decide +kernel
set_option maxRecDepth 100000 in
theorem td_X0_lookAt : ∀ r ∈ tb_X0_lookAt, decode cX0_lookAt r.1 = .ok (r.2.1, r.2.2.1) := by decide +kernel
set_option maxRecDepth 100000 in
theorem td_X0_countAcks : ∀ r ∈ tb_X0_countAcks, decode cX0_countAcks r.1 = .ok (r.2.1, r.2.2.1) := by decide +kernel
set_option maxRecDepth 100000 in
theorem td_X1_init : ∀ r ∈ tb_X1_init, decode cX1_init r.1 = .ok (r.2.1, r.2.2.1) := by decide +kernel
set_option maxRecDepth 100000 in
theorem td_X1_add : ∀ r ∈ tb_X1_add, decode cX1_add r.1 = .ok (r.2.1, r.2.2.1) := by decide +kernel
set_option maxRecDepth 100000 in
theorem td_X1_at : ∀ r ∈ tb_X1_at, decode cX1_at r.1 = .ok (r.2.1, r.2.2.1) := by decide +kernel
set_option maxRecDepth 100000 in
theorem td_X1_placeOf : ∀ r ∈ tb_X1_placeOf, decode cX1_placeOf r.1 = .ok (r.2.1, r.2.2.1) := by decide +kernel
set_option maxRecDepth 100000 in
theorem td_X1_digest : ∀ r ∈ tb_X1_digest, decode cX1_digest r.1 = .ok (r.2.1, r.2.2.1) := by decide +kernel
set_option maxRecDepth 100000 in
theorem td_X1_beginsWith : ∀ r ∈ tb_X1_beginsWith, decode cX1_beginsWith r.1 = .ok (r.2.1, r.2.2.1) := by decide +kernel
set_option maxRecDepth 100000 in
theorem td_X1_copy : ∀ r ∈ tb_X1_copy, decode cX1_copy r.1 = .ok (r.2.1, r.2.2.1) := by decide +kernel
set_option maxRecDepth 100000 in
theorem td_X1_digestWith : ∀ r ∈ tb_X1_digestWith, decode cX1_digestWith r.1 = .ok (r.2.1, r.2.2.1) := by decide +kernel
set_option maxRecDepth 100000 in
theorem td_X2_init : ∀ r ∈ tb_X2_init, decode cX2_init r.1 = .ok (r.2.1, r.2.2.1) := by decide +kernel
set_option maxRecDepth 100000 in
theorem td_X2_samePoint : ∀ r ∈ tb_X2_samePoint, decode cX2_samePoint r.1 = .ok (r.2.1, r.2.2.1) := by decide +kernel
set_option maxRecDepth 100000 in
theorem td_X2_sameReply : ∀ r ∈ tb_X2_sameReply, decode cX2_sameReply r.1 = .ok (r.2.1, r.2.2.1) := by decide +kernel
set_option maxRecDepth 100000 in
theorem td_X3_init : ∀ r ∈ tb_X3_init, decode cX3_init r.1 = .ok (r.2.1, r.2.2.1) := by decide +kernel
set_option maxRecDepth 100000 in
theorem td_X3_tell : ∀ r ∈ tb_X3_tell, decode cX3_tell r.1 = .ok (r.2.1, r.2.2.1) := by decide +kernel
set_option maxRecDepth 100000 in
theorem td_X4_init : ∀ r ∈ tb_X4_init, decode cX4_init r.1 = .ok (r.2.1, r.2.2.1) := by decide +kernel
set_option maxRecDepth 100000 in
theorem td_X4_send : ∀ r ∈ tb_X4_send, decode cX4_send r.1 = .ok (r.2.1, r.2.2.1) := by decide +kernel
set_option maxRecDepth 100000 in
theorem td_X4_sendToAll : ∀ r ∈ tb_X4_sendToAll, decode cX4_sendToAll r.1 = .ok (r.2.1, r.2.2.1) := by decide +kernel
set_option maxRecDepth 100000 in
theorem td_X4_find : ∀ r ∈ tb_X4_find, decode cX4_find r.1 = .ok (r.2.1, r.2.2.1) := by decide +kernel
set_option maxRecDepth 100000 in
theorem td_X5_init : ∀ r ∈ tb_X5_init, decode cX5_init r.1 = .ok (r.2.1, r.2.2.1) := by decide +kernel
set_option maxRecDepth 100000 in
theorem td_X5_tell : ∀ r ∈ tb_X5_tell, decode cX5_tell r.1 = .ok (r.2.1, r.2.2.1) := by decide +kernel
set_option maxRecDepth 100000 in
theorem td_X5_fittingOrder : ∀ r ∈ tb_X5_fittingOrder, decode cX5_fittingOrder r.1 = .ok (r.2.1, r.2.2.1) := by decide +kernel
set_option maxRecDepth 100000 in
theorem td_X5_take : ∀ r ∈ tb_X5_take, decode cX5_take r.1 = .ok (r.2.1, r.2.2.1) := by decide +kernel
set_option maxRecDepth 100000 in
theorem td_X5_endPatience : ∀ r ∈ tb_X5_endPatience, decode cX5_endPatience r.1 = .ok (r.2.1, r.2.2.1) := by decide +kernel
set_option maxRecDepth 100000 in
theorem td_X5_takeAsk : ∀ r ∈ tb_X5_takeAsk, decode cX5_takeAsk r.1 = .ok (r.2.1, r.2.2.1) := by decide +kernel
set_option maxRecDepth 100000 in
theorem td_X5_takeOrder : ∀ r ∈ tb_X5_takeOrder, decode cX5_takeOrder r.1 = .ok (r.2.1, r.2.2.1) := by decide +kernel
set_option maxRecDepth 100000 in
theorem td_X5_takeProof : ∀ r ∈ tb_X5_takeProof, decode cX5_takeProof r.1 = .ok (r.2.1, r.2.2.1) := by decide +kernel
set_option maxRecDepth 100000 in
theorem td_X5_takeHate : ∀ r ∈ tb_X5_takeHate, decode cX5_takeHate r.1 = .ok (r.2.1, r.2.2.1) := by decide +kernel
set_option maxRecDepth 100000 in
theorem td_X5_changeView : ∀ r ∈ tb_X5_changeView, decode cX5_changeView r.1 = .ok (r.2.1, r.2.2.1) := by decide +kernel
set_option maxRecDepth 100000 in
theorem td_X5_keepChange : ∀ r ∈ tb_X5_keepChange, decode cX5_keepChange r.1 = .ok (r.2.1, r.2.2.1) := by decide +kernel
set_option maxRecDepth 100000 in
theorem td_X5_mayTurn : ∀ r ∈ tb_X5_mayTurn, decode cX5_mayTurn r.1 = .ok (r.2.1, r.2.2.1) := by decide +kernel
set_option maxRecDepth 100000 in
theorem td_X5_countChanges : ∀ r ∈ tb_X5_countChanges, decode cX5_countChanges r.1 = .ok (r.2.1, r.2.2.1) := by decide +kernel
set_option maxRecDepth 100000 in
theorem td_X5_changedHistory : ∀ r ∈ tb_X5_changedHistory, decode cX5_changedHistory r.1 = .ok (r.2.1, r.2.2.1) := by decide +kernel
set_option maxRecDepth 100000 in
theorem td_X5_mergeChanges : ∀ r ∈ tb_X5_mergeChanges, decode cX5_mergeChanges r.1 = .ok (r.2.1, r.2.2.1) := by decide +kernel
set_option maxRecDepth 100000 in
theorem td_X5_mostFixed : ∀ r ∈ tb_X5_mostFixed, decode cX5_mostFixed r.1 = .ok (r.2.1, r.2.2.1) := by decide +kernel
set_option maxRecDepth 100000 in
theorem td_X5_agreedNext : ∀ r ∈ tb_X5_agreedNext, decode cX5_agreedNext r.1 = .ok (r.2.1, r.2.2.1) := by decide +kernel
set_option maxRecDepth 100000 in
theorem td_X5_nextAfter : ∀ r ∈ tb_X5_nextAfter, decode cX5_nextAfter r.1 = .ok (r.2.1, r.2.2.1) := by decide +kernel
set_option maxRecDepth 100000 in
theorem td_X5_turnTo : ∀ r ∈ tb_X5_turnTo, decode cX5_turnTo r.1 = .ok (r.2.1, r.2.2.1) := by decide +kernel
set_option maxRecDepth 100000 in
theorem td_X5_doNext : ∀ r ∈ tb_X5_doNext, decode cX5_doNext r.1 = .ok (r.2.1, r.2.2.1) := by decide +kernel
set_option maxRecDepth 100000 in
theorem td_X5_orderOf : ∀ r ∈ tb_X5_orderOf, decode cX5_orderOf r.1 = .ok (r.2.1, r.2.2.1) := by decide +kernel
set_option maxRecDepth 100000 in
theorem td_X5_reply : ∀ r ∈ tb_X5_reply, decode cX5_reply r.1 = .ok (r.2.1, r.2.2.1) := by decide +kernel
set_option maxRecDepth 100000 in
theorem td_X6_init : ∀ r ∈ tb_X6_init, decode cX6_init r.1 = .ok (r.2.1, r.2.2.1) := by decide +kernel
set_option maxRecDepth 100000 in
theorem td_X6_doOn : ∀ r ∈ tb_X6_doOn, decode cX6_doOn r.1 = .ok (r.2.1, r.2.2.1) := by decide +kernel
set_option maxRecDepth 100000 in
theorem td_X6_keep : ∀ r ∈ tb_X6_keep, decode cX6_keep r.1 = .ok (r.2.1, r.2.2.1) := by decide +kernel
set_option maxRecDepth 100000 in
theorem td_X6_agreedBy : ∀ r ∈ tb_X6_agreedBy, decode cX6_agreedBy r.1 = .ok (r.2.1, r.2.2.1) := by decide +kernel
set_option maxRecDepth 100000 in
theorem td_X6_countLike : ∀ r ∈ tb_X6_countLike, decode cX6_countLike r.1 = .ok (r.2.1, r.2.2.1) := by decide +kernel
set_option maxRecDepth 100000 in
theorem td_X6_finish : ∀ r ∈ tb_X6_finish, decode cX6_finish r.1 = .ok (r.2.1, r.2.2.1) := by decide +kernel
set_option maxRecDepth 100000 in
theorem td_X6_tell : ∀ r ∈ tb_X6_tell, decode cX6_tell r.1 = .ok (r.2.1, r.2.2.1) := by decide +kernel
set_option maxRecDepth 100000 in
theorem td_X6_countReplies : ∀ r ∈ tb_X6_countReplies, decode cX6_countReplies r.1 = .ok (r.2.1, r.2.2.1) := by decide +kernel
set_option maxRecDepth 100000 in
theorem td_X7_init : ∀ r ∈ tb_X7_init, decode cX7_init r.1 = .ok (r.2.1, r.2.2.1) := by decide +kernel
set_option maxRecDepth 100000 in
theorem td_X7_issue : ∀ r ∈ tb_X7_issue, decode cX7_issue r.1 = .ok (r.2.1, r.2.2.1) := by decide +kernel
theorem dX7_issue_21 : decode cX7_issue 21 = .ok (.dup, 1) := by decide +kernel
theorem dX7_issue_22 : decode cX7_issue 22 = .ok (.ldc 46, 2) := by decide +kernel
theorem dX7_issue_24 : decode cX7_issue 24 = .ok (.invokespecial 48, 3) := by decide +kernel
theorem dX7_issue_27 : decode cX7_issue 27 = .ok (.athrow, 1) := by decide +kernel
theorem dX7_issue_43 : decode cX7_issue 43 = .ok (.dup, 1) := by decide +kernel
theorem dX7_issue_44 : decode cX7_issue 44 = .ok (.ldc 56, 2) := by decide +kernel
theorem dX7_issue_46 : decode cX7_issue 46 = .ok (.invokespecial 58, 3) := by decide +kernel
theorem dX7_issue_49 : decode cX7_issue 49 = .ok (.athrow, 1) := by decide +kernel
theorem dX7_issue_18 : decode cX7_issue 18 = .ok (.new 44, 3) := by decide +kernel
theorem dX7_issue_40 : decode cX7_issue 40 = .ok (.new 54, 3) := by decide +kernel
set_option maxRecDepth 100000 in
theorem td_X7_retry : ∀ r ∈ tb_X7_retry, decode cX7_retry r.1 = .ok (r.2.1, r.2.2.1) := by decide +kernel
theorem dX7_retry_16 : decode cX7_retry 16 = .ok (.dup, 1) := by decide +kernel
theorem dX7_retry_17 : decode cX7_retry 17 = .ok (.ldc 72, 2) := by decide +kernel
theorem dX7_retry_19 : decode cX7_retry 19 = .ok (.invokespecial 74, 3) := by decide +kernel
theorem dX7_retry_22 : decode cX7_retry 22 = .ok (.athrow, 1) := by decide +kernel
theorem dX7_retry_13 : decode cX7_retry 13 = .ok (.new 70, 3) := by decide +kernel
set_option maxRecDepth 100000 in
theorem td_X7_deliver : ∀ r ∈ tb_X7_deliver, decode cX7_deliver r.1 = .ok (r.2.1, r.2.2.1) := by decide +kernel
set_option maxRecDepth 100000 in
theorem td_X7_flood : ∀ r ∈ tb_X7_flood, decode cX7_flood r.1 = .ok (r.2.1, r.2.2.1) := by decide +kernel
theorem dX7_flood_7 : decode cX7_flood 7 = .ok (.dup, 1) := by decide +kernel
theorem dX7_flood_8 : decode cX7_flood 8 = .ok (.ldc 82, 2) := by decide +kernel
theorem dX7_flood_10 : decode cX7_flood 10 = .ok (.invokespecial 48, 3) := by decide +kernel
theorem dX7_flood_13 : decode cX7_flood 13 = .ok (.athrow, 1) := by decide +kernel
theorem dX7_flood_4 : decode cX7_flood 4 = .ok (.new 44, 3) := by decide +kernel
set_option maxRecDepth 100000 in
theorem td_X7_lose : ∀ r ∈ tb_X7_lose, decode cX7_lose r.1 = .ok (r.2.1, r.2.2.1) := by decide +kernel
set_option maxRecDepth 100000 in
theorem td_X7_patience : ∀ r ∈ tb_X7_patience, decode cX7_patience r.1 = .ok (r.2.1, r.2.2.1) := by decide +kernel
theorem dX7_patience_10 : decode cX7_patience 10 = .ok (.dup, 1) := by decide +kernel
theorem dX7_patience_11 : decode cX7_patience 11 = .ok (.ldc 93, 2) := by decide +kernel
theorem dX7_patience_13 : decode cX7_patience 13 = .ok (.invokespecial 48, 3) := by decide +kernel
theorem dX7_patience_16 : decode cX7_patience 16 = .ok (.athrow, 1) := by decide +kernel
theorem dX7_patience_7 : decode cX7_patience 7 = .ok (.new 44, 3) := by decide +kernel
set_option maxRecDepth 100000 in
theorem td_X7_lie : ∀ r ∈ tb_X7_lie, decode cX7_lie r.1 = .ok (r.2.1, r.2.2.1) := by decide +kernel
theorem dX7_lie_29 : decode cX7_lie 29 = .ok (.dup, 1) := by decide +kernel
theorem dX7_lie_30 : decode cX7_lie 30 = .ok (.ldc 99, 2) := by decide +kernel
theorem dX7_lie_32 : decode cX7_lie 32 = .ok (.invokespecial 48, 3) := by decide +kernel
theorem dX7_lie_35 : decode cX7_lie 35 = .ok (.athrow, 1) := by decide +kernel
theorem dX7_lie_26 : decode cX7_lie 26 = .ok (.new 44, 3) := by decide +kernel
set_option maxRecDepth 100000 in
theorem td_X7_echo : ∀ r ∈ tb_X7_echo, decode cX7_echo r.1 = .ok (r.2.1, r.2.2.1) := by decide +kernel
theorem dX7_echo_31 : decode cX7_echo 31 = .ok (.dup, 1) := by decide +kernel
theorem dX7_echo_32 : decode cX7_echo 32 = .ok (.ldc 99, 2) := by decide +kernel
theorem dX7_echo_34 : decode cX7_echo 34 = .ok (.invokespecial 48, 3) := by decide +kernel
theorem dX7_echo_37 : decode cX7_echo 37 = .ok (.athrow, 1) := by decide +kernel
theorem dX7_echo_28 : decode cX7_echo 28 = .ok (.new 44, 3) := by decide +kernel
set_option maxRecDepth 100000 in
theorem td_X7_replica : ∀ r ∈ tb_X7_replica, decode cX7_replica r.1 = .ok (r.2.1, r.2.2.1) := by decide +kernel
theorem dX7_replica_78 : decode cX7_replica 78 = .ok (.dup, 1) := by decide +kernel
theorem dX7_replica_79 : decode cX7_replica 79 = .ok (.ldc 130, 2) := by decide +kernel
theorem dX7_replica_81 : decode cX7_replica 81 = .ok (.invokespecial 48, 3) := by decide +kernel
theorem dX7_replica_84 : decode cX7_replica 84 = .ok (.athrow, 1) := by decide +kernel
theorem dX7_replica_75 : decode cX7_replica 75 = .ok (.new 44, 3) := by decide +kernel
set_option maxRecDepth 100000 in
theorem td_X7_messages : ∀ r ∈ tb_X7_messages, decode cX7_messages r.1 = .ok (r.2.1, r.2.2.1) := by decide +kernel
set_option maxRecDepth 100000 in
theorem td_X7_message : ∀ r ∈ tb_X7_message, decode cX7_message r.1 = .ok (r.2.1, r.2.2.1) := by decide +kernel
theorem dX7_message_26 : decode cX7_message 26 = .ok (.dup, 1) := by decide +kernel
theorem dX7_message_27 : decode cX7_message 27 = .ok (.ldc 142, 2) := by decide +kernel
theorem dX7_message_29 : decode cX7_message 29 = .ok (.invokespecial 74, 3) := by decide +kernel
theorem dX7_message_32 : decode cX7_message 32 = .ok (.athrow, 1) := by decide +kernel
theorem dX7_message_23 : decode cX7_message 23 = .ok (.new 70, 3) := by decide +kernel
set_option maxRecDepth 100000 in
theorem td_X7_request : ∀ r ∈ tb_X7_request, decode cX7_request r.1 = .ok (r.2.1, r.2.2.1) := by decide +kernel
theorem dX7_request_25 : decode cX7_request 25 = .ok (.dup, 1) := by decide +kernel
theorem dX7_request_26 : decode cX7_request 26 = .ok (.ldc 145, 2) := by decide +kernel
theorem dX7_request_28 : decode cX7_request 28 = .ok (.invokespecial 74, 3) := by decide +kernel
theorem dX7_request_31 : decode cX7_request 31 = .ok (.athrow, 1) := by decide +kernel
theorem dX7_request_22 : decode cX7_request 22 = .ok (.new 70, 3) := by decide +kernel
set_option maxRecDepth 100000 in
theorem td_X7_view : ∀ r ∈ tb_X7_view, decode cX7_view r.1 = .ok (r.2.1, r.2.2.1) := by decide +kernel
set_option maxRecDepth 100000 in
theorem td_X7_handOver : ∀ r ∈ tb_X7_handOver, decode cX7_handOver r.1 = .ok (r.2.1, r.2.2.1) := by decide +kernel
set_option maxRecDepth 100000 in
theorem td_X7_isReplica : ∀ r ∈ tb_X7_isReplica, decode cX7_isReplica r.1 = .ok (r.2.1, r.2.2.1) := by decide +kernel
set_option maxRecDepth 100000 in
theorem td_X7_primaryOf : ∀ r ∈ tb_X7_primaryOf, decode cX7_primaryOf r.1 = .ok (r.2.1, r.2.2.1) := by decide +kernel
set_option maxRecDepth 100000 in
theorem td_X7_askFor : ∀ r ∈ tb_X7_askFor, decode cX7_askFor r.1 = .ok (r.2.1, r.2.2.1) := by decide +kernel
set_option maxRecDepth 100000 in
theorem td_X8_init : ∀ r ∈ tb_X8_init, decode cX8_init r.1 = .ok (r.2.1, r.2.2.1) := by decide +kernel
set_option maxRecDepth 100000 in
theorem td_X8_thrown : ∀ r ∈ tb_X8_thrown, decode cX8_thrown r.1 = .ok (r.2.1, r.2.2.1) := by decide +kernel
set_option maxRecDepth 100000 in
theorem td_X8_refuse : ∀ r ∈ tb_X8_refuse, decode cX8_refuse r.1 = .ok (r.2.1, r.2.2.1) := by decide +kernel
set_option maxRecDepth 100000 in
theorem td_X8_at : ∀ r ∈ tb_X8_at, decode cX8_at r.1 = .ok (r.2.1, r.2.2.1) := by decide +kernel
set_option maxRecDepth 100000 in
theorem td_X8_with : ∀ r ∈ tb_X8_with, decode cX8_with r.1 = .ok (r.2.1, r.2.2.1) := by decide +kernel
set_option maxRecDepth 100000 in
theorem td_X8_begin : ∀ r ∈ tb_X8_begin, decode cX8_begin r.1 = .ok (r.2.1, r.2.2.1) := by decide +kernel
set_option maxRecDepth 100000 in
theorem td_X8_digestOf : ∀ r ∈ tb_X8_digestOf, decode cX8_digestOf r.1 = .ok (r.2.1, r.2.2.1) := by decide +kernel
set_option maxRecDepth 100000 in
theorem td_X8_placeIn : ∀ r ∈ tb_X8_placeIn, decode cX8_placeIn r.1 = .ok (r.2.1, r.2.2.1) := by decide +kernel
set_option maxRecDepth 100000 in
theorem td_X8_work : ∀ r ∈ tb_X8_work, decode cX8_work r.1 = .ok (r.2.1, r.2.2.1) := by decide +kernel
set_option maxRecDepth 100000 in
theorem td_X8_send : ∀ r ∈ tb_X8_send, decode cX8_send r.1 = .ok (r.2.1, r.2.2.1) := by decide +kernel
set_option maxRecDepth 100000 in
theorem td_X8_sendToAll : ∀ r ∈ tb_X8_sendToAll, decode cX8_sendToAll r.1 = .ok (r.2.1, r.2.2.1) := by decide +kernel
set_option maxRecDepth 100000 in
theorem td_X8_sendRow : ∀ r ∈ tb_X8_sendRow, decode cX8_sendRow r.1 = .ok (r.2.1, r.2.2.1) := by decide +kernel
set_option maxRecDepth 100000 in
theorem td_X8_reply : ∀ r ∈ tb_X8_reply, decode cX8_reply r.1 = .ok (r.2.1, r.2.2.1) := by decide +kernel
set_option maxRecDepth 100000 in
theorem td_X8_order : ∀ r ∈ tb_X8_order, decode cX8_order r.1 = .ok (r.2.1, r.2.2.1) := by decide +kernel
set_option maxRecDepth 100000 in
theorem td_X8_isPrimary : ∀ r ∈ tb_X8_isPrimary, decode cX8_isPrimary r.1 = .ok (r.2.1, r.2.2.1) := by decide +kernel
set_option maxRecDepth 100000 in
theorem td_X8_append : ∀ r ∈ tb_X8_append, decode cX8_append r.1 = .ok (r.2.1, r.2.2.1) := by decide +kernel
set_option maxRecDepth 100000 in
theorem td_X8_takeAsk : ∀ r ∈ tb_X8_takeAsk, decode cX8_takeAsk r.1 = .ok (r.2.1, r.2.2.1) := by decide +kernel
set_option maxRecDepth 100000 in
theorem td_X8_takeOrder : ∀ r ∈ tb_X8_takeOrder, decode cX8_takeOrder r.1 = .ok (r.2.1, r.2.2.1) := by decide +kernel
set_option maxRecDepth 100000 in
theorem td_X8_takeProof : ∀ r ∈ tb_X8_takeProof, decode cX8_takeProof r.1 = .ok (r.2.1, r.2.2.1) := by decide +kernel
set_option maxRecDepth 100000 in
theorem td_X8_bits : ∀ r ∈ tb_X8_bits, decode cX8_bits r.1 = .ok (r.2.1, r.2.2.1) := by decide +kernel
set_option maxRecDepth 100000 in
theorem td_X8_takeHate : ∀ r ∈ tb_X8_takeHate, decode cX8_takeHate r.1 = .ok (r.2.1, r.2.2.1) := by decide +kernel
set_option maxRecDepth 100000 in
theorem td_X8_takeChange : ∀ r ∈ tb_X8_takeChange, decode cX8_takeChange r.1 = .ok (r.2.1, r.2.2.1) := by decide +kernel
set_option maxRecDepth 100000 in
theorem td_X8_safest : ∀ r ∈ tb_X8_safest, decode cX8_safest r.1 = .ok (r.2.1, r.2.2.1) := by decide +kernel
set_option maxRecDepth 100000 in
theorem td_X8_goesOn : ∀ r ∈ tb_X8_goesOn, decode cX8_goesOn r.1 = .ok (r.2.1, r.2.2.1) := by decide +kernel
set_option maxRecDepth 100000 in
theorem td_X8_nextOf : ∀ r ∈ tb_X8_nextOf, decode cX8_nextOf r.1 = .ok (r.2.1, r.2.2.1) := by decide +kernel
set_option maxRecDepth 100000 in
theorem td_X8_makeNew : ∀ r ∈ tb_X8_makeNew, decode cX8_makeNew r.1 = .ok (r.2.1, r.2.2.1) := by decide +kernel
set_option maxRecDepth 100000 in
theorem td_X8_turn : ∀ r ∈ tb_X8_turn, decode cX8_turn r.1 = .ok (r.2.1, r.2.2.1) := by decide +kernel
set_option maxRecDepth 100000 in
theorem td_X8_takeNew : ∀ r ∈ tb_X8_takeNew, decode cX8_takeNew r.1 = .ok (r.2.1, r.2.2.1) := by decide +kernel
set_option maxRecDepth 100000 in
theorem td_X8_take : ∀ r ∈ tb_X8_take, decode cX8_take r.1 = .ok (r.2.1, r.2.2.1) := by decide +kernel
set_option maxRecDepth 100000 in
theorem td_X8_areAlike : ∀ r ∈ tb_X8_areAlike, decode cX8_areAlike r.1 = .ok (r.2.1, r.2.2.1) := by decide +kernel
set_option maxRecDepth 100000 in
theorem td_X8_alike : ∀ r ∈ tb_X8_alike, decode cX8_alike r.1 = .ok (r.2.1, r.2.2.1) := by decide +kernel
set_option maxRecDepth 100000 in
theorem td_X8_finish : ∀ r ∈ tb_X8_finish, decode cX8_finish r.1 = .ok (r.2.1, r.2.2.1) := by decide +kernel
set_option maxRecDepth 100000 in
theorem td_X8_look : ∀ r ∈ tb_X8_look, decode cX8_look r.1 = .ok (r.2.1, r.2.2.1) := by decide +kernel
set_option maxRecDepth 100000 in
theorem td_X8_takeReply : ∀ r ∈ tb_X8_takeReply, decode cX8_takeReply r.1 = .ok (r.2.1, r.2.2.1) := by decide +kernel
set_option maxRecDepth 100000 in
theorem td_X8_takeAck : ∀ r ∈ tb_X8_takeAck, decode cX8_takeAck r.1 = .ok (r.2.1, r.2.2.1) := by decide +kernel
set_option maxRecDepth 100000 in
theorem td_X8_issue : ∀ r ∈ tb_X8_issue, decode cX8_issue r.1 = .ok (r.2.1, r.2.2.1) := by decide +kernel
set_option maxRecDepth 100000 in
theorem td_X8_isRequest : ∀ r ∈ tb_X8_isRequest, decode cX8_isRequest r.1 = .ok (r.2.1, r.2.2.1) := by decide +kernel
set_option maxRecDepth 100000 in
theorem td_X8_retry : ∀ r ∈ tb_X8_retry, decode cX8_retry r.1 = .ok (r.2.1, r.2.2.1) := by decide +kernel
set_option maxRecDepth 100000 in
theorem td_X8_isUnderWay : ∀ r ∈ tb_X8_isUnderWay, decode cX8_isUnderWay r.1 = .ok (r.2.1, r.2.2.1) := by decide +kernel
set_option maxRecDepth 100000 in
theorem td_X8_deliver : ∀ r ∈ tb_X8_deliver, decode cX8_deliver r.1 = .ok (r.2.1, r.2.2.1) := by decide +kernel
set_option maxRecDepth 100000 in
theorem td_X8_flood : ∀ r ∈ tb_X8_flood, decode cX8_flood r.1 = .ok (r.2.1, r.2.2.1) := by decide +kernel
set_option maxRecDepth 100000 in
theorem td_X8_lose : ∀ r ∈ tb_X8_lose, decode cX8_lose r.1 = .ok (r.2.1, r.2.2.1) := by decide +kernel
set_option maxRecDepth 100000 in
theorem td_X8_isReplica : ∀ r ∈ tb_X8_isReplica, decode cX8_isReplica r.1 = .ok (r.2.1, r.2.2.1) := by decide +kernel
set_option maxRecDepth 100000 in
theorem td_X8_refuseThis : ∀ r ∈ tb_X8_refuseThis, decode cX8_refuseThis r.1 = .ok (r.2.1, r.2.2.1) := by decide +kernel
set_option maxRecDepth 100000 in
theorem td_X8_patience : ∀ r ∈ tb_X8_patience, decode cX8_patience r.1 = .ok (r.2.1, r.2.2.1) := by decide +kernel
set_option maxRecDepth 100000 in
theorem td_X8_lie : ∀ r ∈ tb_X8_lie, decode cX8_lie r.1 = .ok (r.2.1, r.2.2.1) := by decide +kernel
set_option maxRecDepth 100000 in
theorem td_X8_echo : ∀ r ∈ tb_X8_echo, decode cX8_echo r.1 = .ok (r.2.1, r.2.2.1) := by decide +kernel
set_option maxRecDepth 100000 in
theorem td_X8_replica : ∀ r ∈ tb_X8_replica, decode cX8_replica r.1 = .ok (r.2.1, r.2.2.1) := by decide +kernel
set_option maxRecDepth 100000 in
theorem td_X8_messages : ∀ r ∈ tb_X8_messages, decode cX8_messages r.1 = .ok (r.2.1, r.2.2.1) := by decide +kernel
set_option maxRecDepth 100000 in
theorem td_X8_message : ∀ r ∈ tb_X8_message, decode cX8_message r.1 = .ok (r.2.1, r.2.2.1) := by decide +kernel
set_option maxRecDepth 100000 in
theorem td_X8_replies : ∀ r ∈ tb_X8_replies, decode cX8_replies r.1 = .ok (r.2.1, r.2.2.1) := by decide +kernel
set_option maxRecDepth 100000 in
theorem td_X8_request : ∀ r ∈ tb_X8_request, decode cX8_request r.1 = .ok (r.2.1, r.2.2.1) := by decide +kernel
set_option maxRecDepth 100000 in
theorem td_X8_view : ∀ r ∈ tb_X8_view, decode cX8_view r.1 = .ok (r.2.1, r.2.2.1) := by decide +kernel
set_option maxRecDepth 100000 in
theorem td_J6_bitCount_0f7a4 : ∀ r ∈ tb_J6_bitCount_0f7a4, decode cJ6_bitCount_0f7a4 r.1 = .ok (r.2.1, r.2.2.1) := by decide +kernel
set_option maxRecDepth 100000 in
theorem td_L_cell : ∀ r ∈ tb_L_cell, decode cL_cell r.1 = .ok (r.2.1, r.2.2.1) := by decide +kernel
set_option maxRecDepth 100000 in
theorem td_L_issue : ∀ r ∈ tb_L_issue, decode cL_issue r.1 = .ok (r.2.1, r.2.2.1) := by decide +kernel
set_option maxRecDepth 100000 in
theorem td_L_retry : ∀ r ∈ tb_L_retry, decode cL_retry r.1 = .ok (r.2.1, r.2.2.1) := by decide +kernel
set_option maxRecDepth 100000 in
theorem td_L_flood : ∀ r ∈ tb_L_flood, decode cL_flood r.1 = .ok (r.2.1, r.2.2.1) := by decide +kernel
set_option maxRecDepth 100000 in
theorem td_L_patience : ∀ r ∈ tb_L_patience, decode cL_patience r.1 = .ok (r.2.1, r.2.2.1) := by decide +kernel
set_option maxRecDepth 100000 in
theorem td_L_lie : ∀ r ∈ tb_L_lie, decode cL_lie r.1 = .ok (r.2.1, r.2.2.1) := by decide +kernel
set_option maxRecDepth 100000 in
theorem td_L_echo : ∀ r ∈ tb_L_echo, decode cL_echo r.1 = .ok (r.2.1, r.2.2.1) := by decide +kernel
set_option maxRecDepth 100000 in
theorem td_L_replica : ∀ r ∈ tb_L_replica, decode cL_replica r.1 = .ok (r.2.1, r.2.2.1) := by decide +kernel
set_option maxRecDepth 100000 in
theorem td_L_message : ∀ r ∈ tb_L_message, decode cL_message r.1 = .ok (r.2.1, r.2.2.1) := by decide +kernel
set_option maxRecDepth 100000 in
theorem td_L_request : ∀ r ∈ tb_L_request, decode cL_request r.1 = .ok (r.2.1, r.2.2.1) := by decide +kernel
set_option maxRecDepth 100000 in
theorem td_L_law : ∀ r ∈ tb_L_law, decode cL_law r.1 = .ok (r.2.1, r.2.2.1) := by decide +kernel
