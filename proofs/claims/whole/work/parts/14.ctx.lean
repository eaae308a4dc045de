/-! THE TABLES, method by method -/
def pm_G : List Cond := lw_tbl.filter goodWord
def pm_isN (w : Cond) : Bool := match w with
  | .fieldLinkNest _ _ _ _ _ _ => true
  | .methodLinkNest _ _ _ _ => true
  | .castable _ _ => true
  | .declares _ => true
  | _ => false
def pm_NW : List Cond := lw_tbl.filter pm_isN
theorem pm_needN_isN (own : String) (ins : Instr) (res : List Nat) : ∀ w ∈ pm_needN own ins res ++ pm_needN2 own ins res, pm_isN w = true := by
  intro w hw
  rcases List.mem_append.mp hw with h | h
  · unfold pm_needN at h
    split at h
    · split at h
      · split at h
        · rw [List.mem_singleton.mp h]; rfl
        · cases h
      · cases h
    · split at h
      · split at h
        · rw [List.mem_singleton.mp h]; rfl
        · cases h
      · cases h
    · cases h
  · unfold pm_needN2 at h
    split at h
    · rw [List.mem_singleton.mp h]; rfl
    · rw [List.mem_singleton.mp h]; rfl
    · cases h
/-- what holds of each row of a method's table -/
def pm_RowOk (own : String) (ini : Bool) (bs : ByteArray) (r : pm_R) : Prop := decode bs r.1 = .ok (r.2.1, r.2.2.1) ∧ (∀ w ∈ pm_all own r, w ∈ pm_G) ∧ (∀ w ∈ pm_allN own r, w ∈ pm_NW) ∧ pm_chk own ini r.2.1 r.2.2.1 r.2.2.2 = true ∧ pm_ckj r = true
theorem pm_mkrow {own : String} {ini : Bool} {bs : ByteArray} {tb : List pm_R} {ps qs : List Nat} (h0 : ∀ r ∈ tb, decode bs r.1 = .ok (r.2.1, r.2.2.1)) (h1 : tb.flatMap (pm_all own) = ps.filterMap (fun (i : Nat) => lw_tbl[i]?) ∧ (tb.flatMap (pm_all own)).all goodWord = true) (h2 : tb.flatMap (pm_allN own) = qs.filterMap (fun (i : Nat) => lw_tbl[i]?) ∧ tb.all (fun r => pm_chk own ini r.2.1 r.2.2.1 r.2.2.2 && pm_ckj r) = true) : ∀ r ∈ tb, pm_RowOk own ini bs r := by
  intro r hr
  have a2 := List.all_eq_true.mp h2.2 r hr
  simp only [Bool.and_eq_true] at a2
  refine ⟨h0 r hr, fun w hw => ?_, fun w hw => ?_, a2.1, a2.2⟩
  · have m : w ∈ tb.flatMap (pm_all own) := List.mem_flatMap.mpr ⟨r, hr, hw⟩
    have g := List.all_eq_true.mp h1.2 w m
    rw [h1.1] at m
    obtain ⟨i, -, hi⟩ := List.mem_filterMap.mp m
    exact List.mem_filter.mpr ⟨List.mem_of_getElem? hi, g⟩
  · have m : w ∈ tb.flatMap (pm_allN own) := List.mem_flatMap.mpr ⟨r, hr, hw⟩
    have g := pm_needN_isN own r.2.1 r.2.2.2 w hw
    rw [h2.1] at m
    obtain ⟨i, -, hi⟩ := List.mem_filterMap.mp m
    exact List.mem_filter.mpr ⟨List.mem_of_getElem? hi, g⟩
theorem tr_X0_init : ∀ r ∈ tb_X0_init, pm_RowOk RX0 true cX0_init r := pm_mkrow td_X0_init tn_X0_init tm_X0_init
theorem tr_X0_find : ∀ r ∈ tb_X0_find, pm_RowOk RX0 false cX0_find r := pm_mkrow td_X0_find tn_X0_find tm_X0_find
theorem tr_X0_begin : ∀ r ∈ tb_X0_begin, pm_RowOk RX0 false cX0_begin r := pm_mkrow td_X0_begin tn_X0_begin tm_X0_begin
theorem tr_X0_tryAgain : ∀ r ∈ tb_X0_tryAgain, pm_RowOk RX0 false cX0_tryAgain r := pm_mkrow td_X0_tryAgain tn_X0_tryAgain tm_X0_tryAgain
theorem tr_X0_take : ∀ r ∈ tb_X0_take, pm_RowOk RX0 false cX0_take r := pm_mkrow td_X0_take tn_X0_take tm_X0_take
theorem tr_X0_lookAt : ∀ r ∈ tb_X0_lookAt, pm_RowOk RX0 false cX0_lookAt r := pm_mkrow td_X0_lookAt tn_X0_lookAt tm_X0_lookAt
theorem tr_X0_countAcks : ∀ r ∈ tb_X0_countAcks, pm_RowOk RX0 false cX0_countAcks r := pm_mkrow td_X0_countAcks tn_X0_countAcks tm_X0_countAcks
theorem tr_X1_init : ∀ r ∈ tb_X1_init, pm_RowOk RX1 true cX1_init r := pm_mkrow td_X1_init tn_X1_init tm_X1_init
theorem tr_X1_add : ∀ r ∈ tb_X1_add, pm_RowOk RX1 false cX1_add r := pm_mkrow td_X1_add tn_X1_add tm_X1_add
theorem tr_X1_at : ∀ r ∈ tb_X1_at, pm_RowOk RX1 false cX1_at r := pm_mkrow td_X1_at tn_X1_at tm_X1_at
theorem tr_X1_placeOf : ∀ r ∈ tb_X1_placeOf, pm_RowOk RX1 false cX1_placeOf r := pm_mkrow td_X1_placeOf tn_X1_placeOf tm_X1_placeOf
theorem tr_X1_digest : ∀ r ∈ tb_X1_digest, pm_RowOk RX1 false cX1_digest r := pm_mkrow td_X1_digest tn_X1_digest tm_X1_digest
theorem tr_X1_beginsWith : ∀ r ∈ tb_X1_beginsWith, pm_RowOk RX1 false cX1_beginsWith r := pm_mkrow td_X1_beginsWith tn_X1_beginsWith tm_X1_beginsWith
theorem tr_X1_copy : ∀ r ∈ tb_X1_copy, pm_RowOk RX1 false cX1_copy r := pm_mkrow td_X1_copy tn_X1_copy tm_X1_copy
theorem tr_X1_digestWith : ∀ r ∈ tb_X1_digestWith, pm_RowOk RX1 false cX1_digestWith r := pm_mkrow td_X1_digestWith tn_X1_digestWith tm_X1_digestWith
theorem tr_X2_init : ∀ r ∈ tb_X2_init, pm_RowOk RX2 true cX2_init r := pm_mkrow td_X2_init tn_X2_init tm_X2_init
theorem tr_X2_samePoint : ∀ r ∈ tb_X2_samePoint, pm_RowOk RX2 false cX2_samePoint r := pm_mkrow td_X2_samePoint tn_X2_samePoint tm_X2_samePoint
theorem tr_X2_sameReply : ∀ r ∈ tb_X2_sameReply, pm_RowOk RX2 false cX2_sameReply r := pm_mkrow td_X2_sameReply tn_X2_sameReply tm_X2_sameReply
theorem tr_X3_init : ∀ r ∈ tb_X3_init, pm_RowOk RX3 true cX3_init r := pm_mkrow td_X3_init tn_X3_init tm_X3_init
theorem tr_X3_tell : ∀ r ∈ tb_X3_tell, pm_RowOk RX3 false cX3_tell r := pm_mkrow td_X3_tell tn_X3_tell tm_X3_tell
theorem tr_X4_init : ∀ r ∈ tb_X4_init, pm_RowOk RX4 true cX4_init r := pm_mkrow td_X4_init tn_X4_init tm_X4_init
theorem tr_X4_send : ∀ r ∈ tb_X4_send, pm_RowOk RX4 false cX4_send r := pm_mkrow td_X4_send tn_X4_send tm_X4_send
theorem tr_X4_sendToAll : ∀ r ∈ tb_X4_sendToAll, pm_RowOk RX4 false cX4_sendToAll r := pm_mkrow td_X4_sendToAll tn_X4_sendToAll tm_X4_sendToAll
theorem tr_X4_find : ∀ r ∈ tb_X4_find, pm_RowOk RX4 false cX4_find r := pm_mkrow td_X4_find tn_X4_find tm_X4_find
theorem tr_X5_init : ∀ r ∈ tb_X5_init, pm_RowOk RX5 true cX5_init r := pm_mkrow td_X5_init tn_X5_init tm_X5_init
theorem tr_X5_tell : ∀ r ∈ tb_X5_tell, pm_RowOk RX5 false cX5_tell r := pm_mkrow td_X5_tell tn_X5_tell tm_X5_tell
theorem tr_X5_fittingOrder : ∀ r ∈ tb_X5_fittingOrder, pm_RowOk RX5 false cX5_fittingOrder r := pm_mkrow td_X5_fittingOrder tn_X5_fittingOrder tm_X5_fittingOrder
theorem tr_X5_take : ∀ r ∈ tb_X5_take, pm_RowOk RX5 false cX5_take r := pm_mkrow td_X5_take tn_X5_take tm_X5_take
theorem tr_X5_endPatience : ∀ r ∈ tb_X5_endPatience, pm_RowOk RX5 false cX5_endPatience r := pm_mkrow td_X5_endPatience tn_X5_endPatience tm_X5_endPatience
theorem tr_X5_takeAsk : ∀ r ∈ tb_X5_takeAsk, pm_RowOk RX5 false cX5_takeAsk r := pm_mkrow td_X5_takeAsk tn_X5_takeAsk tm_X5_takeAsk
theorem tr_X5_takeOrder : ∀ r ∈ tb_X5_takeOrder, pm_RowOk RX5 false cX5_takeOrder r := pm_mkrow td_X5_takeOrder tn_X5_takeOrder tm_X5_takeOrder
theorem tr_X5_takeProof : ∀ r ∈ tb_X5_takeProof, pm_RowOk RX5 false cX5_takeProof r := pm_mkrow td_X5_takeProof tn_X5_takeProof tm_X5_takeProof
theorem tr_X5_takeHate : ∀ r ∈ tb_X5_takeHate, pm_RowOk RX5 false cX5_takeHate r := pm_mkrow td_X5_takeHate tn_X5_takeHate tm_X5_takeHate
theorem tr_X5_changeView : ∀ r ∈ tb_X5_changeView, pm_RowOk RX5 false cX5_changeView r := pm_mkrow td_X5_changeView tn_X5_changeView tm_X5_changeView
theorem tr_X5_keepChange : ∀ r ∈ tb_X5_keepChange, pm_RowOk RX5 false cX5_keepChange r := pm_mkrow td_X5_keepChange tn_X5_keepChange tm_X5_keepChange
theorem tr_X5_mayTurn : ∀ r ∈ tb_X5_mayTurn, pm_RowOk RX5 false cX5_mayTurn r := pm_mkrow td_X5_mayTurn tn_X5_mayTurn tm_X5_mayTurn
theorem tr_X5_countChanges : ∀ r ∈ tb_X5_countChanges, pm_RowOk RX5 false cX5_countChanges r := pm_mkrow td_X5_countChanges tn_X5_countChanges tm_X5_countChanges
theorem tr_X5_changedHistory : ∀ r ∈ tb_X5_changedHistory, pm_RowOk RX5 false cX5_changedHistory r := pm_mkrow td_X5_changedHistory tn_X5_changedHistory tm_X5_changedHistory
theorem tr_X5_mergeChanges : ∀ r ∈ tb_X5_mergeChanges, pm_RowOk RX5 false cX5_mergeChanges r := pm_mkrow td_X5_mergeChanges tn_X5_mergeChanges tm_X5_mergeChanges
theorem tr_X5_mostFixed : ∀ r ∈ tb_X5_mostFixed, pm_RowOk RX5 false cX5_mostFixed r := pm_mkrow td_X5_mostFixed tn_X5_mostFixed tm_X5_mostFixed
theorem tr_X5_agreedNext : ∀ r ∈ tb_X5_agreedNext, pm_RowOk RX5 false cX5_agreedNext r := pm_mkrow td_X5_agreedNext tn_X5_agreedNext tm_X5_agreedNext
theorem tr_X5_nextAfter : ∀ r ∈ tb_X5_nextAfter, pm_RowOk RX5 false cX5_nextAfter r := pm_mkrow td_X5_nextAfter tn_X5_nextAfter tm_X5_nextAfter
theorem tr_X5_turnTo : ∀ r ∈ tb_X5_turnTo, pm_RowOk RX5 false cX5_turnTo r := pm_mkrow td_X5_turnTo tn_X5_turnTo tm_X5_turnTo
theorem tr_X5_doNext : ∀ r ∈ tb_X5_doNext, pm_RowOk RX5 false cX5_doNext r := pm_mkrow td_X5_doNext tn_X5_doNext tm_X5_doNext
theorem tr_X5_orderOf : ∀ r ∈ tb_X5_orderOf, pm_RowOk RX5 false cX5_orderOf r := pm_mkrow td_X5_orderOf tn_X5_orderOf tm_X5_orderOf
theorem tr_X5_reply : ∀ r ∈ tb_X5_reply, pm_RowOk RX5 false cX5_reply r := pm_mkrow td_X5_reply tn_X5_reply tm_X5_reply
theorem tr_X6_init : ∀ r ∈ tb_X6_init, pm_RowOk RX6 true cX6_init r := pm_mkrow td_X6_init tn_X6_init tm_X6_init
theorem tr_X6_doOn : ∀ r ∈ tb_X6_doOn, pm_RowOk RX6 false cX6_doOn r := pm_mkrow td_X6_doOn tn_X6_doOn tm_X6_doOn
theorem tr_X6_keep : ∀ r ∈ tb_X6_keep, pm_RowOk RX6 false cX6_keep r := pm_mkrow td_X6_keep tn_X6_keep tm_X6_keep
theorem tr_X6_agreedBy : ∀ r ∈ tb_X6_agreedBy, pm_RowOk RX6 false cX6_agreedBy r := pm_mkrow td_X6_agreedBy tn_X6_agreedBy tm_X6_agreedBy
theorem tr_X6_countLike : ∀ r ∈ tb_X6_countLike, pm_RowOk RX6 false cX6_countLike r := pm_mkrow td_X6_countLike tn_X6_countLike tm_X6_countLike
theorem tr_X6_finish : ∀ r ∈ tb_X6_finish, pm_RowOk RX6 false cX6_finish r := pm_mkrow td_X6_finish tn_X6_finish tm_X6_finish
theorem tr_X6_tell : ∀ r ∈ tb_X6_tell, pm_RowOk RX6 false cX6_tell r := pm_mkrow td_X6_tell tn_X6_tell tm_X6_tell
theorem tr_X6_countReplies : ∀ r ∈ tb_X6_countReplies, pm_RowOk RX6 false cX6_countReplies r := pm_mkrow td_X6_countReplies tn_X6_countReplies tm_X6_countReplies
theorem tr_X7_init : ∀ r ∈ tb_X7_init, pm_RowOk RX7 true cX7_init r := pm_mkrow td_X7_init tn_X7_init tm_X7_init
theorem tr_X7_issue : ∀ r ∈ tb_X7_issue, pm_RowOk RX7 false cX7_issue r := pm_mkrow td_X7_issue tn_X7_issue tm_X7_issue
theorem tr_X7_retry : ∀ r ∈ tb_X7_retry, pm_RowOk RX7 false cX7_retry r := pm_mkrow td_X7_retry tn_X7_retry tm_X7_retry
theorem tr_X7_deliver : ∀ r ∈ tb_X7_deliver, pm_RowOk RX7 false cX7_deliver r := pm_mkrow td_X7_deliver tn_X7_deliver tm_X7_deliver
theorem tr_X7_flood : ∀ r ∈ tb_X7_flood, pm_RowOk RX7 false cX7_flood r := pm_mkrow td_X7_flood tn_X7_flood tm_X7_flood
theorem tr_X7_lose : ∀ r ∈ tb_X7_lose, pm_RowOk RX7 false cX7_lose r := pm_mkrow td_X7_lose tn_X7_lose tm_X7_lose
theorem tr_X7_patience : ∀ r ∈ tb_X7_patience, pm_RowOk RX7 false cX7_patience r := pm_mkrow td_X7_patience tn_X7_patience tm_X7_patience
theorem tr_X7_lie : ∀ r ∈ tb_X7_lie, pm_RowOk RX7 false cX7_lie r := pm_mkrow td_X7_lie tn_X7_lie tm_X7_lie
theorem tr_X7_echo : ∀ r ∈ tb_X7_echo, pm_RowOk RX7 false cX7_echo r := pm_mkrow td_X7_echo tn_X7_echo tm_X7_echo
theorem tr_X7_replica : ∀ r ∈ tb_X7_replica, pm_RowOk RX7 false cX7_replica r := pm_mkrow td_X7_replica tn_X7_replica tm_X7_replica
theorem tr_X7_messages : ∀ r ∈ tb_X7_messages, pm_RowOk RX7 false cX7_messages r := pm_mkrow td_X7_messages tn_X7_messages tm_X7_messages
theorem tr_X7_message : ∀ r ∈ tb_X7_message, pm_RowOk RX7 false cX7_message r := pm_mkrow td_X7_message tn_X7_message tm_X7_message
theorem tr_X7_request : ∀ r ∈ tb_X7_request, pm_RowOk RX7 false cX7_request r := pm_mkrow td_X7_request tn_X7_request tm_X7_request
theorem tr_X7_view : ∀ r ∈ tb_X7_view, pm_RowOk RX7 false cX7_view r := pm_mkrow td_X7_view tn_X7_view tm_X7_view
theorem tr_X7_handOver : ∀ r ∈ tb_X7_handOver, pm_RowOk RX7 false cX7_handOver r := pm_mkrow td_X7_handOver tn_X7_handOver tm_X7_handOver
theorem tr_X7_isReplica : ∀ r ∈ tb_X7_isReplica, pm_RowOk RX7 false cX7_isReplica r := pm_mkrow td_X7_isReplica tn_X7_isReplica tm_X7_isReplica
theorem tr_X7_primaryOf : ∀ r ∈ tb_X7_primaryOf, pm_RowOk RX7 false cX7_primaryOf r := pm_mkrow td_X7_primaryOf tn_X7_primaryOf tm_X7_primaryOf
theorem tr_X7_askFor : ∀ r ∈ tb_X7_askFor, pm_RowOk RX7 false cX7_askFor r := pm_mkrow td_X7_askFor tn_X7_askFor tm_X7_askFor
theorem tr_X8_init : ∀ r ∈ tb_X8_init, pm_RowOk RX8 true cX8_init r := pm_mkrow td_X8_init tn_X8_init tm_X8_init
theorem tr_X8_thrown : ∀ r ∈ tb_X8_thrown, pm_RowOk RX8 false cX8_thrown r := pm_mkrow td_X8_thrown tn_X8_thrown tm_X8_thrown
theorem tr_X8_refuse : ∀ r ∈ tb_X8_refuse, pm_RowOk RX8 false cX8_refuse r := pm_mkrow td_X8_refuse tn_X8_refuse tm_X8_refuse
theorem tr_X8_at : ∀ r ∈ tb_X8_at, pm_RowOk RX8 false cX8_at r := pm_mkrow td_X8_at tn_X8_at tm_X8_at
theorem tr_X8_with : ∀ r ∈ tb_X8_with, pm_RowOk RX8 false cX8_with r := pm_mkrow td_X8_with tn_X8_with tm_X8_with
theorem tr_X8_begin : ∀ r ∈ tb_X8_begin, pm_RowOk RX8 false cX8_begin r := pm_mkrow td_X8_begin tn_X8_begin tm_X8_begin
theorem tr_X8_digestOf : ∀ r ∈ tb_X8_digestOf, pm_RowOk RX8 false cX8_digestOf r := pm_mkrow td_X8_digestOf tn_X8_digestOf tm_X8_digestOf
theorem tr_X8_placeIn : ∀ r ∈ tb_X8_placeIn, pm_RowOk RX8 false cX8_placeIn r := pm_mkrow td_X8_placeIn tn_X8_placeIn tm_X8_placeIn
theorem tr_X8_work : ∀ r ∈ tb_X8_work, pm_RowOk RX8 false cX8_work r := pm_mkrow td_X8_work tn_X8_work tm_X8_work
theorem tr_X8_send : ∀ r ∈ tb_X8_send, pm_RowOk RX8 false cX8_send r := pm_mkrow td_X8_send tn_X8_send tm_X8_send
theorem tr_X8_sendToAll : ∀ r ∈ tb_X8_sendToAll, pm_RowOk RX8 false cX8_sendToAll r := pm_mkrow td_X8_sendToAll tn_X8_sendToAll tm_X8_sendToAll
theorem tr_X8_sendRow : ∀ r ∈ tb_X8_sendRow, pm_RowOk RX8 false cX8_sendRow r := pm_mkrow td_X8_sendRow tn_X8_sendRow tm_X8_sendRow
theorem tr_X8_reply : ∀ r ∈ tb_X8_reply, pm_RowOk RX8 false cX8_reply r := pm_mkrow td_X8_reply tn_X8_reply tm_X8_reply
theorem tr_X8_order : ∀ r ∈ tb_X8_order, pm_RowOk RX8 false cX8_order r := pm_mkrow td_X8_order tn_X8_order tm_X8_order
theorem tr_X8_isPrimary : ∀ r ∈ tb_X8_isPrimary, pm_RowOk RX8 false cX8_isPrimary r := pm_mkrow td_X8_isPrimary tn_X8_isPrimary tm_X8_isPrimary
theorem tr_X8_append : ∀ r ∈ tb_X8_append, pm_RowOk RX8 false cX8_append r := pm_mkrow td_X8_append tn_X8_append tm_X8_append
theorem tr_X8_takeAsk : ∀ r ∈ tb_X8_takeAsk, pm_RowOk RX8 false cX8_takeAsk r := pm_mkrow td_X8_takeAsk tn_X8_takeAsk tm_X8_takeAsk
theorem tr_X8_takeOrder : ∀ r ∈ tb_X8_takeOrder, pm_RowOk RX8 false cX8_takeOrder r := pm_mkrow td_X8_takeOrder tn_X8_takeOrder tm_X8_takeOrder
theorem tr_X8_takeProof : ∀ r ∈ tb_X8_takeProof, pm_RowOk RX8 false cX8_takeProof r := pm_mkrow td_X8_takeProof tn_X8_takeProof tm_X8_takeProof
theorem tr_X8_bits : ∀ r ∈ tb_X8_bits, pm_RowOk RX8 false cX8_bits r := pm_mkrow td_X8_bits tn_X8_bits tm_X8_bits
theorem tr_X8_takeHate : ∀ r ∈ tb_X8_takeHate, pm_RowOk RX8 false cX8_takeHate r := pm_mkrow td_X8_takeHate tn_X8_takeHate tm_X8_takeHate
theorem tr_X8_takeChange : ∀ r ∈ tb_X8_takeChange, pm_RowOk RX8 false cX8_takeChange r := pm_mkrow td_X8_takeChange tn_X8_takeChange tm_X8_takeChange
theorem tr_X8_safest : ∀ r ∈ tb_X8_safest, pm_RowOk RX8 false cX8_safest r := pm_mkrow td_X8_safest tn_X8_safest tm_X8_safest
theorem tr_X8_goesOn : ∀ r ∈ tb_X8_goesOn, pm_RowOk RX8 false cX8_goesOn r := pm_mkrow td_X8_goesOn tn_X8_goesOn tm_X8_goesOn
theorem tr_X8_nextOf : ∀ r ∈ tb_X8_nextOf, pm_RowOk RX8 false cX8_nextOf r := pm_mkrow td_X8_nextOf tn_X8_nextOf tm_X8_nextOf
theorem tr_X8_makeNew : ∀ r ∈ tb_X8_makeNew, pm_RowOk RX8 false cX8_makeNew r := pm_mkrow td_X8_makeNew tn_X8_makeNew tm_X8_makeNew
theorem tr_X8_turn : ∀ r ∈ tb_X8_turn, pm_RowOk RX8 false cX8_turn r := pm_mkrow td_X8_turn tn_X8_turn tm_X8_turn
theorem tr_X8_takeNew : ∀ r ∈ tb_X8_takeNew, pm_RowOk RX8 false cX8_takeNew r := pm_mkrow td_X8_takeNew tn_X8_takeNew tm_X8_takeNew
theorem tr_X8_take : ∀ r ∈ tb_X8_take, pm_RowOk RX8 false cX8_take r := pm_mkrow td_X8_take tn_X8_take tm_X8_take
theorem tr_X8_areAlike : ∀ r ∈ tb_X8_areAlike, pm_RowOk RX8 false cX8_areAlike r := pm_mkrow td_X8_areAlike tn_X8_areAlike tm_X8_areAlike
theorem tr_X8_alike : ∀ r ∈ tb_X8_alike, pm_RowOk RX8 false cX8_alike r := pm_mkrow td_X8_alike tn_X8_alike tm_X8_alike
theorem tr_X8_finish : ∀ r ∈ tb_X8_finish, pm_RowOk RX8 false cX8_finish r := pm_mkrow td_X8_finish tn_X8_finish tm_X8_finish
theorem tr_X8_look : ∀ r ∈ tb_X8_look, pm_RowOk RX8 false cX8_look r := pm_mkrow td_X8_look tn_X8_look tm_X8_look
theorem tr_X8_takeReply : ∀ r ∈ tb_X8_takeReply, pm_RowOk RX8 false cX8_takeReply r := pm_mkrow td_X8_takeReply tn_X8_takeReply tm_X8_takeReply
theorem tr_X8_takeAck : ∀ r ∈ tb_X8_takeAck, pm_RowOk RX8 false cX8_takeAck r := pm_mkrow td_X8_takeAck tn_X8_takeAck tm_X8_takeAck
theorem tr_X8_issue : ∀ r ∈ tb_X8_issue, pm_RowOk RX8 false cX8_issue r := pm_mkrow td_X8_issue tn_X8_issue tm_X8_issue
theorem tr_X8_isRequest : ∀ r ∈ tb_X8_isRequest, pm_RowOk RX8 false cX8_isRequest r := pm_mkrow td_X8_isRequest tn_X8_isRequest tm_X8_isRequest
theorem tr_X8_retry : ∀ r ∈ tb_X8_retry, pm_RowOk RX8 false cX8_retry r := pm_mkrow td_X8_retry tn_X8_retry tm_X8_retry
theorem tr_X8_isUnderWay : ∀ r ∈ tb_X8_isUnderWay, pm_RowOk RX8 false cX8_isUnderWay r := pm_mkrow td_X8_isUnderWay tn_X8_isUnderWay tm_X8_isUnderWay
theorem tr_X8_deliver : ∀ r ∈ tb_X8_deliver, pm_RowOk RX8 false cX8_deliver r := pm_mkrow td_X8_deliver tn_X8_deliver tm_X8_deliver
theorem tr_X8_flood : ∀ r ∈ tb_X8_flood, pm_RowOk RX8 false cX8_flood r := pm_mkrow td_X8_flood tn_X8_flood tm_X8_flood
theorem tr_X8_lose : ∀ r ∈ tb_X8_lose, pm_RowOk RX8 false cX8_lose r := pm_mkrow td_X8_lose tn_X8_lose tm_X8_lose
theorem tr_X8_isReplica : ∀ r ∈ tb_X8_isReplica, pm_RowOk RX8 false cX8_isReplica r := pm_mkrow td_X8_isReplica tn_X8_isReplica tm_X8_isReplica
theorem tr_X8_refuseThis : ∀ r ∈ tb_X8_refuseThis, pm_RowOk RX8 false cX8_refuseThis r := pm_mkrow td_X8_refuseThis tn_X8_refuseThis tm_X8_refuseThis
theorem tr_X8_patience : ∀ r ∈ tb_X8_patience, pm_RowOk RX8 false cX8_patience r := pm_mkrow td_X8_patience tn_X8_patience tm_X8_patience
theorem tr_X8_lie : ∀ r ∈ tb_X8_lie, pm_RowOk RX8 false cX8_lie r := pm_mkrow td_X8_lie tn_X8_lie tm_X8_lie
theorem tr_X8_echo : ∀ r ∈ tb_X8_echo, pm_RowOk RX8 false cX8_echo r := pm_mkrow td_X8_echo tn_X8_echo tm_X8_echo
theorem tr_X8_replica : ∀ r ∈ tb_X8_replica, pm_RowOk RX8 false cX8_replica r := pm_mkrow td_X8_replica tn_X8_replica tm_X8_replica
theorem tr_X8_messages : ∀ r ∈ tb_X8_messages, pm_RowOk RX8 false cX8_messages r := pm_mkrow td_X8_messages tn_X8_messages tm_X8_messages
theorem tr_X8_message : ∀ r ∈ tb_X8_message, pm_RowOk RX8 false cX8_message r := pm_mkrow td_X8_message tn_X8_message tm_X8_message
theorem tr_X8_replies : ∀ r ∈ tb_X8_replies, pm_RowOk RX8 false cX8_replies r := pm_mkrow td_X8_replies tn_X8_replies tm_X8_replies
theorem tr_X8_request : ∀ r ∈ tb_X8_request, pm_RowOk RX8 false cX8_request r := pm_mkrow td_X8_request tn_X8_request tm_X8_request
theorem tr_X8_view : ∀ r ∈ tb_X8_view, pm_RowOk RX8 false cX8_view r := pm_mkrow td_X8_view tn_X8_view tm_X8_view
theorem tr_J6_bitCount_0f7a4 : ∀ r ∈ tb_J6_bitCount_0f7a4, pm_RowOk RJ6 false cJ6_bitCount_0f7a4 r := pm_mkrow td_J6_bitCount_0f7a4 tn_J6_bitCount_0f7a4 tm_J6_bitCount_0f7a4
theorem tr_L_cell : ∀ r ∈ tb_L_cell, pm_RowOk RL false cL_cell r := pm_mkrow td_L_cell tn_L_cell tm_L_cell
theorem tr_L_issue : ∀ r ∈ tb_L_issue, pm_RowOk RL false cL_issue r := pm_mkrow td_L_issue tn_L_issue tm_L_issue
theorem tr_L_retry : ∀ r ∈ tb_L_retry, pm_RowOk RL false cL_retry r := pm_mkrow td_L_retry tn_L_retry tm_L_retry
theorem tr_L_flood : ∀ r ∈ tb_L_flood, pm_RowOk RL false cL_flood r := pm_mkrow td_L_flood tn_L_flood tm_L_flood
theorem tr_L_patience : ∀ r ∈ tb_L_patience, pm_RowOk RL false cL_patience r := pm_mkrow td_L_patience tn_L_patience tm_L_patience
theorem tr_L_lie : ∀ r ∈ tb_L_lie, pm_RowOk RL false cL_lie r := pm_mkrow td_L_lie tn_L_lie tm_L_lie
theorem tr_L_echo : ∀ r ∈ tb_L_echo, pm_RowOk RL false cL_echo r := pm_mkrow td_L_echo tn_L_echo tm_L_echo
theorem tr_L_replica : ∀ r ∈ tb_L_replica, pm_RowOk RL false cL_replica r := pm_mkrow td_L_replica tn_L_replica tm_L_replica
theorem tr_L_message : ∀ r ∈ tb_L_message, pm_RowOk RL false cL_message r := pm_mkrow td_L_message tn_L_message tm_L_message
theorem tr_L_request : ∀ r ∈ tb_L_request, pm_RowOk RL false cL_request r := pm_mkrow td_L_request tn_L_request tm_L_request
theorem tr_L_law : ∀ r ∈ tb_L_law, pm_RowOk RL false cL_law r := pm_mkrow td_L_law tn_L_law tm_L_law
theorem pm_rows (i : Nat) : ∀ r ∈ pm_tb i, pm_RowOk (pm_own i) (pm_ini i) (pm_b i) r := by
  match i with
  | 0 => exact tr_X0_init
  | 1 => exact tr_X0_find
  | 2 => exact tr_X0_begin
  | 3 => exact tr_X0_tryAgain
  | 4 => exact tr_X0_take
  | 5 => exact tr_X0_lookAt
  | 6 => exact tr_X0_countAcks
  | 7 => exact tr_X1_init
  | 8 => exact tr_X1_add
  | 9 => exact tr_X1_at
  | 10 => exact tr_X1_placeOf
  | 11 => exact tr_X1_digest
  | 12 => exact tr_X1_beginsWith
  | 13 => exact tr_X1_copy
  | 14 => exact tr_X1_digestWith
  | 15 => exact tr_X2_init
  | 16 => exact tr_X2_samePoint
  | 17 => exact tr_X2_sameReply
  | 18 => exact tr_X3_init
  | 19 => exact tr_X3_tell
  | 20 => exact tr_X4_init
  | 21 => exact tr_X4_send
  | 22 => exact tr_X4_sendToAll
  | 23 => exact tr_X4_find
  | 24 => exact tr_X5_init
  | 25 => exact tr_X5_tell
  | 26 => exact tr_X5_fittingOrder
  | 27 => exact tr_X5_take
  | 28 => exact tr_X5_endPatience
  | 29 => exact tr_X5_takeAsk
  | 30 => exact tr_X5_takeOrder
  | 31 => exact tr_X5_takeProof
  | 32 => exact tr_X5_takeHate
  | 33 => exact tr_X5_changeView
  | 34 => exact tr_X5_keepChange
  | 35 => exact tr_X5_mayTurn
  | 36 => exact tr_X5_countChanges
  | 37 => exact tr_X5_changedHistory
  | 38 => exact tr_X5_mergeChanges
  | 39 => exact tr_X5_mostFixed
  | 40 => exact tr_X5_agreedNext
  | 41 => exact tr_X5_nextAfter
  | 42 => exact tr_X5_turnTo
  | 43 => exact tr_X5_doNext
  | 44 => exact tr_X5_orderOf
  | 45 => exact tr_X5_reply
  | 46 => exact tr_X6_init
  | 47 => exact tr_X6_doOn
  | 48 => exact tr_X6_keep
  | 49 => exact tr_X6_agreedBy
  | 50 => exact tr_X6_countLike
  | 51 => exact tr_X6_finish
  | 52 => exact tr_X6_tell
  | 53 => exact tr_X6_countReplies
  | 54 => exact tr_X7_init
  | 55 => exact tr_X7_issue
  | 56 => exact tr_X7_retry
  | 57 => exact tr_X7_deliver
  | 58 => exact tr_X7_flood
  | 59 => exact tr_X7_lose
  | 60 => exact tr_X7_patience
  | 61 => exact tr_X7_lie
  | 62 => exact tr_X7_echo
  | 63 => exact tr_X7_replica
  | 64 => exact tr_X7_messages
  | 65 => exact tr_X7_message
  | 66 => exact tr_X7_request
  | 67 => exact tr_X7_view
  | 68 => exact tr_X7_handOver
  | 69 => exact tr_X7_isReplica
  | 70 => exact tr_X7_primaryOf
  | 71 => exact tr_X7_askFor
  | 72 => exact tr_X8_init
  | 73 => exact tr_X8_thrown
  | 74 => exact tr_X8_refuse
  | 75 => exact tr_X8_at
  | 76 => exact tr_X8_with
  | 77 => exact tr_X8_begin
  | 78 => exact tr_X8_digestOf
  | 79 => exact tr_X8_placeIn
  | 80 => exact tr_X8_work
  | 81 => exact tr_X8_send
  | 82 => exact tr_X8_sendToAll
  | 83 => exact tr_X8_sendRow
  | 84 => exact tr_X8_reply
  | 85 => exact tr_X8_order
  | 86 => exact tr_X8_isPrimary
  | 87 => exact tr_X8_append
  | 88 => exact tr_X8_takeAsk
  | 89 => exact tr_X8_takeOrder
  | 90 => exact tr_X8_takeProof
  | 91 => exact tr_X8_bits
  | 92 => exact tr_X8_takeHate
  | 93 => exact tr_X8_takeChange
  | 94 => exact tr_X8_safest
  | 95 => exact tr_X8_goesOn
  | 96 => exact tr_X8_nextOf
  | 97 => exact tr_X8_makeNew
  | 98 => exact tr_X8_turn
  | 99 => exact tr_X8_takeNew
  | 100 => exact tr_X8_take
  | 101 => exact tr_X8_areAlike
  | 102 => exact tr_X8_alike
  | 103 => exact tr_X8_finish
  | 104 => exact tr_X8_look
  | 105 => exact tr_X8_takeReply
  | 106 => exact tr_X8_takeAck
  | 107 => exact tr_X8_issue
  | 108 => exact tr_X8_isRequest
  | 109 => exact tr_X8_retry
  | 110 => exact tr_X8_isUnderWay
  | 111 => exact tr_X8_deliver
  | 112 => exact tr_X8_flood
  | 113 => exact tr_X8_lose
  | 114 => exact tr_X8_isReplica
  | 115 => exact tr_X8_refuseThis
  | 116 => exact tr_X8_patience
  | 117 => exact tr_X8_lie
  | 118 => exact tr_X8_echo
  | 119 => exact tr_X8_replica
  | 120 => exact tr_X8_messages
  | 121 => exact tr_X8_message
  | 122 => exact tr_X8_replies
  | 123 => exact tr_X8_request
  | 124 => exact tr_X8_view
  | 125 => exact tr_J6_bitCount_0f7a4
  | 126 => exact tr_L_cell
  | 127 => exact tr_L_issue
  | 128 => exact tr_L_retry
  | 129 => exact tr_L_flood
  | 130 => exact tr_L_patience
  | 131 => exact tr_L_lie
  | 132 => exact tr_L_echo
  | 133 => exact tr_L_replica
  | 134 => exact tr_L_message
  | 135 => exact tr_L_request
  | 136 => exact tr_L_law
  | n + 137 =>
    intro r hr
    have e : pm_tb (n + 137) = [] := by
      unfold pm_tb
      rw [List.getD_eq_getElem?_getD, List.getElem?_eq_none (by show pm_tbs.length ≤ n + 137; exact Nat.le_add_left _ _)]
      rfl
    rw [e] at hr
    cases hr
set_option maxRecDepth 100000 in
theorem tu_0 : u_ws RX0 TX0 5 = [117, 119, 121, 123, 125].filterMap (fun (i : Nat) => lw_tbl[i]?) ∧ (u_ws RX0 TX0 5).all goodWord = true := by decide +kernel
set_option maxRecDepth 100000 in
theorem tu_1 : u_ws RX1 TX1 3 = [147, 149, 151].filterMap (fun (i : Nat) => lw_tbl[i]?) ∧ (u_ws RX1 TX1 3).all goodWord = true := by decide +kernel
set_option maxRecDepth 100000 in
theorem tu_2 : u_ws RX2 TX2 7 = [324, 326, 328, 330, 332, 334, 336].filterMap (fun (i : Nat) => lw_tbl[i]?) ∧ (u_ws RX2 TX2 7).all goodWord = true := by decide +kernel
set_option maxRecDepth 100000 in
theorem tu_3 : u_ws RX3 TX3 4 = [356, 358, 360, 362].filterMap (fun (i : Nat) => lw_tbl[i]?) ∧ (u_ws RX3 TX3 4).all goodWord = true := by decide +kernel
set_option maxRecDepth 100000 in
theorem tu_4 : u_ws RX4 TX4 2 = [94, 96].filterMap (fun (i : Nat) => lw_tbl[i]?) ∧ (u_ws RX4 TX4 2).all goodWord = true := by decide +kernel
set_option maxRecDepth 100000 in
theorem tu_5 : u_ws RX5 TX5 11 = [170, 172, 174, 176, 178, 180, 182, 184, 186, 188, 190].filterMap (fun (i : Nat) => lw_tbl[i]?) ∧ (u_ws RX5 TX5 11).all goodWord = true := by decide +kernel
set_option maxRecDepth 100000 in
theorem tu_6 : u_ws RX6 TX6 8 = [594, 596, 598, 600, 602, 604, 606, 608].filterMap (fun (i : Nat) => lw_tbl[i]?) ∧ (u_ws RX6 TX6 8).all goodWord = true := by decide +kernel
set_option maxRecDepth 100000 in
theorem tu_7 : u_ws RX7 TX7 4 = [197, 199, 201, 203].filterMap (fun (i : Nat) => lw_tbl[i]?) ∧ (u_ws RX7 TX7 4).all goodWord = true := by decide +kernel
set_option maxRecDepth 100000 in
theorem tu_8 : u_ws RX8 TX8 46 = [780, 782, 784, 786, 788, 790, 792, 794, 796, 798, 800, 802, 804, 806, 808, 810, 812, 814, 816, 818, 820, 822, 824, 826, 828, 830, 832, 834, 836, 838, 840, 842, 844, 846, 848, 850, 852, 854, 856, 858, 860, 862, 864, 866, 868, 870].filterMap (fun (i : Nat) => lw_tbl[i]?) ∧ (u_ws RX8 TX8 46).all goodWord = true := by decide +kernel
theorem pm_inG {l : List Cond} {ps : List Nat} (h : l = ps.filterMap (fun (i : Nat) => lw_tbl[i]?) ∧ l.all goodWord = true) : ∀ w ∈ l, w ∈ pm_G := by
  intro w hw
  have g := List.all_eq_true.mp h.2 w hw
  rw [h.1] at hw
  obtain ⟨i, -, hi⟩ := List.mem_filterMap.mp hw
  exact List.mem_filter.mpr ⟨List.mem_of_getElem? hi, g⟩
theorem pm_at_row {i pc : Nat} {r : Instr × Nat × List Nat} (h : pm_at i pc = some r) : (pc, r) ∈ pm_tb i := by
  unfold pm_at at h
  cases hf : (pm_tb i).find? (fun r => r.1 == pc) with
  | none => rw [hf] at h; cases h
  | some q =>
    rw [hf] at h
    have h1 := List.find?_some hf
    have h2 := List.mem_of_find?_eq_some hf
    cases h
    have : q.1 = pc := by simpa using h1
    rw [← this]
    exact h2
theorem pm_row {i pc : Nat} {r : Instr × Nat × List Nat} (h : pm_at i pc = some r) : pm_RowOk (pm_own i) (pm_ini i) (pm_b i) (pc, r) := pm_rows i _ (pm_at_row h)
theorem pm_usT : ∀ (ci : Nat) (q : vw_C), vwCl[ci]? = some q → ∀ w ∈ u_ws q.1 q.2.1 q.2.2, w ∈ pm_G := by
  intro ci q h
  match ci, h with
  | 0, h => cases h; exact pm_inG tu_0
  | 1, h => cases h; exact pm_inG tu_1
  | 2, h => cases h; exact pm_inG tu_2
  | 3, h => cases h; exact pm_inG tu_3
  | 4, h => cases h; exact pm_inG tu_4
  | 5, h => cases h; exact pm_inG tu_5
  | 6, h => cases h; exact pm_inG tu_6
  | 7, h => cases h; exact pm_inG tu_7
  | 8, h => cases h; exact pm_inG tu_8
  | n + 9, h => simp [vwCl] at h
