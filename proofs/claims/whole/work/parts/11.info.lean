/-! any instruction that stays in its frame -/
theorem pm_one {p : Program} {l : Launch} {e : Env} {R : Room} {s : State} {m : MethodId} {args : Array Value} {below : List Frame} {meth : Method} {c : Code} {Q : State → Prop}
    {D : va_G} {aC : Nat → ClassId} {b : Nat} {sc : pm_Sc} {A : Nat → Prop} {nL nc0 ns0 rk : Nat} {np mc rkOf : Nat → Nat} {cc : ByteArray} {own : String} {ini : Bool} {ins : Instr} {len : Nat} {res : List Nat} {pc : Nat} {lv : pm_L} {st : List Value} {h : pm_H} {s1 : pm_S}
    (hx : p.tables.exec = Jvm.exec) (hb : c.code = cc) (hml : c.maxLocals = nL) (hown : s.vm.findClass own = some m.cls) (hK : va_K D vwCl (pm_tys aC) s) (hA : ∀ q, s.heap.size ≤ q → A q)
    (hX : va_X b sc.1 sc.2 s s.heap) (hbl : b < s.heap.size) (hbA : ¬ A b) (hus : ∀ (ci : Nat) (q : vw_C), vwCl[ci]? = some q → ∀ w ∈ u_ws q.1 q.2.1 q.2.2, w.before args s = true)
    (hn : ∀ w ∈ pm_need own ins res, w.before args s = true) (hnn : ∀ w ∈ pm_needN own ins res, w.before args s = true) (hao : ∀ t, 3 ≤ t → t ≤ 6 → va_AO (pm_atag t) s) (hck : pm_chk own ini ins len res = true) (hin : ini = true → meth.name = "<init>") (hrf : rk ≤ R.frames) (hrl : 42 * rk ≤ R.locals)
    (hd : decode cc pc = .ok (ins, len)) (hs : pm_do sc nL rk np mc rkOf ins res pc lv st h = some (.inl s1)) (O : pm_ok lv st h.1) : pm_Go p l e R s m args below meth c Q D aC b A nL nc0 ns0 (pc, lv, st, h) s1 ∧ pm_Ok2 (pc, lv, st, h) s1 := by
  cases ins
  case aconst_null => exact pq_aconst_null hx hb hml hown hK hA hX hbl hbA hus hn hnn hao hck hin hrf hrl hd hs O
  case iconst => exact pq_iconst hx hb hml hown hK hA hX hbl hbA hus hn hnn hao hck hin hrf hrl hd hs O
  case bipush => exact pq_bipush hx hb hml hown hK hA hX hbl hbA hus hn hnn hao hck hin hrf hrl hd hs O
  case sipush => exact pq_sipush hx hb hml hown hK hA hX hbl hbA hus hn hnn hao hck hin hrf hrl hd hs O
  case lconst => exact pq_lconst hx hb hml hown hK hA hX hbl hbA hus hn hnn hao hck hin hrf hrl hd hs O
  case iadd => exact pq_iadd hx hb hml hown hK hA hX hbl hbA hus hn hnn hao hck hin hrf hrl hd hs O
  case isub => exact pq_isub hx hb hml hown hK hA hX hbl hbA hus hn hnn hao hck hin hrf hrl hd hs O
  case imul => exact pq_imul hx hb hml hown hK hA hX hbl hbA hus hn hnn hao hck hin hrf hrl hd hs O
  case iand => exact pq_iand hx hb hml hown hK hA hX hbl hbA hus hn hnn hao hck hin hrf hrl hd hs O
  case ior => exact pq_ior hx hb hml hown hK hA hX hbl hbA hus hn hnn hao hck hin hrf hrl hd hs O
  case ixor => exact pq_ixor hx hb hml hown hK hA hX hbl hbA hus hn hnn hao hck hin hrf hrl hd hs O
  case ishl => exact pq_ishl hx hb hml hown hK hA hX hbl hbA hus hn hnn hao hck hin hrf hrl hd hs O
  case ishr => exact pq_ishr hx hb hml hown hK hA hX hbl hbA hus hn hnn hao hck hin hrf hrl hd hs O
  case iushr => exact pq_iushr hx hb hml hown hK hA hX hbl hbA hus hn hnn hao hck hin hrf hrl hd hs O
  case lsub => exact pq_lsub hx hb hml hown hK hA hX hbl hbA hus hn hnn hao hck hin hrf hrl hd hs O
  case land => exact pq_land hx hb hml hown hK hA hX hbl hbA hus hn hnn hao hck hin hrf hrl hd hs O
  case lor => exact pq_lor hx hb hml hown hK hA hX hbl hbA hus hn hnn hao hck hin hrf hrl hd hs O
  case lshl => exact pq_lshl hx hb hml hown hK hA hX hbl hbA hus hn hnn hao hck hin hrf hrl hd hs O
  case lshr => exact pq_lshr hx hb hml hown hK hA hX hbl hbA hus hn hnn hao hck hin hrf hrl hd hs O
  case i2l => exact pq_i2l hx hb hml hown hK hA hX hbl hbA hus hn hnn hao hck hin hrf hrl hd hs O
  case l2i => exact pq_l2i hx hb hml hown hK hA hX hbl hbA hus hn hnn hao hck hin hrf hrl hd hs O
  case lcmp => exact pq_lcmp hx hb hml hown hK hA hX hbl hbA hus hn hnn hao hck hin hrf hrl hd hs O
  case irem => exact pq_irem hx hb hml hown hK hA hX hbl hbA hus hn hnn hao hck hin hrf hrl hd hs O
  case ldc_w => exact pq_ldc_w hx hb hml hown hK hA hX hbl hbA hus hn hnn hao hck hin hrf hrl hd hs O
  case ldc2_w => exact pq_ldc2_w hx hb hml hown hK hA hX hbl hbA hus hn hnn hao hck hin hrf hrl hd hs O
  case iload_n => exact pq_iload_n hx hb hml hown hK hA hX hbl hbA hus hn hnn hao hck hin hrf hrl hd hs O
  case iload => exact pq_iload hx hb hml hown hK hA hX hbl hbA hus hn hnn hao hck hin hrf hrl hd hs O
  case lload_n => exact pq_lload_n hx hb hml hown hK hA hX hbl hbA hus hn hnn hao hck hin hrf hrl hd hs O
  case lload => exact pq_lload hx hb hml hown hK hA hX hbl hbA hus hn hnn hao hck hin hrf hrl hd hs O
  case aload_n => exact pq_aload_n hx hb hml hown hK hA hX hbl hbA hus hn hnn hao hck hin hrf hrl hd hs O
  case aload => exact pq_aload hx hb hml hown hK hA hX hbl hbA hus hn hnn hao hck hin hrf hrl hd hs O
  case istore_n => exact pq_istore_n hx hb hml hown hK hA hX hbl hbA hus hn hnn hao hck hin hrf hrl hd hs O
  case istore => exact pq_istore hx hb hml hown hK hA hX hbl hbA hus hn hnn hao hck hin hrf hrl hd hs O
  case lstore_n => exact pq_lstore_n hx hb hml hown hK hA hX hbl hbA hus hn hnn hao hck hin hrf hrl hd hs O
  case lstore => exact pq_lstore hx hb hml hown hK hA hX hbl hbA hus hn hnn hao hck hin hrf hrl hd hs O
  case astore_n => exact pq_astore_n hx hb hml hown hK hA hX hbl hbA hus hn hnn hao hck hin hrf hrl hd hs O
  case astore => exact pq_astore hx hb hml hown hK hA hX hbl hbA hus hn hnn hao hck hin hrf hrl hd hs O
  case iinc => exact pq_iinc hx hb hml hown hK hA hX hbl hbA hus hn hnn hao hck hin hrf hrl hd hs O
  case dup => exact pq_dup hx hb hml hown hK hA hX hbl hbA hus hn hnn hao hck hin hrf hrl hd hs O
  case pop => exact pq_pop hx hb hml hown hK hA hX hbl hbA hus hn hnn hao hck hin hrf hrl hd hs O
  case dup2 => exact pq_dup2 hx hb hml hown hK hA hX hbl hbA hus hn hnn hao hck hin hrf hrl hd hs O
  case goto => exact pq_goto hx hb hml hown hK hA hX hbl hbA hus hn hnn hao hck hin hrf hrl hd hs O
  case ifCond => exact pq_ifCond hx hb hml hown hK hA hX hbl hbA hus hn hnn hao hck hin hrf hrl hd hs O
  case if_icmp => exact pq_if_icmp hx hb hml hown hK hA hX hbl hbA hus hn hnn hao hck hin hrf hrl hd hs O
  case ifnull => exact pq_ifnull hx hb hml hown hK hA hX hbl hbA hus hn hnn hao hck hin hrf hrl hd hs O
  case ifnonnull => exact pq_ifnonnull hx hb hml hown hK hA hX hbl hbA hus hn hnn hao hck hin hrf hrl hd hs O
  case tableswitch => exact pq_tableswitch hx hb hml hown hK hA hX hbl hbA hus hn hnn hao hck hin hrf hrl hd hs O
  case getfield => exact pq_getfield hx hb hml hown hK hA hX hbl hbA hus hn hnn hao hck hin hrf hrl hd hs O
  case putfield => exact pq_putfield hx hb hml hown hK hA hX hbl hbA hus hn hnn hao hck hin hrf hrl hd hs O
  case arraylength => exact pq_arraylength hx hb hml hown hK hA hX hbl hbA hus hn hnn hao hck hin hrf hrl hd hs O
  case iaload => exact pq_iaload hx hb hml hown hK hA hX hbl hbA hus hn hnn hao hck hin hrf hrl hd hs O
  case laload => exact pq_laload hx hb hml hown hK hA hX hbl hbA hus hn hnn hao hck hin hrf hrl hd hs O
  case baload => exact pq_baload hx hb hml hown hK hA hX hbl hbA hus hn hnn hao hck hin hrf hrl hd hs O
  case aaload => exact pq_aaload hx hb hml hown hK hA hX hbl hbA hus hn hnn hao hck hin hrf hrl hd hs O
  case iastore => exact pq_iastore hx hb hml hown hK hA hX hbl hbA hus hn hnn hao hck hin hrf hrl hd hs O
  case lastore => exact pq_lastore hx hb hml hown hK hA hX hbl hbA hus hn hnn hao hck hin hrf hrl hd hs O
  case bastore => exact pq_bastore hx hb hml hown hK hA hX hbl hbA hus hn hnn hao hck hin hrf hrl hd hs O
  case aastore => exact pq_aastore hx hb hml hown hK hA hX hbl hbA hus hn hnn hao hck hin hrf hrl hd hs O
  case new => exact pq_new hx hb hml hown hK hA hX hbl hbA hus hn hnn hao hck hin hrf hrl hd hs O
  case newarray => exact pq_newarray hx hb hml hown hK hA hX hbl hbA hus hn hnn hao hck hin hrf hrl hd hs O
  case anewarray => exact pq_anewarray hx hb hml hown hK hA hX hbl hbA hus hn hnn hao hck hin hrf hrl hd hs O
  case invokespecial => exact pq_invokespecial hx hb hml hown hK hA hX hbl hbA hus hn hnn hao hck hin hrf hrl hd hs O
  case invokestatic => exact pq_invokestatic hx hb hml hown hK hA hX hbl hbA hus hn hnn hao hck hin hrf hrl hd hs O
  case invokevirtual =>
    simp only [pm_do] at hs
    split at hs
    · split at hs
      · split at hs
        · split at hs
          · split at hs
            · cases hs
            · cases hs
          · cases hs
        · cases hs
      · cases hs
    · cases hs
  all_goals (exact absurd hs (by simp [pm_do]))
def pm_tbs : List (List pm_R) := [tb_X0_init, tb_X0_find, tb_X0_begin, tb_X0_tryAgain, tb_X0_take, tb_X0_lookAt, tb_X0_countAcks, tb_X1_init, tb_X1_add, tb_X1_at, tb_X1_placeOf, tb_X1_digest, tb_X1_beginsWith, tb_X1_copy, tb_X1_digestWith, tb_X2_init, tb_X2_samePoint, tb_X2_sameReply, tb_X3_init, tb_X3_tell, tb_X4_init, tb_X4_send, tb_X4_sendToAll, tb_X4_find, tb_X5_init, tb_X5_tell, tb_X5_fittingOrder, tb_X5_take, tb_X5_endPatience, tb_X5_takeAsk, tb_X5_takeOrder, tb_X5_takeProof, tb_X5_takeHate, tb_X5_changeView, tb_X5_keepChange, tb_X5_mayTurn, tb_X5_countChanges, tb_X5_changedHistory, tb_X5_mergeChanges, tb_X5_mostFixed, tb_X5_agreedNext, tb_X5_nextAfter, tb_X5_turnTo, tb_X5_doNext, tb_X5_orderOf, tb_X5_reply, tb_X6_init, tb_X6_doOn, tb_X6_keep, tb_X6_agreedBy, tb_X6_countLike, tb_X6_finish, tb_X6_tell, tb_X6_countReplies, tb_X7_init, tb_X7_issue, tb_X7_retry, tb_X7_deliver, tb_X7_flood, tb_X7_lose, tb_X7_patience, tb_X7_lie, tb_X7_echo, tb_X7_replica, tb_X7_messages, tb_X7_message, tb_X7_request, tb_X7_view, tb_X7_handOver, tb_X7_isReplica, tb_X7_primaryOf, tb_X7_askFor, tb_X8_init, tb_X8_thrown, tb_X8_refuse, tb_X8_at, tb_X8_with, tb_X8_begin, tb_X8_digestOf, tb_X8_placeIn, tb_X8_work, tb_X8_send, tb_X8_sendToAll, tb_X8_sendRow, tb_X8_reply, tb_X8_order, tb_X8_isPrimary, tb_X8_append, tb_X8_takeAsk, tb_X8_takeOrder, tb_X8_takeProof, tb_X8_bits, tb_X8_takeHate, tb_X8_takeChange, tb_X8_safest, tb_X8_goesOn, tb_X8_nextOf, tb_X8_makeNew, tb_X8_turn, tb_X8_takeNew, tb_X8_take, tb_X8_areAlike, tb_X8_alike, tb_X8_finish, tb_X8_look, tb_X8_takeReply, tb_X8_takeAck, tb_X8_issue, tb_X8_isRequest, tb_X8_retry, tb_X8_isUnderWay, tb_X8_deliver, tb_X8_flood, tb_X8_lose, tb_X8_isReplica, tb_X8_refuseThis, tb_X8_patience, tb_X8_lie, tb_X8_echo, tb_X8_replica, tb_X8_messages, tb_X8_message, tb_X8_replies, tb_X8_request, tb_X8_view, tb_J6_bitCount_0f7a4, tb_L_cell, tb_L_issue, tb_L_retry, tb_L_flood, tb_L_patience, tb_L_lie, tb_L_echo, tb_L_replica, tb_L_message, tb_L_request, tb_L_law]
def pm_ys : List MethodName := [yX0_init, yX0_find, yX0_begin, yX0_tryAgain, yX0_take, yX0_lookAt, yX0_countAcks, yX1_init, yX1_add, yX1_at, yX1_placeOf, yX1_digest, yX1_beginsWith, yX1_copy, yX1_digestWith, yX2_init, yX2_samePoint, yX2_sameReply, yX3_init, yX3_tell, yX4_init, yX4_send, yX4_sendToAll, yX4_find, yX5_init, yX5_tell, yX5_fittingOrder, yX5_take, yX5_endPatience, yX5_takeAsk, yX5_takeOrder, yX5_takeProof, yX5_takeHate, yX5_changeView, yX5_keepChange, yX5_mayTurn, yX5_countChanges, yX5_changedHistory, yX5_mergeChanges, yX5_mostFixed, yX5_agreedNext, yX5_nextAfter, yX5_turnTo, yX5_doNext, yX5_orderOf, yX5_reply, yX6_init, yX6_doOn, yX6_keep, yX6_agreedBy, yX6_countLike, yX6_finish, yX6_tell, yX6_countReplies, yX7_init, yX7_issue, yX7_retry, yX7_deliver, yX7_flood, yX7_lose, yX7_patience, yX7_lie, yX7_echo, yX7_replica, yX7_messages, yX7_message, yX7_request, yX7_view, yX7_handOver, yX7_isReplica, yX7_primaryOf, yX7_askFor, yX8_init, yX8_thrown, yX8_refuse, yX8_at, yX8_with, yX8_begin, yX8_digestOf, yX8_placeIn, yX8_work, yX8_send, yX8_sendToAll, yX8_sendRow, yX8_reply, yX8_order, yX8_isPrimary, yX8_append, yX8_takeAsk, yX8_takeOrder, yX8_takeProof, yX8_bits, yX8_takeHate, yX8_takeChange, yX8_safest, yX8_goesOn, yX8_nextOf, yX8_makeNew, yX8_turn, yX8_takeNew, yX8_take, yX8_areAlike, yX8_alike, yX8_finish, yX8_look, yX8_takeReply, yX8_takeAck, yX8_issue, yX8_isRequest, yX8_retry, yX8_isUnderWay, yX8_deliver, yX8_flood, yX8_lose, yX8_isReplica, yX8_refuseThis, yX8_patience, yX8_lie, yX8_echo, yX8_replica, yX8_messages, yX8_message, yX8_replies, yX8_request, yX8_view, yJ6_bitCount_0f7a4, yL_cell, yL_issue, yL_retry, yL_flood, yL_patience, yL_lie, yL_echo, yL_replica, yL_message, yL_request, yL_law]
def pm_bs : List ByteArray := [cX0_init, cX0_find, cX0_begin, cX0_tryAgain, cX0_take, cX0_lookAt, cX0_countAcks, cX1_init, cX1_add, cX1_at, cX1_placeOf, cX1_digest, cX1_beginsWith, cX1_copy, cX1_digestWith, cX2_init, cX2_samePoint, cX2_sameReply, cX3_init, cX3_tell, cX4_init, cX4_send, cX4_sendToAll, cX4_find, cX5_init, cX5_tell, cX5_fittingOrder, cX5_take, cX5_endPatience, cX5_takeAsk, cX5_takeOrder, cX5_takeProof, cX5_takeHate, cX5_changeView, cX5_keepChange, cX5_mayTurn, cX5_countChanges, cX5_changedHistory, cX5_mergeChanges, cX5_mostFixed, cX5_agreedNext, cX5_nextAfter, cX5_turnTo, cX5_doNext, cX5_orderOf, cX5_reply, cX6_init, cX6_doOn, cX6_keep, cX6_agreedBy, cX6_countLike, cX6_finish, cX6_tell, cX6_countReplies, cX7_init, cX7_issue, cX7_retry, cX7_deliver, cX7_flood, cX7_lose, cX7_patience, cX7_lie, cX7_echo, cX7_replica, cX7_messages, cX7_message, cX7_request, cX7_view, cX7_handOver, cX7_isReplica, cX7_primaryOf, cX7_askFor, cX8_init, cX8_thrown, cX8_refuse, cX8_at, cX8_with, cX8_begin, cX8_digestOf, cX8_placeIn, cX8_work, cX8_send, cX8_sendToAll, cX8_sendRow, cX8_reply, cX8_order, cX8_isPrimary, cX8_append, cX8_takeAsk, cX8_takeOrder, cX8_takeProof, cX8_bits, cX8_takeHate, cX8_takeChange, cX8_safest, cX8_goesOn, cX8_nextOf, cX8_makeNew, cX8_turn, cX8_takeNew, cX8_take, cX8_areAlike, cX8_alike, cX8_finish, cX8_look, cX8_takeReply, cX8_takeAck, cX8_issue, cX8_isRequest, cX8_retry, cX8_isUnderWay, cX8_deliver, cX8_flood, cX8_lose, cX8_isReplica, cX8_refuseThis, cX8_patience, cX8_lie, cX8_echo, cX8_replica, cX8_messages, cX8_message, cX8_replies, cX8_request, cX8_view, cJ6_bitCount_0f7a4, cL_cell, cL_issue, cL_retry, cL_flood, cL_patience, cL_lie, cL_echo, cL_replica, cL_message, cL_request, cL_law]
def pm_nLs : List Nat := [3, 2, 3, 4, 4, 3, 4, 1, 2, 2, 3, 4, 3, 2, 2, 8, 2, 2, 4, 2, 1, 4, 4, 2, 4, 2, 3, 4, 2, 5, 4, 2, 3, 2, 3, 3, 3, 3, 5, 4, 5, 4, 4, 3, 2, 4, 4, 3, 4, 3, 4, 2, 2, 3, 5, 4, 3, 2, 4, 3, 2, 5, 5, 7, 1, 4, 4, 1, 3, 1, 1, 1, 3, 1, 2, 3, 4, 3, 5, 6, 8, 9, 9, 10, 4, 3, 2, 3, 6, 7, 6, 3, 4, 11, 5, 8, 10, 9, 8, 5, 3, 3, 5, 4, 4, 8, 4, 5, 2, 4, 2, 2, 4, 2, 1, 1, 2, 3, 4, 3, 1, 3, 4, 3, 1, 1, 2, 6, 4, 4, 4, 5, 5, 5, 5, 5, 7]
def pm_rets : List (Option FieldType) := [none, (some (.object "SpecOrder$Request")), (some .int), (some .int), none, none, (some .int), none, none, (some .int), (some .int), (some .int), (some .boolean), (some (.object "SpecOrder$History")), (some .int), none, (some .boolean), (some .boolean), none, (some .int), none, none, none, (some (.object "SpecOrder$Message")), none, (some .int), (some (.object "SpecOrder$Letter")), none, (some .boolean), none, none, none, none, none, none, (some .boolean), (some .int), (some (.object "SpecOrder$History")), (some (.object "SpecOrder$History")), (some (.object "SpecOrder$History")), (some .int), (some .int), none, none, (some (.object "SpecOrder$Letter")), none, none, (some .int), none, (some (.object "SpecOrder$Letter")), (some .int), none, (some .int), (some .int), none, (some .int), (some .int), (some .boolean), (some .int), (some .boolean), (some .boolean), (some .boolean), (some .boolean), (some .int), (some .int), (some .int), (some .int), (some .int), (some .boolean), (some .boolean), (some .int), (some (.object "SpecOrder$Letter")), none, (some .int), (some .int), (some .int), (some .long), (some .long), (some .int), (some .int), (some .int), (some .int), none, none, none, none, (some .boolean), none, none, (some .boolean), none, (some .int), none, none, (some .int), (some .int), (some .int), none, none, none, none, (some .boolean), (some .int), none, none, none, none, (some .int), (some .boolean), (some .int), (some .boolean), (some .boolean), (some .int), (some .boolean), (some .boolean), (some .boolean), (some .boolean), (some .boolean), (some .boolean), (some .int), (some .int), (some .int), (some .int), (some .int), (some .int), (some .int), (some .int), (some .int), (some .int), (some .int), (some .int), (some .int), (some .int), (some .int), (some .int), (some .int), (some .boolean)]
def pm_rts : List Nat := [0, 4, 1, 1, 0, 0, 1, 0, 0, 1, 1, 1, 2, 4, 1, 0, 2, 2, 0, 1, 0, 0, 0, 4, 0, 1, 4, 0, 2, 0, 0, 0, 0, 0, 0, 2, 1, 4, 4, 4, 1, 1, 0, 0, 4, 0, 0, 1, 0, 4, 1, 0, 1, 1, 0, 1, 1, 2, 1, 2, 2, 2, 2, 1, 1, 1, 1, 1, 2, 2, 1, 4, 0, 1, 1, 1, 3, 3, 1, 1, 1, 1, 0, 0, 0, 0, 2, 0, 0, 2, 0, 1, 0, 0, 1, 1, 1, 0, 0, 0, 0, 2, 1, 0, 0, 0, 0, 1, 2, 1, 2, 2, 1, 2, 2, 2, 2, 2, 2, 1, 1, 1, 1, 1, 1, 1, 1, 1, 1, 1, 1, 1, 1, 1, 1, 1, 2]
def pm_nps : List Nat := [2, 1, 1, 2, 2, 1, 1, 0, 1, 1, 1, 1, 1, 0, 2, 7, 1, 1, 3, 1, 0, 3, 2, 1, 3, 1, 1, 2, 0, 2, 2, 1, 2, 0, 2, 2, 0, 1, 0, 0, 1, 2, 2, 1, 1, 1, 3, 1, 2, 1, 1, 1, 1, 0, 1, 3, 1, 1, 1, 1, 1, 2, 2, 2, 0, 2, 2, 0, 1, 1, 1, 1, 1, 0, 1, 2, 3, 2, 2, 3, 2, 7, 6, 7, 2, 2, 1, 2, 3, 6, 4, 1, 2, 6, 1, 4, 3, 1, 5, 2, 2, 2, 2, 3, 1, 6, 1, 3, 1, 1, 1, 1, 1, 1, 1, 0, 1, 2, 2, 2, 0, 2, 1, 2, 0, 1, 2, 5, 3, 3, 3, 4, 4, 4, 4, 4, 1]
def pm_mcs : List Nat := [0, 0, 0, 0, 0, 0, 0, 1, 1, 1, 1, 1, 1, 1, 1, 2, 2, 2, 3, 3, 4, 4, 4, 4, 5, 5, 5, 5, 5, 5, 5, 5, 5, 5, 5, 5, 5, 5, 5, 5, 5, 5, 5, 5, 5, 5, 6, 6, 6, 6, 6, 6, 6, 6, 7, 7, 7, 7, 7, 7, 7, 7, 7, 7, 7, 7, 7, 7, 7, 7, 7, 7, 8, 8, 8, 8, 8, 8, 8, 8, 8, 8, 8, 8, 8, 8, 8, 8, 8, 8, 8, 8, 8, 8, 8, 8, 8, 8, 8, 8, 8, 8, 8, 8, 8, 8, 8, 8, 8, 8, 8, 8, 8, 8, 8, 8, 8, 8, 8, 8, 8, 8, 8, 8, 8, 9, 9, 9, 9, 9, 9, 9, 9, 9, 9, 9, 9]
def pm_rks : List Nat := [1, 0, 3, 4, 5, 4, 1, 1, 0, 0, 0, 1, 0, 2, 0, 1, 0, 1, 1, 0, 1, 2, 3, 0, 2, 2, 2, 5, 6, 4, 4, 3, 4, 3, 1, 1, 1, 0, 3, 1, 2, 1, 4, 1, 2, 3, 1, 0, 0, 3, 2, 0, 1, 0, 3, 6, 6, 7, 7, 1, 7, 6, 6, 6, 0, 6, 6, 0, 6, 0, 0, 2, 1, 0, 0, 0, 0, 0, 1, 1, 1, 0, 1, 1, 2, 2, 0, 1, 3, 3, 2, 0, 6, 5, 0, 1, 2, 4, 3, 4, 7, 0, 1, 0, 2, 3, 3, 1, 0, 2, 0, 8, 9, 1, 0, 0, 7, 4, 4, 2, 0, 1, 0, 1, 0, 0, 0, 7, 7, 8, 8, 7, 7, 7, 7, 7, 10]
def pm_owns : List String := [RX0, RX0, RX0, RX0, RX0, RX0, RX0, RX1, RX1, RX1, RX1, RX1, RX1, RX1, RX1, RX2, RX2, RX2, RX3, RX3, RX4, RX4, RX4, RX4, RX5, RX5, RX5, RX5, RX5, RX5, RX5, RX5, RX5, RX5, RX5, RX5, RX5, RX5, RX5, RX5, RX5, RX5, RX5, RX5, RX5, RX5, RX6, RX6, RX6, RX6, RX6, RX6, RX6, RX6, RX7, RX7, RX7, RX7, RX7, RX7, RX7, RX7, RX7, RX7, RX7, RX7, RX7, RX7, RX7, RX7, RX7, RX7, RX8, RX8, RX8, RX8, RX8, RX8, RX8, RX8, RX8, RX8, RX8, RX8, RX8, RX8, RX8, RX8, RX8, RX8, RX8, RX8, RX8, RX8, RX8, RX8, RX8, RX8, RX8, RX8, RX8, RX8, RX8, RX8, RX8, RX8, RX8, RX8, RX8, RX8, RX8, RX8, RX8, RX8, RX8, RX8, RX8, RX8, RX8, RX8, RX8, RX8, RX8, RX8, RX8, RJ6, RL, RL, RL, RL, RL, RL, RL, RL, RL, RL, RL]
def pm_inis : List Bool := [true, false, false, false, false, false, false, true, false, false, false, false, false, false, false, true, false, false, true, false, true, false, false, false, true, false, false, false, false, false, false, false, false, false, false, false, false, false, false, false, false, false, false, false, false, false, true, false, false, false, false, false, false, false, true, false, false, false, false, false, false, false, false, false, false, false, false, false, false, false, false, false, true, false, false, false, false, false, false, false, false, false, false, false, false, false, false, false, false, false, false, false, false, false, false, false, false, false, false, false, false, false, false, false, false, false, false, false, false, false, false, false, false, false, false, false, false, false, false, false, false, false, false, false, false, false, false, false, false, false, false, false, false, false, false, false, false]
def pm_hhs : List (List (Nat × Nat × Nat × Nat)) := [[], [], [], [], [], [], [], [], [], [], [], [], [], [], [], [], [], [], [], [], [], [], [], [], [], [], [], [], [], [], [], [], [], [], [], [], [], [], [], [], [], [], [], [], [], [], [], [], [], [], [], [], [], [], [], [], [], [], [], [], [], [], [], [], [], [], [], [], [], [], [], [], [], [], [], [], [], [], [], [], [], [], [], [], [], [], [], [], [], [], [], [], [], [], [], [], [], [], [], [], [], [], [], [], [], [], [], [], [], [], [], [], [], [], [], [], [], [], [], [], [], [], [], [], [], [], [], [(0, 12, 15, 13), (0, 12, 19, 15)], [(0, 9, 12, 21)], [(0, 9, 12, 13)], [(0, 16, 19, 13)], [(0, 17, 20, 13)], [(0, 17, 20, 13)], [(0, 10, 13, 13)], [(0, 10, 13, 21)], [(0, 10, 13, 21)], []]
def pm_hns : List (List (Nat × Nat × Nat × Nat × Nat × Nat)) := [[], [], [], [], [], [], [], [], [], [], [], [], [], [], [], [], [], [], [], [], [], [], [], [], [], [], [], [], [], [], [], [], [], [], [], [], [], [], [], [], [], [], [], [], [], [], [], [], [], [], [], [], [], [], [], [], [], [], [], [], [], [], [], [], [], [], [], [], [], [], [], [], [], [], [], [], [], [], [], [], [], [], [], [], [], [], [], [], [], [], [], [], [], [], [], [], [], [], [], [], [], [], [], [], [], [], [], [], [], [], [], [], [], [], [], [], [], [], [], [], [], [], [], [], [], [], [], [(0, 12, 15, 1, 5, 17), (0, 12, 19, 2, 5, 21)], [(0, 9, 12, 3, 3, 13)], [(0, 9, 12, 1, 3, 13)], [(0, 16, 19, 1, 3, 20)], [(0, 17, 20, 1, 4, 22)], [(0, 17, 20, 1, 4, 22)], [(0, 10, 13, 1, 4, 15)], [(0, 10, 13, 3, 4, 15)], [(0, 10, 13, 3, 4, 15)], []]
def pm_tb (i : Nat) : List pm_R := pm_tbs.getD i []
def pm_y (i : Nat) : MethodName := pm_ys.getD i yL_law
def pm_b (i : Nat) : ByteArray := pm_bs.getD i cL_law
def pm_nL (i : Nat) : Nat := pm_nLs.getD i 0
def pm_rty (i : Nat) : Option FieldType := pm_rets.getD i none
def pm_rt (i : Nat) : Nat := pm_rts.getD i 0
def pm_np (i : Nat) : Nat := pm_nps.getD i 0
def pm_mc (i : Nat) : Nat := pm_mcs.getD i 0
def pm_rk (i : Nat) : Nat := pm_rks.getD i 0
def pm_own (i : Nat) : String := pm_owns.getD i RL
def pm_ini (i : Nat) : Bool := pm_inis.getD i false
def pm_hh (i : Nat) : List (Nat × Nat × Nat × Nat) := pm_hhs.getD i []
def pm_hn (i : Nat) : List (Nat × Nat × Nat × Nat × Nat × Nat) := pm_hns.getD i []
def pm_at (i pc : Nat) : Option (Instr × Nat × List Nat) := ((pm_tb i).find? (fun r => r.1 == pc)).map (fun r => r.2)

/-- the words of a call -/
def pm_need2 (own : String) (ins : Instr) (res : List Nat) : List Cond := match ins, res with
  | .invokevirtual i, [j, 0] => [.methodLink own i (pm_y j), .instanceMethod (pm_y j), .selects (pm_y j).cls (pm_y j) (pm_y j), .initialized (pm_y j).cls, .code (pm_y j) (pm_b j) (pm_nL j) (pm_rty j)]
  | .invokespecial i, [j, 2] => [.methodLink own i (pm_y j), .instanceMethod (pm_y j), .initialized (pm_y j).cls, .code (pm_y j) (pm_b j) (pm_nL j) none]
  | .invokespecial _, [j, 3] => [.instanceMethod (pm_y j), .initialized (pm_y j).cls, .code (pm_y j) (pm_b j) (pm_nL j) none]
  | .invokestatic i, [j, 4] => [.methodLink own i (pm_y j), .static (pm_y j), .initialized (pm_y j).cls, .code (pm_y j) (pm_b j) (pm_nL j) (pm_rty j)]
  | .invokestatic _, [j, 5] => [.static (pm_y j), .initialized (pm_y j).cls, .code (pm_y j) (pm_b j) (pm_nL j) (pm_rty j)]
  | .invokestatic i, [j, 9] => [.methodLink own i (pm_y j), .static (pm_y j), .initialized (pm_y j).cls, .codeWith (pm_y j) (pm_b j) (pm_nL j) (pm_rty j) (pm_hh j)]
  | _, _ => []
def pm_needN2 (own : String) (ins : Instr) (res : List Nat) : List Cond := match ins, res with
  | .invokespecial i, [j, 3] => [.methodLinkNest own i (pm_y j) RX7]
  | .invokestatic i, [j, 5] => [.methodLinkNest own i (pm_y j) RX7]
  | _, _ => []
def pm_all (own : String) (r : pm_R) : List Cond := pm_need own r.2.1 r.2.2.2 ++ pm_need2 own r.2.1 r.2.2.2
def pm_allN (own : String) (r : pm_R) : List Cond := pm_needN own r.2.1 r.2.2.2 ++ pm_needN2 own r.2.1 r.2.2.2
/-- what a call's row must be -/
def pm_ckj (r : pm_R) : Bool := match r.2.1, r.2.2.2 with
  | .invokevirtual _, [j, kd] => kd == 0 && (pm_hh j).isEmpty && decide (pm_nL j ≤ 19) && decide (vwCl[pm_mc j]?.map (fun q => q.1) = some (pm_y j).cls) && decide ((parseMethodDescriptor (pm_y j).desc).map (fun d => d.parameters.length) = some (pm_np j)) && plainName (pm_y j).cls
  | .invokespecial _, [j, kd] => kd == 6 || ((kd == 2 || kd == 3) && (pm_hh j).isEmpty && decide (pm_nL j ≤ 23) && pm_ini j && decide (pm_rty j = none) && decide ((pm_y j).name = "<init>") && decide ((parseMethodDescriptor (pm_y j).desc).map (fun d => d.parameters.length) = some (pm_np j)) && plainName (pm_y j).cls)
  | .invokestatic _, [j, kd] => kd == 7 || kd == 8 || ((kd == 4 || kd == 5 || kd == 9) && ((kd == 9) != (pm_hh j).isEmpty) && decide (pm_nL j ≤ 23) && decide ((parseMethodDescriptor (pm_y j).desc).map (fun d => d.parameters.length) = some (pm_np j)) && plainName (pm_y j).cls)
  | _, _ => true
