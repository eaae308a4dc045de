/-! the tables' rows name words that the Statement has -/
set_option maxRecDepth 100000 in
set_option maxHeartbeats 4000000 in
theorem tn_X0_init : tb_X0_init.flatMap (pm_all (RX0)) = [107, 79, 80, 108, 112, 113, 115, 110, 111].filterMap (fun (i : Nat) => lw_tbl[i]?) ∧ (tb_X0_init.flatMap (pm_all (RX0))).all goodWord = true := ⟨rfl, by decide +kernel⟩
set_option maxRecDepth 100000 in
set_option maxHeartbeats 4000000 in
theorem tm_X0_init : tb_X0_init.flatMap (pm_allN (RX0)) = [].filterMap (fun (i : Nat) => lw_tbl[i]?) ∧ tb_X0_init.all (fun r => pm_chk RX0 true r.2.1 r.2.2.1 r.2.2.2 && pm_ckj r) = true := ⟨rfl, by decide +kernel⟩
set_option maxRecDepth 100000 in
set_option maxHeartbeats 4000000 in
theorem tn_X0_find : tb_X0_find.flatMap (pm_all (RX0)) = [113, 110].filterMap (fun (i : Nat) => lw_tbl[i]?) ∧ (tb_X0_find.flatMap (pm_all (RX0))).all goodWord = true := ⟨rfl, by decide +kernel⟩
set_option maxRecDepth 100000 in
set_option maxHeartbeats 4000000 in
theorem tm_X0_find : tb_X0_find.flatMap (pm_allN (RX0)) = [].filterMap (fun (i : Nat) => lw_tbl[i]?) ∧ tb_X0_find.all (fun r => pm_chk RX0 false r.2.1 r.2.2.1 r.2.2.2 && pm_ckj r) = true := ⟨rfl, by decide +kernel⟩
set_option maxRecDepth 100000 in
set_option maxHeartbeats 4000000 in
theorem tn_X0_begin : tb_X0_begin.flatMap (pm_all (RX0)) = [113, 113, 110, 113, 113, 111, 115, 273, 55, 274, 387, 55, 388, 617, 340, 341, 56, 342].filterMap (fun (i : Nat) => lw_tbl[i]?) ∧ (tb_X0_begin.flatMap (pm_all (RX0))).all goodWord = true := ⟨rfl, by decide +kernel⟩
set_option maxRecDepth 100000 in
set_option maxHeartbeats 4000000 in
theorem tm_X0_begin : tb_X0_begin.flatMap (pm_allN (RX0)) = [615, 616].filterMap (fun (i : Nat) => lw_tbl[i]?) ∧ tb_X0_begin.all (fun r => pm_chk RX0 false r.2.1 r.2.2.1 r.2.2.2 && pm_ckj r) = true := ⟨rfl, by decide +kernel⟩
set_option maxRecDepth 100000 in
set_option maxHeartbeats 4000000 in
theorem tn_X0_tryAgain : tb_X0_tryAgain.flatMap (pm_all (RX0)) = [238, 239, 240, 66, 241, 111, 387, 55, 388, 647, 370, 371, 56, 372, 111, 108, 287, 67, 648, 296, 67, 297, 647, 370, 371, 56, 372].filterMap (fun (i : Nat) => lw_tbl[i]?) ∧ (tb_X0_tryAgain.flatMap (pm_all (RX0))).all goodWord = true := ⟨rfl, by decide +kernel⟩
set_option maxRecDepth 100000 in
set_option maxHeartbeats 4000000 in
theorem tm_X0_tryAgain : tb_X0_tryAgain.flatMap (pm_allN (RX0)) = [591, 616, 589, 306, 314, 318].filterMap (fun (i : Nat) => lw_tbl[i]?) ∧ tb_X0_tryAgain.all (fun r => pm_chk RX0 false r.2.1 r.2.2.1 r.2.2.2 && pm_ckj r) = true := ⟨rfl, by decide +kernel⟩
set_option maxRecDepth 100000 in
set_option maxHeartbeats 4000000 in
theorem tn_X0_take : tb_X0_take.flatMap (pm_all (RX0)) = [100, 55, 101, 115, 223, 224, 70, 225, 115, 226, 227, 228, 57, 229, 230, 231, 232, 66, 233, 234, 236, 1, 57, 237, 112, 113, 110, 234, 236, 1, 57, 237].filterMap (fun (i : Nat) => lw_tbl[i]?) ∧ (tb_X0_take.flatMap (pm_all (RX0))).all goodWord = true := ⟨rfl, by decide +kernel⟩
set_option maxRecDepth 100000 in
set_option maxHeartbeats 4000000 in
theorem tm_X0_take : tb_X0_take.flatMap (pm_allN (RX0)) = [222, 302, 306, 311, 302].filterMap (fun (i : Nat) => lw_tbl[i]?) ∧ tb_X0_take.all (fun r => pm_chk RX0 false r.2.1 r.2.2.1 r.2.2.2 && pm_ckj r) = true := ⟨rfl, by decide +kernel⟩
set_option maxRecDepth 100000 in
set_option maxHeartbeats 4000000 in
theorem tn_X0_lookAt : tb_X0_lookAt.flatMap (pm_all (RX0)) = [238, 239, 240, 66, 241, 255, 256, 257, 66, 258, 259, 261, 3, 57, 262, 255, 256, 257, 66, 258].filterMap (fun (i : Nat) => lw_tbl[i]?) ∧ (tb_X0_lookAt.flatMap (pm_all (RX0))).all goodWord = true := ⟨rfl, by decide +kernel⟩
set_option maxRecDepth 100000 in
set_option maxHeartbeats 4000000 in
theorem tm_X0_lookAt : tb_X0_lookAt.flatMap (pm_allN (RX0)) = [591, 589, 589, 589].filterMap (fun (i : Nat) => lw_tbl[i]?) ∧ tb_X0_lookAt.all (fun r => pm_chk RX0 false r.2.1 r.2.2.1 r.2.2.2 && pm_ckj r) = true := ⟨rfl, by decide +kernel⟩
set_option maxRecDepth 100000 in
set_option maxHeartbeats 4000000 in
theorem tn_X0_countAcks : tb_X0_countAcks.flatMap (pm_all (RX0)) = [112, 112, 263, 252, 253, 67, 254].filterMap (fun (i : Nat) => lw_tbl[i]?) ∧ (tb_X0_countAcks.flatMap (pm_all (RX0))).all goodWord = true := ⟨rfl, by decide +kernel⟩
set_option maxRecDepth 100000 in
set_option maxHeartbeats 4000000 in
theorem tm_X0_countAcks : tb_X0_countAcks.flatMap (pm_allN (RX0)) = [].filterMap (fun (i : Nat) => lw_tbl[i]?) ∧ tb_X0_countAcks.all (fun r => pm_chk RX0 false r.2.1 r.2.2.1 r.2.2.2 && pm_ckj r) = true := ⟨rfl, by decide +kernel⟩
set_option maxRecDepth 100000 in
set_option maxHeartbeats 4000000 in
theorem tn_X1_init : tb_X1_init.flatMap (pm_all (RX1)) = [140, 79, 80, 154, 141, 142, 145].filterMap (fun (i : Nat) => lw_tbl[i]?) ∧ (tb_X1_init.flatMap (pm_all (RX1))).all goodWord = true := ⟨rfl, by decide +kernel⟩
set_option maxRecDepth 100000 in
set_option maxHeartbeats 4000000 in
theorem tm_X1_init : tb_X1_init.flatMap (pm_allN (RX1)) = [].filterMap (fun (i : Nat) => lw_tbl[i]?) ∧ tb_X1_init.all (fun r => pm_chk RX1 true r.2.1 r.2.2.1 r.2.2.2 && pm_ckj r) = true := ⟨rfl, by decide +kernel⟩
set_option maxRecDepth 100000 in
set_option maxHeartbeats 4000000 in
theorem tn_X1_add : tb_X1_add.flatMap (pm_all (RX1)) = [142, 141, 142, 142, 142].filterMap (fun (i : Nat) => lw_tbl[i]?) ∧ (tb_X1_add.flatMap (pm_all (RX1))).all goodWord = true := ⟨rfl, by decide +kernel⟩
set_option maxRecDepth 100000 in
set_option maxHeartbeats 4000000 in
theorem tm_X1_add : tb_X1_add.flatMap (pm_allN (RX1)) = [].filterMap (fun (i : Nat) => lw_tbl[i]?) ∧ tb_X1_add.all (fun r => pm_chk RX1 false r.2.1 r.2.2.1 r.2.2.2 && pm_ckj r) = true := ⟨rfl, by decide +kernel⟩
set_option maxRecDepth 100000 in
set_option maxHeartbeats 4000000 in
theorem tn_X1_at : tb_X1_at.flatMap (pm_all (RX1)) = [142, 141].filterMap (fun (i : Nat) => lw_tbl[i]?) ∧ (tb_X1_at.flatMap (pm_all (RX1))).all goodWord = true := ⟨rfl, by decide +kernel⟩
set_option maxRecDepth 100000 in
set_option maxHeartbeats 4000000 in
theorem tm_X1_at : tb_X1_at.flatMap (pm_allN (RX1)) = [].filterMap (fun (i : Nat) => lw_tbl[i]?) ∧ tb_X1_at.all (fun r => pm_chk RX1 false r.2.1 r.2.2.1 r.2.2.2 && pm_ckj r) = true := ⟨rfl, by decide +kernel⟩
set_option maxRecDepth 100000 in
set_option maxHeartbeats 4000000 in
theorem tn_X1_placeOf : tb_X1_placeOf.flatMap (pm_all (RX1)) = [142, 141].filterMap (fun (i : Nat) => lw_tbl[i]?) ∧ (tb_X1_placeOf.flatMap (pm_all (RX1))).all goodWord = true := ⟨rfl, by decide +kernel⟩
set_option maxRecDepth 100000 in
set_option maxHeartbeats 4000000 in
theorem tm_X1_placeOf : tb_X1_placeOf.flatMap (pm_allN (RX1)) = [].filterMap (fun (i : Nat) => lw_tbl[i]?) ∧ tb_X1_placeOf.all (fun r => pm_chk RX1 false r.2.1 r.2.2.1 r.2.2.2 && pm_ckj r) = true := ⟨rfl, by decide +kernel⟩
set_option maxRecDepth 100000 in
set_option maxHeartbeats 4000000 in
theorem tn_X1_digest : tb_X1_digest.flatMap (pm_all (RX1)) = [142, 141, 292, 293, 59, 294].filterMap (fun (i : Nat) => lw_tbl[i]?) ∧ (tb_X1_digest.flatMap (pm_all (RX1))).all goodWord = true := ⟨rfl, by decide +kernel⟩
set_option maxRecDepth 100000 in
set_option maxHeartbeats 4000000 in
theorem tm_X1_digest : tb_X1_digest.flatMap (pm_allN (RX1)) = [].filterMap (fun (i : Nat) => lw_tbl[i]?) ∧ tb_X1_digest.all (fun r => pm_chk RX1 false r.2.1 r.2.2.1 r.2.2.2 && pm_ckj r) = true := ⟨rfl, by decide +kernel⟩
set_option maxRecDepth 100000 in
set_option maxHeartbeats 4000000 in
theorem tn_X1_beginsWith : tb_X1_beginsWith.flatMap (pm_all (RX1)) = [142, 142, 142, 141, 141].filterMap (fun (i : Nat) => lw_tbl[i]?) ∧ (tb_X1_beginsWith.flatMap (pm_all (RX1))).all goodWord = true := ⟨rfl, by decide +kernel⟩
set_option maxRecDepth 100000 in
set_option maxHeartbeats 4000000 in
theorem tm_X1_beginsWith : tb_X1_beginsWith.flatMap (pm_allN (RX1)) = [].filterMap (fun (i : Nat) => lw_tbl[i]?) ∧ tb_X1_beginsWith.all (fun r => pm_chk RX1 false r.2.1 r.2.2.1 r.2.2.2 && pm_ckj r) = true := ⟨rfl, by decide +kernel⟩
set_option maxRecDepth 100000 in
set_option maxHeartbeats 4000000 in
theorem tn_X1_copy : tb_X1_copy.flatMap (pm_all (RX1)) = [424, 136, 59, 425, 138, 59, 139, 141, 141, 142, 426, 428, 427, 72, 142, 142, 145, 145].filterMap (fun (i : Nat) => lw_tbl[i]?) ∧ (tb_X1_copy.flatMap (pm_all (RX1))).all goodWord = true := ⟨rfl, by decide +kernel⟩
set_option maxRecDepth 100000 in
set_option maxHeartbeats 4000000 in
theorem tm_X1_copy : tb_X1_copy.flatMap (pm_allN (RX1)) = [].filterMap (fun (i : Nat) => lw_tbl[i]?) ∧ tb_X1_copy.all (fun r => pm_chk RX1 false r.2.1 r.2.2.1 r.2.2.2 && pm_ckj r) = true := ⟨rfl, by decide +kernel⟩
set_option maxRecDepth 100000 in
set_option maxHeartbeats 4000000 in
theorem tn_X1_digestWith : tb_X1_digestWith.flatMap (pm_all (RX1)) = [].filterMap (fun (i : Nat) => lw_tbl[i]?) ∧ (tb_X1_digestWith.flatMap (pm_all (RX1))).all goodWord = true := ⟨rfl, by decide +kernel⟩
set_option maxRecDepth 100000 in
set_option maxHeartbeats 4000000 in
theorem tm_X1_digestWith : tb_X1_digestWith.flatMap (pm_allN (RX1)) = [].filterMap (fun (i : Nat) => lw_tbl[i]?) ∧ tb_X1_digestWith.all (fun r => pm_chk RX1 false r.2.1 r.2.2.1 r.2.2.2 && pm_ckj r) = true := ⟨rfl, by decide +kernel⟩
set_option maxRecDepth 100000 in
set_option maxHeartbeats 4000000 in
theorem tn_X2_init : tb_X2_init.flatMap (pm_all (RX2)) = [298, 79, 80, 299, 303, 308, 312, 317, 320, 322].filterMap (fun (i : Nat) => lw_tbl[i]?) ∧ (tb_X2_init.flatMap (pm_all (RX2))).all goodWord = true := ⟨rfl, by decide +kernel⟩
set_option maxRecDepth 100000 in
set_option maxHeartbeats 4000000 in
theorem tm_X2_init : tb_X2_init.flatMap (pm_allN (RX2)) = [].filterMap (fun (i : Nat) => lw_tbl[i]?) ∧ tb_X2_init.all (fun r => pm_chk RX2 true r.2.1 r.2.2.1 r.2.2.2 && pm_ckj r) = true := ⟨rfl, by decide +kernel⟩
set_option maxRecDepth 100000 in
set_option maxHeartbeats 4000000 in
theorem tn_X2_samePoint : tb_X2_samePoint.flatMap (pm_all (RX2)) = [303, 303, 312, 312, 317, 317].filterMap (fun (i : Nat) => lw_tbl[i]?) ∧ (tb_X2_samePoint.flatMap (pm_all (RX2))).all goodWord = true := ⟨rfl, by decide +kernel⟩
set_option maxRecDepth 100000 in
set_option maxHeartbeats 4000000 in
theorem tm_X2_samePoint : tb_X2_samePoint.flatMap (pm_allN (RX2)) = [].filterMap (fun (i : Nat) => lw_tbl[i]?) ∧ tb_X2_samePoint.all (fun r => pm_chk RX2 false r.2.1 r.2.2.1 r.2.2.2 && pm_ckj r) = true := ⟨rfl, by decide +kernel⟩
set_option maxRecDepth 100000 in
set_option maxHeartbeats 4000000 in
theorem tn_X2_sameReply : tb_X2_sameReply.flatMap (pm_all (RX2)) = [251, 252, 253, 67, 254, 308, 308, 320, 320].filterMap (fun (i : Nat) => lw_tbl[i]?) ∧ (tb_X2_sameReply.flatMap (pm_all (RX2))).all goodWord = true := ⟨rfl, by decide +kernel⟩
set_option maxRecDepth 100000 in
set_option maxHeartbeats 4000000 in
theorem tm_X2_sameReply : tb_X2_sameReply.flatMap (pm_allN (RX2)) = [].filterMap (fun (i : Nat) => lw_tbl[i]?) ∧ tb_X2_sameReply.all (fun r => pm_chk RX2 false r.2.1 r.2.2.1 r.2.2.2 && pm_ckj r) = true := ⟨rfl, by decide +kernel⟩
set_option maxRecDepth 100000 in
set_option maxHeartbeats 4000000 in
theorem tn_X3_init : tb_X3_init.flatMap (pm_all (RX3)) = [347, 79, 80, 354, 348, 350, 352].filterMap (fun (i : Nat) => lw_tbl[i]?) ∧ (tb_X3_init.flatMap (pm_all (RX3))).all goodWord = true := ⟨rfl, by decide +kernel⟩
set_option maxRecDepth 100000 in
set_option maxHeartbeats 4000000 in
theorem tm_X3_init : tb_X3_init.flatMap (pm_allN (RX3)) = [].filterMap (fun (i : Nat) => lw_tbl[i]?) ∧ tb_X3_init.all (fun r => pm_chk RX3 true r.2.1 r.2.2.1 r.2.2.2 && pm_ckj r) = true := ⟨rfl, by decide +kernel⟩
set_option maxRecDepth 100000 in
set_option maxHeartbeats 4000000 in
theorem tn_X3_tell : tb_X3_tell.flatMap (pm_all (RX3)) = [352, 348, 350, 352, 352, 352, 354].filterMap (fun (i : Nat) => lw_tbl[i]?) ∧ (tb_X3_tell.flatMap (pm_all (RX3))).all goodWord = true := ⟨rfl, by decide +kernel⟩
set_option maxRecDepth 100000 in
set_option maxHeartbeats 4000000 in
theorem tm_X3_tell : tb_X3_tell.flatMap (pm_allN (RX3)) = [300, 304, 309, 313].filterMap (fun (i : Nat) => lw_tbl[i]?) ∧ tb_X3_tell.all (fun r => pm_chk RX3 false r.2.1 r.2.2.1 r.2.2.2 && pm_ckj r) = true := ⟨rfl, by decide +kernel⟩
set_option maxRecDepth 100000 in
set_option maxHeartbeats 4000000 in
theorem tn_X4_init : tb_X4_init.flatMap (pm_all (RX4)) = [88, 79, 80, 89, 91, 92].filterMap (fun (i : Nat) => lw_tbl[i]?) ∧ (tb_X4_init.flatMap (pm_all (RX4))).all goodWord = true := ⟨rfl, by decide +kernel⟩
set_option maxRecDepth 100000 in
set_option maxHeartbeats 4000000 in
theorem tm_X4_init : tb_X4_init.flatMap (pm_allN (RX4)) = [].filterMap (fun (i : Nat) => lw_tbl[i]?) ∧ tb_X4_init.all (fun r => pm_chk RX4 true r.2.1 r.2.2.1 r.2.2.2 && pm_ckj r) = true := ⟨rfl, by decide +kernel⟩
set_option maxRecDepth 100000 in
set_option maxHeartbeats 4000000 in
theorem tn_X4_send : tb_X4_send.flatMap (pm_all (RX4)) = [92, 91, 92, 89, 343, 68, 344, 345, 68, 346, 92, 92].filterMap (fun (i : Nat) => lw_tbl[i]?) ∧ (tb_X4_send.flatMap (pm_all (RX4))).all goodWord = true := ⟨rfl, by decide +kernel⟩
set_option maxRecDepth 100000 in
set_option maxHeartbeats 4000000 in
theorem tm_X4_send : tb_X4_send.flatMap (pm_allN (RX4)) = [].filterMap (fun (i : Nat) => lw_tbl[i]?) ∧ tb_X4_send.all (fun r => pm_chk RX4 false r.2.1 r.2.2.1 r.2.2.2 && pm_ckj r) = true := ⟨rfl, by decide +kernel⟩
set_option maxRecDepth 100000 in
set_option maxHeartbeats 4000000 in
theorem tn_X4_sendToAll : tb_X4_sendToAll.flatMap (pm_all (RX4)) = [373, 340, 341, 56, 342].filterMap (fun (i : Nat) => lw_tbl[i]?) ∧ (tb_X4_sendToAll.flatMap (pm_all (RX4))).all goodWord = true := ⟨rfl, by decide +kernel⟩
set_option maxRecDepth 100000 in
set_option maxHeartbeats 4000000 in
theorem tm_X4_sendToAll : tb_X4_sendToAll.flatMap (pm_allN (RX4)) = [].filterMap (fun (i : Nat) => lw_tbl[i]?) ∧ tb_X4_sendToAll.all (fun r => pm_chk RX4 false r.2.1 r.2.2.1 r.2.2.2 && pm_ckj r) = true := ⟨rfl, by decide +kernel⟩
set_option maxRecDepth 100000 in
set_option maxHeartbeats 4000000 in
theorem tn_X4_find : tb_X4_find.flatMap (pm_all (RX4)) = [92, 91].filterMap (fun (i : Nat) => lw_tbl[i]?) ∧ (tb_X4_find.flatMap (pm_all (RX4))).all goodWord = true := ⟨rfl, by decide +kernel⟩
set_option maxRecDepth 100000 in
set_option maxHeartbeats 4000000 in
theorem tm_X4_find : tb_X4_find.flatMap (pm_allN (RX4)) = [].filterMap (fun (i : Nat) => lw_tbl[i]?) ∧ tb_X4_find.all (fun r => pm_chk RX4 false r.2.1 r.2.2.1 r.2.2.2 && pm_ckj r) = true := ⟨rfl, by decide +kernel⟩
set_option maxRecDepth 100000 in
set_option maxHeartbeats 4000000 in
theorem tn_X5_init : tb_X5_init.flatMap (pm_all (RX5)) = [134, 79, 80, 135, 136, 59, 138, 59, 139, 159, 154, 161, 154, 163, 155, 164, 165, 167, 168, 169, 156, 157, 158].filterMap (fun (i : Nat) => lw_tbl[i]?) ∧ (tb_X5_init.flatMap (pm_all (RX5))).all goodWord = true := ⟨rfl, by decide +kernel⟩
set_option maxRecDepth 100000 in
set_option maxHeartbeats 4000000 in
theorem tm_X5_init : tb_X5_init.flatMap (pm_allN (RX5)) = [137].filterMap (fun (i : Nat) => lw_tbl[i]?) ∧ tb_X5_init.all (fun r => pm_chk RX5 true r.2.1 r.2.2.1 r.2.2.2 && pm_ckj r) = true := ⟨rfl, by decide +kernel⟩
set_option maxRecDepth 100000 in
set_option maxHeartbeats 4000000 in
theorem tn_X5_tell : tb_X5_tell.flatMap (pm_all (RX5)) = [165, 159, 159, 167, 168, 169, 159, 159, 288, 289, 290, 59, 291].filterMap (fun (i : Nat) => lw_tbl[i]?) ∧ (tb_X5_tell.flatMap (pm_all (RX5))).all goodWord = true := ⟨rfl, by decide +kernel⟩
set_option maxRecDepth 100000 in
set_option maxHeartbeats 4000000 in
theorem tm_X5_tell : tb_X5_tell.flatMap (pm_allN (RX5)) = [143, 146, 143].filterMap (fun (i : Nat) => lw_tbl[i]?) ∧ tb_X5_tell.all (fun r => pm_chk RX5 false r.2.1 r.2.2.1 r.2.2.2 && pm_ckj r) = true := ⟨rfl, by decide +kernel⟩
set_option maxRecDepth 100000 in
set_option maxHeartbeats 4000000 in
theorem tn_X5_fittingOrder : tb_X5_fittingOrder.flatMap (pm_all (RX5)) = [159, 159, 288, 289, 290, 59, 291, 399, 293, 59, 294, 155, 287, 67, 165, 159, 295, 296, 67, 297].filterMap (fun (i : Nat) => lw_tbl[i]?) ∧ (tb_X5_fittingOrder.flatMap (pm_all (RX5))).all goodWord = true := ⟨rfl, by decide +kernel⟩
set_option maxRecDepth 100000 in
set_option maxHeartbeats 4000000 in
theorem tm_X5_fittingOrder : tb_X5_fittingOrder.flatMap (pm_allN (RX5)) = [143, 143].filterMap (fun (i : Nat) => lw_tbl[i]?) ∧ tb_X5_fittingOrder.all (fun r => pm_chk RX5 false r.2.1 r.2.2.1 r.2.2.2 && pm_ckj r) = true := ⟨rfl, by decide +kernel⟩
set_option maxRecDepth 100000 in
set_option maxHeartbeats 4000000 in
theorem tn_X5_take : tb_X5_take.flatMap (pm_all (RX5)) = [268, 270, 4, 58, 271, 391, 393, 8, 58, 394, 401, 403, 9, 58, 404, 406, 408, 10, 58, 409, 429, 431, 12, 58, 432, 434, 436, 13, 58, 437, 438, 440, 14, 58, 441, 167, 165, 273, 55, 274, 156, 442, 444, 15, 58, 445, 450, 452, 17, 58, 453, 158, 156, 155, 287, 67, 165, 295, 296, 67, 297, 369, 370, 371, 56, 372, 165, 438, 440, 14, 58, 441].filterMap (fun (i : Nat) => lw_tbl[i]?) ∧ (tb_X5_take.flatMap (pm_all (RX5))).all goodWord = true := ⟨rfl, by decide +kernel⟩
set_option maxRecDepth 100000 in
set_option maxHeartbeats 4000000 in
theorem tm_X5_take : tb_X5_take.flatMap (pm_allN (RX5)) = [301, 310, 307, 323, 307, 307, 323, 272, 143].filterMap (fun (i : Nat) => lw_tbl[i]?) ∧ tb_X5_take.all (fun r => pm_chk RX5 false r.2.1 r.2.2.1 r.2.2.2 && pm_ckj r) = true := ⟨rfl, by decide +kernel⟩
set_option maxRecDepth 100000 in
set_option maxHeartbeats 4000000 in
theorem tn_X5_endPatience : tb_X5_endPatience.flatMap (pm_all (RX5)) = [167, 168, 155, 287, 67, 165, 295, 296, 67, 297, 158, 156, 369, 370, 371, 56, 372, 156, 669, 265, 266, 58, 267].filterMap (fun (i : Nat) => lw_tbl[i]?) ∧ (tb_X5_endPatience.flatMap (pm_all (RX5))).all goodWord = true := ⟨rfl, by decide +kernel⟩
set_option maxRecDepth 100000 in
set_option maxHeartbeats 4000000 in
theorem tm_X5_endPatience : tb_X5_endPatience.flatMap (pm_allN (RX5)) = [].filterMap (fun (i : Nat) => lw_tbl[i]?) ∧ tb_X5_endPatience.all (fun r => pm_chk RX5 false r.2.1 r.2.2.1 r.2.2.2 && pm_ckj r) = true := ⟨rfl, by decide +kernel⟩
set_option maxRecDepth 100000 in
set_option maxHeartbeats 4000000 in
theorem tn_X5_takeAsk : tb_X5_takeAsk.flatMap (pm_all (RX5)) = [167, 165, 273, 55, 274, 159, 275, 276, 277, 59, 278, 279, 281, 5, 58, 282, 156, 158, 156, 365, 367, 6, 58, 368, 369, 370, 371, 56, 372, 156, 374, 376, 7, 58, 377, 158, 156, 159, 365, 367, 6, 58, 368, 369, 370, 371, 56, 372, 159, 279, 281, 5, 58, 282, 168, 168, 158, 156, 387, 55, 388, 339, 340, 341, 56, 342].filterMap (fun (i : Nat) => lw_tbl[i]?) ∧ (tb_X5_takeAsk.flatMap (pm_all (RX5))).all goodWord = true := ⟨rfl, by decide +kernel⟩
set_option maxRecDepth 100000 in
set_option maxHeartbeats 4000000 in
theorem tm_X5_takeAsk : tb_X5_takeAsk.flatMap (pm_allN (RX5)) = [272, 143, 143, 386].filterMap (fun (i : Nat) => lw_tbl[i]?) ∧ tb_X5_takeAsk.all (fun r => pm_chk RX5 false r.2.1 r.2.2.1 r.2.2.2 && pm_ckj r) = true := ⟨rfl, by decide +kernel⟩
set_option maxRecDepth 100000 in
set_option maxHeartbeats 4000000 in
theorem tn_X5_takeOrder : tb_X5_takeOrder.flatMap (pm_all (RX5)) = [167, 165, 273, 55, 274, 165, 395, 396, 397, 58, 398, 400, 252, 253, 67, 254, 159, 275, 276, 277, 59, 278, 374, 376, 7, 58, 377, 159, 279, 281, 5, 58, 282].filterMap (fun (i : Nat) => lw_tbl[i]?) ∧ (tb_X5_takeOrder.flatMap (pm_all (RX5))).all goodWord = true := ⟨rfl, by decide +kernel⟩
set_option maxRecDepth 100000 in
set_option maxHeartbeats 4000000 in
theorem tm_X5_takeOrder : tb_X5_takeOrder.flatMap (pm_allN (RX5)) = [272, 307, 310, 310, 310, 143].filterMap (fun (i : Nat) => lw_tbl[i]?) ∧ tb_X5_takeOrder.all (fun r => pm_chk RX5 false r.2.1 r.2.2.1 r.2.2.2 && pm_ckj r) = true := ⟨rfl, by decide +kernel⟩
set_option maxRecDepth 100000 in
set_option maxHeartbeats 4000000 in
theorem tn_X5_takeProof : tb_X5_takeProof.flatMap (pm_all (RX5)) = [167, 165, 159, 159, 288, 289, 290, 59, 291, 159, 159, 405, 224, 70, 225, 158, 156, 155, 287, 67, 165, 295, 296, 67, 297, 339, 340, 341, 56, 342].filterMap (fun (i : Nat) => lw_tbl[i]?) ∧ (tb_X5_takeProof.flatMap (pm_all (RX5))).all goodWord = true := ⟨rfl, by decide +kernel⟩
set_option maxRecDepth 100000 in
set_option maxHeartbeats 4000000 in
theorem tm_X5_takeProof : tb_X5_takeProof.flatMap (pm_allN (RX5)) = [307, 143, 316, 316, 319, 146, 316, 146, 316, 319].filterMap (fun (i : Nat) => lw_tbl[i]?) ∧ tb_X5_takeProof.all (fun r => pm_chk RX5 false r.2.1 r.2.2.1 r.2.2.2 && pm_ckj r) = true := ⟨rfl, by decide +kernel⟩
set_option maxRecDepth 100000 in
set_option maxHeartbeats 4000000 in
theorem tn_X5_takeHate : tb_X5_takeHate.flatMap (pm_all (RX5)) = [165, 169, 169, 169, 410, 411, 71, 412, 416, 418, 11, 58, 419].filterMap (fun (i : Nat) => lw_tbl[i]?) ∧ (tb_X5_takeHate.flatMap (pm_all (RX5))).all goodWord = true := ⟨rfl, by decide +kernel⟩
set_option maxRecDepth 100000 in
set_option maxHeartbeats 4000000 in
theorem tm_X5_takeHate : tb_X5_takeHate.flatMap (pm_allN (RX5)) = [].filterMap (fun (i : Nat) => lw_tbl[i]?) ∧ tb_X5_takeHate.all (fun r => pm_chk RX5 false r.2.1 r.2.2.1 r.2.2.2 && pm_ckj r) = true := ⟨rfl, by decide +kernel⟩
set_option maxRecDepth 100000 in
set_option maxHeartbeats 4000000 in
theorem tn_X5_changeView : tb_X5_changeView.flatMap (pm_all (RX5)) = [165, 165, 169, 167, 155, 287, 67, 165, 159, 159, 420, 421, 422, 59, 423, 295, 296, 67, 297, 165, 273, 55, 274, 156, 156, 429, 431, 12, 58, 432, 158, 156, 165, 273, 55, 274, 339, 340, 341, 56, 342].filterMap (fun (i : Nat) => lw_tbl[i]?) ∧ (tb_X5_changeView.flatMap (pm_all (RX5))).all goodWord = true := ⟨rfl, by decide +kernel⟩
set_option maxRecDepth 100000 in
set_option maxHeartbeats 4000000 in
theorem tm_X5_changeView : tb_X5_changeView.flatMap (pm_allN (RX5)) = [143, 272, 272].filterMap (fun (i : Nat) => lw_tbl[i]?) ∧ tb_X5_changeView.all (fun r => pm_chk RX5 false r.2.1 r.2.2.1 r.2.2.2 && pm_ckj r) = true := ⟨rfl, by decide +kernel⟩
set_option maxRecDepth 100000 in
set_option maxHeartbeats 4000000 in
theorem tn_X5_keepChange : tb_X5_keepChange.flatMap (pm_all (RX5)) = [273, 55, 274, 156, 165, 100, 55, 101, 164].filterMap (fun (i : Nat) => lw_tbl[i]?) ∧ (tb_X5_keepChange.flatMap (pm_all (RX5))).all goodWord = true := ⟨rfl, by decide +kernel⟩
set_option maxRecDepth 100000 in
set_option maxHeartbeats 4000000 in
theorem tm_X5_keepChange : tb_X5_keepChange.flatMap (pm_allN (RX5)) = [307, 272, 307, 433].filterMap (fun (i : Nat) => lw_tbl[i]?) ∧ tb_X5_keepChange.all (fun r => pm_chk RX5 false r.2.1 r.2.2.1 r.2.2.2 && pm_ckj r) = true := ⟨rfl, by decide +kernel⟩
set_option maxRecDepth 100000 in
set_option maxHeartbeats 4000000 in
theorem tn_X5_mayTurn : tb_X5_mayTurn.flatMap (pm_all (RX5)) = [273, 55, 274, 165, 165, 167].filterMap (fun (i : Nat) => lw_tbl[i]?) ∧ (tb_X5_mayTurn.flatMap (pm_all (RX5))).all goodWord = true := ⟨rfl, by decide +kernel⟩
set_option maxRecDepth 100000 in
set_option maxHeartbeats 4000000 in
theorem tm_X5_mayTurn : tb_X5_mayTurn.flatMap (pm_allN (RX5)) = [272].filterMap (fun (i : Nat) => lw_tbl[i]?) ∧ tb_X5_mayTurn.all (fun r => pm_chk RX5 false r.2.1 r.2.2.1 r.2.2.2 && pm_ckj r) = true := ⟨rfl, by decide +kernel⟩
set_option maxRecDepth 100000 in
set_option maxHeartbeats 4000000 in
theorem tn_X5_countChanges : tb_X5_countChanges.flatMap (pm_all (RX5)) = [446, 448, 16, 58, 449].filterMap (fun (i : Nat) => lw_tbl[i]?) ∧ (tb_X5_countChanges.flatMap (pm_all (RX5))).all goodWord = true := ⟨rfl, by decide +kernel⟩
set_option maxRecDepth 100000 in
set_option maxHeartbeats 4000000 in
theorem tm_X5_countChanges : tb_X5_countChanges.flatMap (pm_allN (RX5)) = [].filterMap (fun (i : Nat) => lw_tbl[i]?) ∧ tb_X5_countChanges.all (fun r => pm_chk RX5 false r.2.1 r.2.2.1 r.2.2.2 && pm_ckj r) = true := ⟨rfl, by decide +kernel⟩
set_option maxRecDepth 100000 in
set_option maxHeartbeats 4000000 in
theorem tn_X5_changedHistory : tb_X5_changedHistory.flatMap (pm_all (RX5)) = [164, 165].filterMap (fun (i : Nat) => lw_tbl[i]?) ∧ (tb_X5_changedHistory.flatMap (pm_all (RX5))).all goodWord = true := ⟨rfl, by decide +kernel⟩
set_option maxRecDepth 100000 in
set_option maxHeartbeats 4000000 in
theorem tm_X5_changedHistory : tb_X5_changedHistory.flatMap (pm_allN (RX5)) = [307, 323].filterMap (fun (i : Nat) => lw_tbl[i]?) ∧ tb_X5_changedHistory.all (fun r => pm_chk RX5 false r.2.1 r.2.2.1 r.2.2.2 && pm_ckj r) = true := ⟨rfl, by decide +kernel⟩
set_option maxRecDepth 100000 in
set_option maxHeartbeats 4000000 in
theorem tn_X5_mergeChanges : tb_X5_mergeChanges.flatMap (pm_all (RX5)) = [135, 136, 59, 138, 59, 139, 454, 456, 18, 58, 457, 283, 284, 285, 59, 286, 382, 383, 384, 59, 385, 458, 460, 19, 58, 461, 382, 383, 384, 59, 385].filterMap (fun (i : Nat) => lw_tbl[i]?) ∧ (tb_X5_mergeChanges.flatMap (pm_all (RX5))).all goodWord = true := ⟨rfl, by decide +kernel⟩
set_option maxRecDepth 100000 in
set_option maxHeartbeats 4000000 in
theorem tm_X5_mergeChanges : tb_X5_mergeChanges.flatMap (pm_allN (RX5)) = [137, 146, 146, 146].filterMap (fun (i : Nat) => lw_tbl[i]?) ∧ tb_X5_mergeChanges.all (fun r => pm_chk RX5 false r.2.1 r.2.2.1 r.2.2.2 && pm_ckj r) = true := ⟨rfl, by decide +kernel⟩
set_option maxRecDepth 100000 in
set_option maxHeartbeats 4000000 in
theorem tn_X5_mostFixed : tb_X5_mostFixed.flatMap (pm_all (RX5)) = [446, 448, 16, 58, 449].filterMap (fun (i : Nat) => lw_tbl[i]?) ∧ (tb_X5_mostFixed.flatMap (pm_all (RX5))).all goodWord = true := ⟨rfl, by decide +kernel⟩
set_option maxRecDepth 100000 in
set_option maxHeartbeats 4000000 in
theorem tm_X5_mostFixed : tb_X5_mostFixed.flatMap (pm_allN (RX5)) = [146, 146].filterMap (fun (i : Nat) => lw_tbl[i]?) ∧ tb_X5_mostFixed.all (fun r => pm_chk RX5 false r.2.1 r.2.2.1 r.2.2.2 && pm_ckj r) = true := ⟨rfl, by decide +kernel⟩
set_option maxRecDepth 100000 in
set_option maxHeartbeats 4000000 in
theorem tn_X5_agreedNext : tb_X5_agreedNext.flatMap (pm_all (RX5)) = [462, 464, 20, 58, 465, 462, 464, 20, 58, 465].filterMap (fun (i : Nat) => lw_tbl[i]?) ∧ (tb_X5_agreedNext.flatMap (pm_all (RX5))).all goodWord = true := ⟨rfl, by decide +kernel⟩
set_option maxRecDepth 100000 in
set_option maxHeartbeats 4000000 in
theorem tm_X5_agreedNext : tb_X5_agreedNext.flatMap (pm_allN (RX5)) = [].filterMap (fun (i : Nat) => lw_tbl[i]?) ∧ tb_X5_agreedNext.all (fun r => pm_chk RX5 false r.2.1 r.2.2.1 r.2.2.2 && pm_ckj r) = true := ⟨rfl, by decide +kernel⟩
set_option maxRecDepth 100000 in
set_option maxHeartbeats 4000000 in
theorem tn_X5_nextAfter : tb_X5_nextAfter.flatMap (pm_all (RX5)) = [446, 448, 16, 58, 449, 466, 467, 468, 59, 469, 283, 284, 285, 59, 286].filterMap (fun (i : Nat) => lw_tbl[i]?) ∧ (tb_X5_nextAfter.flatMap (pm_all (RX5))).all goodWord = true := ⟨rfl, by decide +kernel⟩
set_option maxRecDepth 100000 in
set_option maxHeartbeats 4000000 in
theorem tm_X5_nextAfter : tb_X5_nextAfter.flatMap (pm_allN (RX5)) = [143].filterMap (fun (i : Nat) => lw_tbl[i]?) ∧ tb_X5_nextAfter.all (fun r => pm_chk RX5 false r.2.1 r.2.2.1 r.2.2.2 && pm_ckj r) = true := ⟨rfl, by decide +kernel⟩
set_option maxRecDepth 100000 in
set_option maxHeartbeats 4000000 in
theorem tn_X5_turnTo : tb_X5_turnTo.flatMap (pm_all (RX5)) = [165, 167, 169, 159, 159, 161, 283, 284, 285, 59, 286, 374, 376, 7, 58, 377, 159, 279, 281, 5, 58, 282].filterMap (fun (i : Nat) => lw_tbl[i]?) ∧ (tb_X5_turnTo.flatMap (pm_all (RX5))).all goodWord = true := ⟨rfl, by decide +kernel⟩
set_option maxRecDepth 100000 in
set_option maxHeartbeats 4000000 in
theorem tm_X5_turnTo : tb_X5_turnTo.flatMap (pm_allN (RX5)) = [143, 146, 146, 143, 143].filterMap (fun (i : Nat) => lw_tbl[i]?) ∧ tb_X5_turnTo.all (fun r => pm_chk RX5 false r.2.1 r.2.2.1 r.2.2.2 && pm_ckj r) = true := ⟨rfl, by decide +kernel⟩
set_option maxRecDepth 100000 in
set_option maxHeartbeats 4000000 in
theorem tn_X5_doNext : tb_X5_doNext.flatMap (pm_all (RX5)) = [157, 159, 163, 159, 161, 378, 379, 380, 66, 381, 159, 382, 383, 384, 59, 385, 168, 168].filterMap (fun (i : Nat) => lw_tbl[i]?) ∧ (tb_X5_doNext.flatMap (pm_all (RX5))).all goodWord = true := ⟨rfl, by decide +kernel⟩
set_option maxRecDepth 100000 in
set_option maxHeartbeats 4000000 in
theorem tm_X5_doNext : tb_X5_doNext.flatMap (pm_allN (RX5)) = [143, 143].filterMap (fun (i : Nat) => lw_tbl[i]?) ∧ tb_X5_doNext.all (fun r => pm_chk RX5 false r.2.1 r.2.2.1 r.2.2.2 && pm_ckj r) = true := ⟨rfl, by decide +kernel⟩
set_option maxRecDepth 100000 in
set_option maxHeartbeats 4000000 in
theorem tn_X5_orderOf : tb_X5_orderOf.flatMap (pm_all (RX5)) = [155, 287, 67, 165, 159, 283, 284, 285, 59, 286, 159, 288, 289, 290, 59, 291, 295, 296, 67, 297].filterMap (fun (i : Nat) => lw_tbl[i]?) ∧ (tb_X5_orderOf.flatMap (pm_all (RX5))).all goodWord = true := ⟨rfl, by decide +kernel⟩
set_option maxRecDepth 100000 in
set_option maxHeartbeats 4000000 in
theorem tm_X5_orderOf : tb_X5_orderOf.flatMap (pm_allN (RX5)) = [].filterMap (fun (i : Nat) => lw_tbl[i]?) ∧ tb_X5_orderOf.all (fun r => pm_chk RX5 false r.2.1 r.2.2.1 r.2.2.2 && pm_ckj r) = true := ⟨rfl, by decide +kernel⟩
set_option maxRecDepth 100000 in
set_option maxHeartbeats 4000000 in
theorem tn_X5_reply : tb_X5_reply.flatMap (pm_all (RX5)) = [159, 159, 283, 284, 285, 59, 286, 163, 158, 156, 155, 287, 67, 165, 159, 288, 289, 290, 59, 291, 295, 296, 67, 297, 339, 340, 341, 56, 342].filterMap (fun (i : Nat) => lw_tbl[i]?) ∧ (tb_X5_reply.flatMap (pm_all (RX5))).all goodWord = true := ⟨rfl, by decide +kernel⟩
set_option maxRecDepth 100000 in
set_option maxHeartbeats 4000000 in
theorem tm_X5_reply : tb_X5_reply.flatMap (pm_allN (RX5)) = [143].filterMap (fun (i : Nat) => lw_tbl[i]?) ∧ tb_X5_reply.all (fun r => pm_chk RX5 false r.2.1 r.2.2.1 r.2.2.2 && pm_ckj r) = true := ⟨rfl, by decide +kernel⟩
set_option maxRecDepth 100000 in
set_option maxHeartbeats 4000000 in
theorem tn_X6_init : tb_X6_init.flatMap (pm_all (RX6)) = [581, 79, 80, 582, 586, 588, 590, 592, 593, 583, 584, 585].filterMap (fun (i : Nat) => lw_tbl[i]?) ∧ (tb_X6_init.flatMap (pm_all (RX6))).all goodWord = true := ⟨rfl, by decide +kernel⟩
set_option maxRecDepth 100000 in
set_option maxHeartbeats 4000000 in
theorem tm_X6_init : tb_X6_init.flatMap (pm_allN (RX6)) = [].filterMap (fun (i : Nat) => lw_tbl[i]?) ∧ tb_X6_init.all (fun r => pm_chk RX6 true r.2.1 r.2.2.1 r.2.2.2 && pm_ckj r) = true := ⟨rfl, by decide +kernel⟩
set_option maxRecDepth 100000 in
set_option maxHeartbeats 4000000 in
theorem tn_X6_doOn : tb_X6_doOn.flatMap (pm_all (RX6)) = [584, 583, 584, 585, 583, 584, 585, 584].filterMap (fun (i : Nat) => lw_tbl[i]?) ∧ (tb_X6_doOn.flatMap (pm_all (RX6))).all goodWord = true := ⟨rfl, by decide +kernel⟩
set_option maxRecDepth 100000 in
set_option maxHeartbeats 4000000 in
theorem tm_X6_doOn : tb_X6_doOn.flatMap (pm_allN (RX6)) = [].filterMap (fun (i : Nat) => lw_tbl[i]?) ∧ tb_X6_doOn.all (fun r => pm_chk RX6 false r.2.1 r.2.2.1 r.2.2.2 && pm_ckj r) = true := ⟨rfl, by decide +kernel⟩
set_option maxRecDepth 100000 in
set_option maxHeartbeats 4000000 in
theorem tn_X6_keep : tb_X6_keep.flatMap (pm_all (RX6)) = [586, 586].filterMap (fun (i : Nat) => lw_tbl[i]?) ∧ (tb_X6_keep.flatMap (pm_all (RX6))).all goodWord = true := ⟨rfl, by decide +kernel⟩
set_option maxRecDepth 100000 in
set_option maxHeartbeats 4000000 in
theorem tm_X6_keep : tb_X6_keep.flatMap (pm_allN (RX6)) = [305, 305].filterMap (fun (i : Nat) => lw_tbl[i]?) ∧ tb_X6_keep.all (fun r => pm_chk RX6 false r.2.1 r.2.2.1 r.2.2.2 && pm_ckj r) = true := ⟨rfl, by decide +kernel⟩
set_option maxRecDepth 100000 in
set_option maxHeartbeats 4000000 in
theorem tn_X6_agreedBy : tb_X6_agreedBy.flatMap (pm_all (RX6)) = [586, 586, 242, 244, 2, 66, 246, 586].filterMap (fun (i : Nat) => lw_tbl[i]?) ∧ (tb_X6_agreedBy.flatMap (pm_all (RX6))).all goodWord = true := ⟨rfl, by decide +kernel⟩
set_option maxRecDepth 100000 in
set_option maxHeartbeats 4000000 in
theorem tm_X6_agreedBy : tb_X6_agreedBy.flatMap (pm_allN (RX6)) = [].filterMap (fun (i : Nat) => lw_tbl[i]?) ∧ tb_X6_agreedBy.all (fun r => pm_chk RX6 false r.2.1 r.2.2.1 r.2.2.2 && pm_ckj r) = true := ⟨rfl, by decide +kernel⟩
set_option maxRecDepth 100000 in
set_option maxHeartbeats 4000000 in
theorem tn_X6_countLike : tb_X6_countLike.flatMap (pm_all (RX6)) = [586, 586, 247, 248, 249, 67, 250].filterMap (fun (i : Nat) => lw_tbl[i]?) ∧ (tb_X6_countLike.flatMap (pm_all (RX6))).all goodWord = true := ⟨rfl, by decide +kernel⟩
set_option maxRecDepth 100000 in
set_option maxHeartbeats 4000000 in
theorem tm_X6_countLike : tb_X6_countLike.flatMap (pm_allN (RX6)) = [].filterMap (fun (i : Nat) => lw_tbl[i]?) ∧ tb_X6_countLike.all (fun r => pm_chk RX6 false r.2.1 r.2.2.1 r.2.2.2 && pm_ckj r) = true := ⟨rfl, by decide +kernel⟩
set_option maxRecDepth 100000 in
set_option maxHeartbeats 4000000 in
theorem tn_X6_finish : tb_X6_finish.flatMap (pm_all (RX6)) = [590, 592, 593].filterMap (fun (i : Nat) => lw_tbl[i]?) ∧ (tb_X6_finish.flatMap (pm_all (RX6))).all goodWord = true := ⟨rfl, by decide +kernel⟩
set_option maxRecDepth 100000 in
set_option maxHeartbeats 4000000 in
theorem tm_X6_finish : tb_X6_finish.flatMap (pm_allN (RX6)) = [321, 315].filterMap (fun (i : Nat) => lw_tbl[i]?) ∧ tb_X6_finish.all (fun r => pm_chk RX6 false r.2.1 r.2.2.1 r.2.2.2 && pm_ckj r) = true := ⟨rfl, by decide +kernel⟩
set_option maxRecDepth 100000 in
set_option maxHeartbeats 4000000 in
theorem tn_X6_tell : tb_X6_tell.flatMap (pm_all (RX6)) = [590, 592, 593, 724, 726, 22, 66, 727, 588].filterMap (fun (i : Nat) => lw_tbl[i]?) ∧ (tb_X6_tell.flatMap (pm_all (RX6))).all goodWord = true := ⟨rfl, by decide +kernel⟩
set_option maxRecDepth 100000 in
set_option maxHeartbeats 4000000 in
theorem tm_X6_tell : tb_X6_tell.flatMap (pm_allN (RX6)) = [].filterMap (fun (i : Nat) => lw_tbl[i]?) ∧ tb_X6_tell.all (fun r => pm_chk RX6 false r.2.1 r.2.2.1 r.2.2.2 && pm_ckj r) = true := ⟨rfl, by decide +kernel⟩
set_option maxRecDepth 100000 in
set_option maxHeartbeats 4000000 in
theorem tn_X6_countReplies : tb_X6_countReplies.flatMap (pm_all (RX6)) = [586].filterMap (fun (i : Nat) => lw_tbl[i]?) ∧ (tb_X6_countReplies.flatMap (pm_all (RX6))).all goodWord = true := ⟨rfl, by decide +kernel⟩
set_option maxRecDepth 100000 in
set_option maxHeartbeats 4000000 in
theorem tm_X6_countReplies : tb_X6_countReplies.flatMap (pm_allN (RX6)) = [].filterMap (fun (i : Nat) => lw_tbl[i]?) ∧ tb_X6_countReplies.all (fun r => pm_chk RX6 false r.2.1 r.2.2.1 r.2.2.2 && pm_ckj r) = true := ⟨rfl, by decide +kernel⟩
set_option maxRecDepth 100000 in
set_option maxHeartbeats 4000000 in
theorem tn_X7_init : tb_X7_init.flatMap (pm_all (RX7)) = [78, 79, 80, 81, 83, 84, 56, 86, 56, 87, 99, 100, 55, 101, 193, 194, 102, 103, 57, 104, 105, 57, 106, 195, 128, 196, 196, 128, 130, 58, 131, 132, 58, 133].filterMap (fun (i : Nat) => lw_tbl[i]?) ∧ (tb_X7_init.flatMap (pm_all (RX7))).all goodWord = true := ⟨rfl, by decide +kernel⟩
set_option maxRecDepth 100000 in
set_option maxHeartbeats 4000000 in
theorem tm_X7_init : tb_X7_init.flatMap (pm_allN (RX7)) = [85].filterMap (fun (i : Nat) => lw_tbl[i]?) ∧ tb_X7_init.all (fun r => pm_chk RX7 true r.2.1 r.2.2.1 r.2.2.2 && pm_ckj r) = true := ⟨rfl, by decide +kernel⟩
set_option maxRecDepth 100000 in
set_option maxHeartbeats 4000000 in
theorem tn_X7_issue : tb_X7_issue.flatMap (pm_all (RX7)) = [195, 195, 81, 245, 66, 578, 579, 66, 580, 611, 612, 613, 57, 614].filterMap (fun (i : Nat) => lw_tbl[i]?) ∧ (tb_X7_issue.flatMap (pm_all (RX7))).all goodWord = true := ⟨rfl, by decide +kernel⟩
set_option maxRecDepth 100000 in
set_option maxHeartbeats 4000000 in
theorem tm_X7_issue : tb_X7_issue.flatMap (pm_allN (RX7)) = [114].filterMap (fun (i : Nat) => lw_tbl[i]?) ∧ tb_X7_issue.all (fun r => pm_chk RX7 false r.2.1 r.2.2.1 r.2.2.2 && pm_ckj r) = true := ⟨rfl, by decide +kernel⟩
set_option maxRecDepth 100000 in
set_option maxHeartbeats 4000000 in
theorem tn_X7_retry : tb_X7_retry.flatMap (pm_all (RX7)) = [195, 626, 227, 228, 57, 229, 195, 643, 644, 645, 57, 646].filterMap (fun (i : Nat) => lw_tbl[i]?) ∧ (tb_X7_retry.flatMap (pm_all (RX7))).all goodWord = true := ⟨rfl, by decide +kernel⟩
set_option maxRecDepth 100000 in
set_option maxHeartbeats 4000000 in
theorem tm_X7_retry : tb_X7_retry.flatMap (pm_allN (RX7)) = [].filterMap (fun (i : Nat) => lw_tbl[i]?) ∧ tb_X7_retry.all (fun r => pm_chk RX7 false r.2.1 r.2.2.1 r.2.2.2 && pm_ckj r) = true := ⟨rfl, by decide +kernel⟩
set_option maxRecDepth 100000 in
set_option maxHeartbeats 4000000 in
theorem tn_X7_deliver : tb_X7_deliver.flatMap (pm_all (RX7)) = [210, 212, 0, 55, 213].filterMap (fun (i : Nat) => lw_tbl[i]?) ∧ (tb_X7_deliver.flatMap (pm_all (RX7))).all goodWord = true := ⟨rfl, by decide +kernel⟩
set_option maxRecDepth 100000 in
set_option maxHeartbeats 4000000 in
theorem tm_X7_deliver : tb_X7_deliver.flatMap (pm_allN (RX7)) = [].filterMap (fun (i : Nat) => lw_tbl[i]?) ∧ tb_X7_deliver.all (fun r => pm_chk RX7 false r.2.1 r.2.2.1 r.2.2.2 && pm_ckj r) = true := ⟨rfl, by decide +kernel⟩
set_option maxRecDepth 100000 in
set_option maxHeartbeats 4000000 in
theorem tn_X7_flood : tb_X7_flood.flatMap (pm_all (RX7)) = [194, 210, 212, 0, 55, 213].filterMap (fun (i : Nat) => lw_tbl[i]?) ∧ (tb_X7_flood.flatMap (pm_all (RX7))).all goodWord = true := ⟨rfl, by decide +kernel⟩
set_option maxRecDepth 100000 in
set_option maxHeartbeats 4000000 in
theorem tm_X7_flood : tb_X7_flood.flatMap (pm_allN (RX7)) = [93].filterMap (fun (i : Nat) => lw_tbl[i]?) ∧ tb_X7_flood.all (fun r => pm_chk RX7 false r.2.1 r.2.2.1 r.2.2.2 && pm_ckj r) = true := ⟨rfl, by decide +kernel⟩
set_option maxRecDepth 100000 in
set_option maxHeartbeats 4000000 in
theorem tn_X7_lose : tb_X7_lose.flatMap (pm_all (RX7)) = [194, 214, 215, 216, 56, 217].filterMap (fun (i : Nat) => lw_tbl[i]?) ∧ (tb_X7_lose.flatMap (pm_all (RX7))).all goodWord = true := ⟨rfl, by decide +kernel⟩
set_option maxRecDepth 100000 in
set_option maxHeartbeats 4000000 in
theorem tm_X7_lose : tb_X7_lose.flatMap (pm_allN (RX7)) = [355, 355].filterMap (fun (i : Nat) => lw_tbl[i]?) ∧ tb_X7_lose.all (fun r => pm_chk RX7 false r.2.1 r.2.2.1 r.2.2.2 && pm_ckj r) = true := ⟨rfl, by decide +kernel⟩
set_option maxRecDepth 100000 in
set_option maxHeartbeats 4000000 in
theorem tn_X7_patience : tb_X7_patience.flatMap (pm_all (RX7)) = [99, 100, 55, 101, 193, 196, 665, 666, 667, 58, 668].filterMap (fun (i : Nat) => lw_tbl[i]?) ∧ (tb_X7_patience.flatMap (pm_all (RX7))).all goodWord = true := ⟨rfl, by decide +kernel⟩
set_option maxRecDepth 100000 in
set_option maxHeartbeats 4000000 in
theorem tm_X7_patience : tb_X7_patience.flatMap (pm_allN (RX7)) = [].filterMap (fun (i : Nat) => lw_tbl[i]?) ∧ tb_X7_patience.all (fun r => pm_chk RX7 false r.2.1 r.2.2.1 r.2.2.2 && pm_ckj r) = true := ⟨rfl, by decide +kernel⟩
set_option maxRecDepth 100000 in
set_option maxHeartbeats 4000000 in
theorem tn_X7_lie : tb_X7_lie.flatMap (pm_all (RX7)) = [99, 100, 55, 101, 193, 195, 626, 227, 228, 57, 229, 196, 193, 678, 273, 55, 274, 193, 193, 679, 396, 397, 58, 398, 264, 265, 266, 58, 267].filterMap (fun (i : Nat) => lw_tbl[i]?) ∧ (tb_X7_lie.flatMap (pm_all (RX7))).all goodWord = true := ⟨rfl, by decide +kernel⟩
set_option maxRecDepth 100000 in
set_option maxHeartbeats 4000000 in
theorem tm_X7_lie : tb_X7_lie.flatMap (pm_allN (RX7)) = [166, 160, 144, 160, 144].filterMap (fun (i : Nat) => lw_tbl[i]?) ∧ tb_X7_lie.all (fun r => pm_chk RX7 false r.2.1 r.2.2.1 r.2.2.2 && pm_ckj r) = true := ⟨rfl, by decide +kernel⟩
set_option maxRecDepth 100000 in
set_option maxHeartbeats 4000000 in
theorem tn_X7_echo : tb_X7_echo.flatMap (pm_all (RX7)) = [195, 626, 227, 228, 57, 229, 99, 100, 55, 101, 193, 193, 195, 193, 218, 219, 220, 57, 221].filterMap (fun (i : Nat) => lw_tbl[i]?) ∧ (tb_X7_echo.flatMap (pm_all (RX7))).all goodWord = true := ⟨rfl, by decide +kernel⟩
set_option maxRecDepth 100000 in
set_option maxHeartbeats 4000000 in
theorem tm_X7_echo : tb_X7_echo.flatMap (pm_allN (RX7)) = [587].filterMap (fun (i : Nat) => lw_tbl[i]?) ∧ tb_X7_echo.all (fun r => pm_chk RX7 false r.2.1 r.2.2.1 r.2.2.2 && pm_ckj r) = true := ⟨rfl, by decide +kernel⟩
set_option maxRecDepth 100000 in
set_option maxHeartbeats 4000000 in
theorem tn_X7_replica : tb_X7_replica.flatMap (pm_all (RX7)) = [99, 100, 55, 101, 196, 695, 284, 285, 59, 286, 696, 697, 698, 58, 699].filterMap (fun (i : Nat) => lw_tbl[i]?) ∧ (tb_X7_replica.flatMap (pm_all (RX7))).all goodWord = true := ⟨rfl, by decide +kernel⟩
set_option maxRecDepth 100000 in
set_option maxHeartbeats 4000000 in
theorem tm_X7_replica : tb_X7_replica.flatMap (pm_allN (RX7)) = [162, 160].filterMap (fun (i : Nat) => lw_tbl[i]?) ∧ tb_X7_replica.all (fun r => pm_chk RX7 false r.2.1 r.2.2.1 r.2.2.2 && pm_ckj r) = true := ⟨rfl, by decide +kernel⟩
set_option maxRecDepth 100000 in
set_option maxHeartbeats 4000000 in
theorem tn_X7_messages : tb_X7_messages.flatMap (pm_all (RX7)) = [194].filterMap (fun (i : Nat) => lw_tbl[i]?) ∧ (tb_X7_messages.flatMap (pm_all (RX7))).all goodWord = true := ⟨rfl, by decide +kernel⟩
set_option maxRecDepth 100000 in
set_option maxHeartbeats 4000000 in
theorem tm_X7_messages : tb_X7_messages.flatMap (pm_allN (RX7)) = [93].filterMap (fun (i : Nat) => lw_tbl[i]?) ∧ tb_X7_messages.all (fun r => pm_chk RX7 false r.2.1 r.2.2.1 r.2.2.2 && pm_ckj r) = true := ⟨rfl, by decide +kernel⟩
set_option maxRecDepth 100000 in
set_option maxHeartbeats 4000000 in
theorem tn_X7_message : tb_X7_message.flatMap (pm_all (RX7)) = [194, 214, 215, 216, 56, 217, 708, 709, 710, 68, 711].filterMap (fun (i : Nat) => lw_tbl[i]?) ∧ (tb_X7_message.flatMap (pm_all (RX7))).all goodWord = true := ⟨rfl, by decide +kernel⟩
set_option maxRecDepth 100000 in
set_option maxHeartbeats 4000000 in
theorem tm_X7_message : tb_X7_message.flatMap (pm_allN (RX7)) = [].filterMap (fun (i : Nat) => lw_tbl[i]?) ∧ tb_X7_message.all (fun r => pm_chk RX7 false r.2.1 r.2.2.1 r.2.2.2 && pm_ckj r) = true := ⟨rfl, by decide +kernel⟩
set_option maxRecDepth 100000 in
set_option maxHeartbeats 4000000 in
theorem tn_X7_request : tb_X7_request.flatMap (pm_all (RX7)) = [195, 626, 227, 228, 57, 229, 720, 721, 722, 66, 723].filterMap (fun (i : Nat) => lw_tbl[i]?) ∧ (tb_X7_request.flatMap (pm_all (RX7))).all goodWord = true := ⟨rfl, by decide +kernel⟩
set_option maxRecDepth 100000 in
set_option maxHeartbeats 4000000 in
theorem tm_X7_request : tb_X7_request.flatMap (pm_allN (RX7)) = [].filterMap (fun (i : Nat) => lw_tbl[i]?) ∧ tb_X7_request.all (fun r => pm_chk RX7 false r.2.1 r.2.2.1 r.2.2.2 && pm_ckj r) = true := ⟨rfl, by decide +kernel⟩
set_option maxRecDepth 100000 in
set_option maxHeartbeats 4000000 in
theorem tn_X7_view : tb_X7_view.flatMap (pm_all (RX7)) = [195].filterMap (fun (i : Nat) => lw_tbl[i]?) ∧ (tb_X7_view.flatMap (pm_all (RX7))).all goodWord = true := ⟨rfl, by decide +kernel⟩
set_option maxRecDepth 100000 in
set_option maxHeartbeats 4000000 in
theorem tm_X7_view : tb_X7_view.flatMap (pm_allN (RX7)) = [116].filterMap (fun (i : Nat) => lw_tbl[i]?) ∧ tb_X7_view.all (fun r => pm_chk RX7 false r.2.1 r.2.2.1 r.2.2.2 && pm_ckj r) = true := ⟨rfl, by decide +kernel⟩
set_option maxRecDepth 100000 in
set_option maxHeartbeats 4000000 in
theorem tn_X7_handOver : tb_X7_handOver.flatMap (pm_all (RX7)) = [194, 214, 215, 216, 56, 217, 195, 218, 219, 220, 57, 221, 99, 100, 55, 101, 193, 196, 264, 265, 266, 58, 267].filterMap (fun (i : Nat) => lw_tbl[i]?) ∧ (tb_X7_handOver.flatMap (pm_all (RX7))).all goodWord = true := ⟨rfl, by decide +kernel⟩
set_option maxRecDepth 100000 in
set_option maxHeartbeats 4000000 in
theorem tm_X7_handOver : tb_X7_handOver.flatMap (pm_allN (RX7)) = [355, 355, 351, 349, 353, 351, 351, 351, 349, 353].filterMap (fun (i : Nat) => lw_tbl[i]?) ∧ tb_X7_handOver.all (fun r => pm_chk RX7 false r.2.1 r.2.2.1 r.2.2.2 && pm_ckj r) = true := ⟨rfl, by decide +kernel⟩
set_option maxRecDepth 100000 in
set_option maxHeartbeats 4000000 in
theorem tn_X7_isReplica : tb_X7_isReplica.flatMap (pm_all (RX7)) = [].filterMap (fun (i : Nat) => lw_tbl[i]?) ∧ (tb_X7_isReplica.flatMap (pm_all (RX7))).all goodWord = true := ⟨rfl, by decide +kernel⟩
set_option maxRecDepth 100000 in
set_option maxHeartbeats 4000000 in
theorem tm_X7_isReplica : tb_X7_isReplica.flatMap (pm_allN (RX7)) = [].filterMap (fun (i : Nat) => lw_tbl[i]?) ∧ tb_X7_isReplica.all (fun r => pm_chk RX7 false r.2.1 r.2.2.1 r.2.2.2 && pm_ckj r) = true := ⟨rfl, by decide +kernel⟩
set_option maxRecDepth 100000 in
set_option maxHeartbeats 4000000 in
theorem tn_X7_primaryOf : tb_X7_primaryOf.flatMap (pm_all (RX7)) = [].filterMap (fun (i : Nat) => lw_tbl[i]?) ∧ (tb_X7_primaryOf.flatMap (pm_all (RX7))).all goodWord = true := ⟨rfl, by decide +kernel⟩
set_option maxRecDepth 100000 in
set_option maxHeartbeats 4000000 in
theorem tm_X7_primaryOf : tb_X7_primaryOf.flatMap (pm_allN (RX7)) = [].filterMap (fun (i : Nat) => lw_tbl[i]?) ∧ tb_X7_primaryOf.all (fun r => pm_chk RX7 false r.2.1 r.2.2.1 r.2.2.2 && pm_ckj r) = true := ⟨rfl, by decide +kernel⟩
set_option maxRecDepth 100000 in
set_option maxHeartbeats 4000000 in
theorem tn_X7_askFor : tb_X7_askFor.flatMap (pm_all (RX7)) = [389, 287, 67, 390, 296, 67, 297].filterMap (fun (i : Nat) => lw_tbl[i]?) ∧ (tb_X7_askFor.flatMap (pm_all (RX7))).all goodWord = true := ⟨rfl, by decide +kernel⟩
set_option maxRecDepth 100000 in
set_option maxHeartbeats 4000000 in
theorem tm_X7_askFor : tb_X7_askFor.flatMap (pm_allN (RX7)) = [].filterMap (fun (i : Nat) => lw_tbl[i]?) ∧ tb_X7_askFor.all (fun r => pm_chk RX7 false r.2.1 r.2.2.1 r.2.2.2 && pm_ckj r) = true := ⟨rfl, by decide +kernel⟩
set_option maxRecDepth 100000 in
set_option maxHeartbeats 4000000 in
theorem tn_X8_init : tb_X8_init.flatMap (pm_all (RX8)) = [733, 79, 80, 154, 737, 154, 738, 154, 739, 154, 740, 154, 741, 873, 742, 154, 743, 874, 744, 154, 745, 154, 746, 154, 747, 154, 748, 873, 749, 154, 750, 154, 752, 154, 753, 154, 754, 154, 755, 154, 756, 154, 757, 154, 758, 154, 759, 154, 760, 873, 761, 154, 762, 154, 764, 154, 765, 154, 766, 154, 767, 154, 768, 154, 769, 154, 770, 874, 771, 154, 772, 154, 773, 154, 774, 154, 775, 874, 776, 154, 777, 154, 778, 154, 779, 735, 747, 764, 768].filterMap (fun (i : Nat) => lw_tbl[i]?) ∧ (tb_X8_init.flatMap (pm_all (RX8))).all goodWord = true := ⟨rfl, by decide +kernel⟩
set_option maxRecDepth 100000 in
set_option maxHeartbeats 4000000 in
theorem tm_X8_init : tb_X8_init.flatMap (pm_allN (RX8)) = [].filterMap (fun (i : Nat) => lw_tbl[i]?) ∧ tb_X8_init.all (fun r => pm_chk RX8 true r.2.1 r.2.2.1 r.2.2.2 && pm_ckj r) = true := ⟨rfl, by decide +kernel⟩
set_option maxRecDepth 100000 in
set_option maxHeartbeats 4000000 in
theorem tn_X8_thrown : tb_X8_thrown.flatMap (pm_all (RX8)) = [734].filterMap (fun (i : Nat) => lw_tbl[i]?) ∧ (tb_X8_thrown.flatMap (pm_all (RX8))).all goodWord = true := ⟨rfl, by decide +kernel⟩
set_option maxRecDepth 100000 in
set_option maxHeartbeats 4000000 in
theorem tm_X8_thrown : tb_X8_thrown.flatMap (pm_allN (RX8)) = [].filterMap (fun (i : Nat) => lw_tbl[i]?) ∧ tb_X8_thrown.all (fun r => pm_chk RX8 false r.2.1 r.2.2.1 r.2.2.2 && pm_ckj r) = true := ⟨rfl, by decide +kernel⟩
set_option maxRecDepth 100000 in
set_option maxHeartbeats 4000000 in
theorem tn_X8_refuse : tb_X8_refuse.flatMap (pm_all (RX8)) = [734].filterMap (fun (i : Nat) => lw_tbl[i]?) ∧ (tb_X8_refuse.flatMap (pm_all (RX8))).all goodWord = true := ⟨rfl, by decide +kernel⟩
set_option maxRecDepth 100000 in
set_option maxHeartbeats 4000000 in
theorem tm_X8_refuse : tb_X8_refuse.flatMap (pm_allN (RX8)) = [].filterMap (fun (i : Nat) => lw_tbl[i]?) ∧ tb_X8_refuse.all (fun r => pm_chk RX8 false r.2.1 r.2.2.1 r.2.2.2 && pm_ckj r) = true := ⟨rfl, by decide +kernel⟩
set_option maxRecDepth 100000 in
set_option maxHeartbeats 4000000 in
theorem tn_X8_at : tb_X8_at.flatMap (pm_all (RX8)) = [949].filterMap (fun (i : Nat) => lw_tbl[i]?) ∧ (tb_X8_at.flatMap (pm_all (RX8))).all goodWord = true := ⟨rfl, by decide +kernel⟩
set_option maxRecDepth 100000 in
set_option maxHeartbeats 4000000 in
theorem tm_X8_at : tb_X8_at.flatMap (pm_allN (RX8)) = [].filterMap (fun (i : Nat) => lw_tbl[i]?) ∧ tb_X8_at.all (fun r => pm_chk RX8 false r.2.1 r.2.2.1 r.2.2.2 && pm_ckj r) = true := ⟨rfl, by decide +kernel⟩
set_option maxRecDepth 100000 in
set_option maxHeartbeats 4000000 in
theorem tn_X8_with : tb_X8_with.flatMap (pm_all (RX8)) = [].filterMap (fun (i : Nat) => lw_tbl[i]?) ∧ (tb_X8_with.flatMap (pm_all (RX8))).all goodWord = true := ⟨rfl, by decide +kernel⟩
set_option maxRecDepth 100000 in
set_option maxHeartbeats 4000000 in
theorem tm_X8_with : tb_X8_with.flatMap (pm_allN (RX8)) = [].filterMap (fun (i : Nat) => lw_tbl[i]?) ∧ tb_X8_with.all (fun r => pm_chk RX8 false r.2.1 r.2.2.1 r.2.2.2 && pm_ckj r) = true := ⟨rfl, by decide +kernel⟩
set_option maxRecDepth 100000 in
set_option maxHeartbeats 4000000 in
theorem tn_X8_begin : tb_X8_begin.flatMap (pm_all (RX8)) = [].filterMap (fun (i : Nat) => lw_tbl[i]?) ∧ (tb_X8_begin.flatMap (pm_all (RX8))).all goodWord = true := ⟨rfl, by decide +kernel⟩
set_option maxRecDepth 100000 in
set_option maxHeartbeats 4000000 in
theorem tm_X8_begin : tb_X8_begin.flatMap (pm_allN (RX8)) = [].filterMap (fun (i : Nat) => lw_tbl[i]?) ∧ tb_X8_begin.all (fun r => pm_chk RX8 false r.2.1 r.2.2.1 r.2.2.2 && pm_ckj r) = true := ⟨rfl, by decide +kernel⟩
set_option maxRecDepth 100000 in
set_option maxHeartbeats 4000000 in
theorem tn_X8_digestOf : tb_X8_digestOf.flatMap (pm_all (RX8)) = [946, 947, 60, 948].filterMap (fun (i : Nat) => lw_tbl[i]?) ∧ (tb_X8_digestOf.flatMap (pm_all (RX8))).all goodWord = true := ⟨rfl, by decide +kernel⟩
set_option maxRecDepth 100000 in
set_option maxHeartbeats 4000000 in
theorem tm_X8_digestOf : tb_X8_digestOf.flatMap (pm_allN (RX8)) = [].filterMap (fun (i : Nat) => lw_tbl[i]?) ∧ tb_X8_digestOf.all (fun r => pm_chk RX8 false r.2.1 r.2.2.1 r.2.2.2 && pm_ckj r) = true := ⟨rfl, by decide +kernel⟩
set_option maxRecDepth 100000 in
set_option maxHeartbeats 4000000 in
theorem tn_X8_placeIn : tb_X8_placeIn.flatMap (pm_all (RX8)) = [946, 947, 60, 948].filterMap (fun (i : Nat) => lw_tbl[i]?) ∧ (tb_X8_placeIn.flatMap (pm_all (RX8))).all goodWord = true := ⟨rfl, by decide +kernel⟩
set_option maxRecDepth 100000 in
set_option maxHeartbeats 4000000 in
theorem tm_X8_placeIn : tb_X8_placeIn.flatMap (pm_allN (RX8)) = [].filterMap (fun (i : Nat) => lw_tbl[i]?) ∧ tb_X8_placeIn.all (fun r => pm_chk RX8 false r.2.1 r.2.2.1 r.2.2.2 && pm_ckj r) = true := ⟨rfl, by decide +kernel⟩
set_option maxRecDepth 100000 in
set_option maxHeartbeats 4000000 in
theorem tn_X8_work : tb_X8_work.flatMap (pm_all (RX8)) = [779, 946, 947, 60, 948, 779, 738, 737, 779, 738, 739, 737, 779, 738, 739, 737, 779, 738].filterMap (fun (i : Nat) => lw_tbl[i]?) ∧ (tb_X8_work.flatMap (pm_all (RX8))).all goodWord = true := ⟨rfl, by decide +kernel⟩
set_option maxRecDepth 100000 in
set_option maxHeartbeats 4000000 in
theorem tm_X8_work : tb_X8_work.flatMap (pm_allN (RX8)) = [].filterMap (fun (i : Nat) => lw_tbl[i]?) ∧ tb_X8_work.all (fun r => pm_chk RX8 false r.2.1 r.2.2.1 r.2.2.2 && pm_ckj r) = true := ⟨rfl, by decide +kernel⟩
set_option maxRecDepth 100000 in
set_option maxHeartbeats 4000000 in
theorem tn_X8_send : tb_X8_send.flatMap (pm_all (RX8)) = [751, 751, 752, 753, 754, 755, 757, 756, 758, 751, 751].filterMap (fun (i : Nat) => lw_tbl[i]?) ∧ (tb_X8_send.flatMap (pm_all (RX8))).all goodWord = true := ⟨rfl, by decide +kernel⟩
set_option maxRecDepth 100000 in
set_option maxHeartbeats 4000000 in
theorem tm_X8_send : tb_X8_send.flatMap (pm_allN (RX8)) = [].filterMap (fun (i : Nat) => lw_tbl[i]?) ∧ tb_X8_send.all (fun r => pm_chk RX8 false r.2.1 r.2.2.1 r.2.2.2 && pm_ckj r) = true := ⟨rfl, by decide +kernel⟩
set_option maxRecDepth 100000 in
set_option maxHeartbeats 4000000 in
theorem tn_X8_sendToAll : tb_X8_sendToAll.flatMap (pm_all (RX8)) = [887, 889, 24, 60, 890].filterMap (fun (i : Nat) => lw_tbl[i]?) ∧ (tb_X8_sendToAll.flatMap (pm_all (RX8))).all goodWord = true := ⟨rfl, by decide +kernel⟩
set_option maxRecDepth 100000 in
set_option maxHeartbeats 4000000 in
theorem tm_X8_sendToAll : tb_X8_sendToAll.flatMap (pm_allN (RX8)) = [].filterMap (fun (i : Nat) => lw_tbl[i]?) ∧ tb_X8_sendToAll.all (fun r => pm_chk RX8 false r.2.1 r.2.2.1 r.2.2.2 && pm_ckj r) = true := ⟨rfl, by decide +kernel⟩
set_option maxRecDepth 100000 in
set_option maxHeartbeats 4000000 in
theorem tn_X8_sendRow : tb_X8_sendRow.flatMap (pm_all (RX8)) = [887, 889, 24, 60, 890, 761, 760].filterMap (fun (i : Nat) => lw_tbl[i]?) ∧ (tb_X8_sendRow.flatMap (pm_all (RX8))).all goodWord = true := ⟨rfl, by decide +kernel⟩
set_option maxRecDepth 100000 in
set_option maxHeartbeats 4000000 in
theorem tm_X8_sendRow : tb_X8_sendRow.flatMap (pm_allN (RX8)) = [].filterMap (fun (i : Nat) => lw_tbl[i]?) ∧ tb_X8_sendRow.all (fun r => pm_chk RX8 false r.2.1 r.2.2.1 r.2.2.2 && pm_ckj r) = true := ⟨rfl, by decide +kernel⟩
set_option maxRecDepth 100000 in
set_option maxHeartbeats 4000000 in
theorem tn_X8_reply : tb_X8_reply.flatMap (pm_all (RX8)) = [740, 742, 946, 947, 60, 948, 742, 954, 955, 60, 956, 887, 889, 24, 60, 890, 759, 742, 957, 959, 37, 60, 960].filterMap (fun (i : Nat) => lw_tbl[i]?) ∧ (tb_X8_reply.flatMap (pm_all (RX8))).all goodWord = true := ⟨rfl, by decide +kernel⟩
set_option maxRecDepth 100000 in
set_option maxHeartbeats 4000000 in
theorem tm_X8_reply : tb_X8_reply.flatMap (pm_allN (RX8)) = [].filterMap (fun (i : Nat) => lw_tbl[i]?) ∧ tb_X8_reply.all (fun r => pm_chk RX8 false r.2.1 r.2.2.1 r.2.2.2 && pm_ckj r) = true := ⟨rfl, by decide +kernel⟩
set_option maxRecDepth 100000 in
set_option maxHeartbeats 4000000 in
theorem tn_X8_order : tb_X8_order.flatMap (pm_all (RX8)) = [740, 742, 946, 947, 60, 948, 742, 954, 955, 60, 956, 907, 909, 28, 60, 910].filterMap (fun (i : Nat) => lw_tbl[i]?) ∧ (tb_X8_order.flatMap (pm_all (RX8))).all goodWord = true := ⟨rfl, by decide +kernel⟩
set_option maxRecDepth 100000 in
set_option maxHeartbeats 4000000 in
theorem tm_X8_order : tb_X8_order.flatMap (pm_allN (RX8)) = [].filterMap (fun (i : Nat) => lw_tbl[i]?) ∧ tb_X8_order.all (fun r => pm_chk RX8 false r.2.1 r.2.2.1 r.2.2.2 && pm_ckj r) = true := ⟨rfl, by decide +kernel⟩
set_option maxRecDepth 100000 in
set_option maxHeartbeats 4000000 in
theorem tn_X8_isPrimary : tb_X8_isPrimary.flatMap (pm_all (RX8)) = [740].filterMap (fun (i : Nat) => lw_tbl[i]?) ∧ (tb_X8_isPrimary.flatMap (pm_all (RX8))).all goodWord = true := ⟨rfl, by decide +kernel⟩
set_option maxRecDepth 100000 in
set_option maxHeartbeats 4000000 in
theorem tm_X8_isPrimary : tb_X8_isPrimary.flatMap (pm_allN (RX8)) = [].filterMap (fun (i : Nat) => lw_tbl[i]?) ∧ tb_X8_isPrimary.all (fun r => pm_chk RX8 false r.2.1 r.2.2.1 r.2.2.2 && pm_ckj r) = true := ⟨rfl, by decide +kernel⟩
set_option maxRecDepth 100000 in
set_option maxHeartbeats 4000000 in
theorem tn_X8_append : tb_X8_append.flatMap (pm_all (RX8)) = [742, 742, 741, 973, 974, 60, 975, 741, 745].filterMap (fun (i : Nat) => lw_tbl[i]?) ∧ (tb_X8_append.flatMap (pm_all (RX8))).all goodWord = true := ⟨rfl, by decide +kernel⟩
set_option maxRecDepth 100000 in
set_option maxHeartbeats 4000000 in
theorem tm_X8_append : tb_X8_append.flatMap (pm_allN (RX8)) = [].filterMap (fun (i : Nat) => lw_tbl[i]?) ∧ tb_X8_append.all (fun r => pm_chk RX8 false r.2.1 r.2.2.1 r.2.2.2 && pm_ckj r) = true := ⟨rfl, by decide +kernel⟩
set_option maxRecDepth 100000 in
set_option maxHeartbeats 4000000 in
theorem tn_X8_takeAsk : tb_X8_takeAsk.flatMap (pm_all (RX8)) = [742, 741, 943, 944, 60, 945, 950, 952, 36, 60, 953, 961, 963, 38, 60, 964, 965, 967, 39, 60, 968, 961, 963, 38, 60, 964, 969, 971, 40, 60, 972, 741, 965, 967, 39, 60, 968, 741, 950, 952, 36, 60, 953, 745, 740, 740, 887, 889, 24, 60, 890].filterMap (fun (i : Nat) => lw_tbl[i]?) ∧ (tb_X8_takeAsk.flatMap (pm_all (RX8))).all goodWord = true := ⟨rfl, by decide +kernel⟩
set_option maxRecDepth 100000 in
set_option maxHeartbeats 4000000 in
theorem tm_X8_takeAsk : tb_X8_takeAsk.flatMap (pm_allN (RX8)) = [].filterMap (fun (i : Nat) => lw_tbl[i]?) ∧ tb_X8_takeAsk.all (fun r => pm_chk RX8 false r.2.1 r.2.2.1 r.2.2.2 && pm_ckj r) = true := ⟨rfl, by decide +kernel⟩
set_option maxRecDepth 100000 in
set_option maxHeartbeats 4000000 in
theorem tn_X8_takeOrder : tb_X8_takeOrder.flatMap (pm_all (RX8)) = [744, 740, 741, 742, 741, 943, 944, 60, 945, 742, 741, 954, 955, 60, 956, 969, 971, 40, 60, 972, 950, 952, 36, 60, 953].filterMap (fun (i : Nat) => lw_tbl[i]?) ∧ (tb_X8_takeOrder.flatMap (pm_all (RX8))).all goodWord = true := ⟨rfl, by decide +kernel⟩
set_option maxRecDepth 100000 in
set_option maxHeartbeats 4000000 in
theorem tm_X8_takeOrder : tb_X8_takeOrder.flatMap (pm_allN (RX8)) = [].filterMap (fun (i : Nat) => lw_tbl[i]?) ∧ tb_X8_takeOrder.all (fun r => pm_chk RX8 false r.2.1 r.2.2.1 r.2.2.2 && pm_ckj r) = true := ⟨rfl, by decide +kernel⟩
set_option maxRecDepth 100000 in
set_option maxHeartbeats 4000000 in
theorem tn_X8_takeProof : tb_X8_takeProof.flatMap (pm_all (RX8)) = [740, 741, 742, 954, 955, 60, 956, 743, 743, 743, 887, 889, 24, 60, 890].filterMap (fun (i : Nat) => lw_tbl[i]?) ∧ (tb_X8_takeProof.flatMap (pm_all (RX8))).all goodWord = true := ⟨rfl, by decide +kernel⟩
set_option maxRecDepth 100000 in
set_option maxHeartbeats 4000000 in
theorem tm_X8_takeProof : tb_X8_takeProof.flatMap (pm_allN (RX8)) = [].filterMap (fun (i : Nat) => lw_tbl[i]?) ∧ tb_X8_takeProof.all (fun r => pm_chk RX8 false r.2.1 r.2.2.1 r.2.2.2 && pm_ckj r) = true := ⟨rfl, by decide +kernel⟩
set_option maxRecDepth 100000 in
set_option maxHeartbeats 4000000 in
theorem tn_X8_bits : tb_X8_bits.flatMap (pm_all (RX8)) = [].filterMap (fun (i : Nat) => lw_tbl[i]?) ∧ (tb_X8_bits.flatMap (pm_all (RX8))).all goodWord = true := ⟨rfl, by decide +kernel⟩
set_option maxRecDepth 100000 in
set_option maxHeartbeats 4000000 in
theorem tm_X8_bits : tb_X8_bits.flatMap (pm_allN (RX8)) = [].filterMap (fun (i : Nat) => lw_tbl[i]?) ∧ tb_X8_bits.all (fun r => pm_chk RX8 false r.2.1 r.2.2.1 r.2.2.2 && pm_ckj r) = true := ⟨rfl, by decide +kernel⟩
set_option maxRecDepth 100000 in
set_option maxHeartbeats 4000000 in
theorem tn_X8_takeHate : tb_X8_takeHate.flatMap (pm_all (RX8)) = [746, 746, 988, 989, 60, 990, 740, 746, 744, 740, 740, 742, 741, 743, 991, 993, 44, 60, 994, 740, 742, 741, 743, 1014, 1016, 49, 60, 1017].filterMap (fun (i : Nat) => lw_tbl[i]?) ∧ (tb_X8_takeHate.flatMap (pm_all (RX8))).all goodWord = true := ⟨rfl, by decide +kernel⟩
set_option maxRecDepth 100000 in
set_option maxHeartbeats 4000000 in
theorem tm_X8_takeHate : tb_X8_takeHate.flatMap (pm_allN (RX8)) = [].filterMap (fun (i : Nat) => lw_tbl[i]?) ∧ tb_X8_takeHate.all (fun r => pm_chk RX8 false r.2.1 r.2.2.1 r.2.2.2 && pm_ckj r) = true := ⟨rfl, by decide +kernel⟩
set_option maxRecDepth 100000 in
set_option maxHeartbeats 4000000 in
theorem tn_X8_takeChange : tb_X8_takeChange.flatMap (pm_all (RX8)) = [740, 747, 749, 748, 750, 747, 744, 740, 995, 997, 45, 60, 998].filterMap (fun (i : Nat) => lw_tbl[i]?) ∧ (tb_X8_takeChange.flatMap (pm_all (RX8))).all goodWord = true := ⟨rfl, by decide +kernel⟩
set_option maxRecDepth 100000 in
set_option maxHeartbeats 4000000 in
theorem tm_X8_takeChange : tb_X8_takeChange.flatMap (pm_allN (RX8)) = [].filterMap (fun (i : Nat) => lw_tbl[i]?) ∧ tb_X8_takeChange.all (fun r => pm_chk RX8 false r.2.1 r.2.2.1 r.2.2.2 && pm_ckj r) = true := ⟨rfl, by decide +kernel⟩
set_option maxRecDepth 100000 in
set_option maxHeartbeats 4000000 in
theorem tn_X8_safest : tb_X8_safest.flatMap (pm_all (RX8)) = [747, 740, 750, 750].filterMap (fun (i : Nat) => lw_tbl[i]?) ∧ (tb_X8_safest.flatMap (pm_all (RX8))).all goodWord = true := ⟨rfl, by decide +kernel⟩
set_option maxRecDepth 100000 in
set_option maxHeartbeats 4000000 in
theorem tm_X8_safest : tb_X8_safest.flatMap (pm_allN (RX8)) = [].filterMap (fun (i : Nat) => lw_tbl[i]?) ∧ tb_X8_safest.all (fun r => pm_chk RX8 false r.2.1 r.2.2.1 r.2.2.2 && pm_ckj r) = true := ⟨rfl, by decide +kernel⟩
set_option maxRecDepth 100000 in
set_option maxHeartbeats 4000000 in
theorem tn_X8_goesOn : tb_X8_goesOn.flatMap (pm_all (RX8)) = [747, 740, 748, 749, 1003, 1004, 60, 1005, 749, 946, 947, 60, 948].filterMap (fun (i : Nat) => lw_tbl[i]?) ∧ (tb_X8_goesOn.flatMap (pm_all (RX8))).all goodWord = true := ⟨rfl, by decide +kernel⟩
set_option maxRecDepth 100000 in
set_option maxHeartbeats 4000000 in
theorem tm_X8_goesOn : tb_X8_goesOn.flatMap (pm_allN (RX8)) = [].filterMap (fun (i : Nat) => lw_tbl[i]?) ∧ tb_X8_goesOn.all (fun r => pm_chk RX8 false r.2.1 r.2.2.1 r.2.2.2 && pm_ckj r) = true := ⟨rfl, by decide +kernel⟩
set_option maxRecDepth 100000 in
set_option maxHeartbeats 4000000 in
theorem tn_X8_nextOf : tb_X8_nextOf.flatMap (pm_all (RX8)) = [1010, 1012, 48, 60, 1013, 1010, 1012, 48, 60, 1013].filterMap (fun (i : Nat) => lw_tbl[i]?) ∧ (tb_X8_nextOf.flatMap (pm_all (RX8))).all goodWord = true := ⟨rfl, by decide +kernel⟩
set_option maxRecDepth 100000 in
set_option maxHeartbeats 4000000 in
theorem tm_X8_nextOf : tb_X8_nextOf.flatMap (pm_allN (RX8)) = [].filterMap (fun (i : Nat) => lw_tbl[i]?) ∧ tb_X8_nextOf.all (fun r => pm_chk RX8 false r.2.1 r.2.2.1 r.2.2.2 && pm_ckj r) = true := ⟨rfl, by decide +kernel⟩
set_option maxRecDepth 100000 in
set_option maxHeartbeats 4000000 in
theorem tn_X8_makeNew : tb_X8_makeNew.flatMap (pm_all (RX8)) = [999, 1001, 46, 60, 1002, 750, 749, 1003, 1004, 60, 1005, 1006, 1008, 47, 60, 1009, 973, 974, 60, 975, 1006, 1008, 47, 60, 1009, 740, 1014, 1016, 49, 60, 1017, 740, 1018, 1020, 50, 60, 1021].filterMap (fun (i : Nat) => lw_tbl[i]?) ∧ (tb_X8_makeNew.flatMap (pm_all (RX8))).all goodWord = true := ⟨rfl, by decide +kernel⟩
set_option maxRecDepth 100000 in
set_option maxHeartbeats 4000000 in
theorem tm_X8_makeNew : tb_X8_makeNew.flatMap (pm_allN (RX8)) = [].filterMap (fun (i : Nat) => lw_tbl[i]?) ∧ tb_X8_makeNew.all (fun r => pm_chk RX8 false r.2.1 r.2.2.1 r.2.2.2 && pm_ckj r) = true := ⟨rfl, by decide +kernel⟩
set_option maxRecDepth 100000 in
set_option maxHeartbeats 4000000 in
theorem tn_X8_turn : tb_X8_turn.flatMap (pm_all (RX8)) = [740, 742, 741, 743, 744, 746, 745, 946, 947, 60, 948, 950, 952, 36, 60, 953].filterMap (fun (i : Nat) => lw_tbl[i]?) ∧ (tb_X8_turn.flatMap (pm_all (RX8))).all goodWord = true := ⟨rfl, by decide +kernel⟩
set_option maxRecDepth 100000 in
set_option maxHeartbeats 4000000 in
theorem tm_X8_turn : tb_X8_turn.flatMap (pm_allN (RX8)) = [].filterMap (fun (i : Nat) => lw_tbl[i]?) ∧ tb_X8_turn.all (fun r => pm_chk RX8 false r.2.1 r.2.2.1 r.2.2.2 && pm_ckj r) = true := ⟨rfl, by decide +kernel⟩
set_option maxRecDepth 100000 in
set_option maxHeartbeats 4000000 in
theorem tn_X8_takeNew : tb_X8_takeNew.flatMap (pm_all (RX8)) = [755, 753, 740, 740, 744, 761, 756, 760, 1018, 1020, 50, 60, 1021].filterMap (fun (i : Nat) => lw_tbl[i]?) ∧ (tb_X8_takeNew.flatMap (pm_all (RX8))).all goodWord = true := ⟨rfl, by decide +kernel⟩
set_option maxRecDepth 100000 in
set_option maxHeartbeats 4000000 in
theorem tm_X8_takeNew : tb_X8_takeNew.flatMap (pm_allN (RX8)) = [].filterMap (fun (i : Nat) => lw_tbl[i]?) ∧ tb_X8_takeNew.all (fun r => pm_chk RX8 false r.2.1 r.2.2.1 r.2.2.2 && pm_ckj r) = true := ⟨rfl, by decide +kernel⟩
set_option maxRecDepth 100000 in
set_option maxHeartbeats 4000000 in
theorem tn_X8_take : tb_X8_take.flatMap (pm_all (RX8)) = [752, 744, 757, 753, 939, 941, 35, 60, 942, 753, 755, 756, 757, 758, 976, 978, 41, 60, 979, 744, 755, 756, 758, 980, 982, 42, 60, 983, 755, 740, 753, 984, 986, 43, 60, 987, 753, 755, 761, 756, 760, 991, 993, 44, 60, 994, 1022, 1024, 51, 60, 1025].filterMap (fun (i : Nat) => lw_tbl[i]?) ∧ (tb_X8_take.flatMap (pm_all (RX8))).all goodWord = true := ⟨rfl, by decide +kernel⟩
set_option maxRecDepth 100000 in
set_option maxHeartbeats 4000000 in
theorem tm_X8_take : tb_X8_take.flatMap (pm_allN (RX8)) = [].filterMap (fun (i : Nat) => lw_tbl[i]?) ∧ tb_X8_take.all (fun r => pm_chk RX8 false r.2.1 r.2.2.1 r.2.2.2 && pm_ckj r) = true := ⟨rfl, by decide +kernel⟩
set_option maxRecDepth 100000 in
set_option maxHeartbeats 4000000 in
theorem tn_X8_areAlike : tb_X8_areAlike.flatMap (pm_all (RX8)) = [764, 764, 764, 765, 765, 766, 766, 767, 767].filterMap (fun (i : Nat) => lw_tbl[i]?) ∧ (tb_X8_areAlike.flatMap (pm_all (RX8))).all goodWord = true := ⟨rfl, by decide +kernel⟩
set_option maxRecDepth 100000 in
set_option maxHeartbeats 4000000 in
theorem tm_X8_areAlike : tb_X8_areAlike.flatMap (pm_allN (RX8)) = [].filterMap (fun (i : Nat) => lw_tbl[i]?) ∧ tb_X8_areAlike.all (fun r => pm_chk RX8 false r.2.1 r.2.2.1 r.2.2.2 && pm_ckj r) = true := ⟨rfl, by decide +kernel⟩
set_option maxRecDepth 100000 in
set_option maxHeartbeats 4000000 in
theorem tn_X8_alike : tb_X8_alike.flatMap (pm_all (RX8)) = [903, 905, 27, 60, 906].filterMap (fun (i : Nat) => lw_tbl[i]?) ∧ (tb_X8_alike.flatMap (pm_all (RX8))).all goodWord = true := ⟨rfl, by decide +kernel⟩
set_option maxRecDepth 100000 in
set_option maxHeartbeats 4000000 in
theorem tm_X8_alike : tb_X8_alike.flatMap (pm_allN (RX8)) = [].filterMap (fun (i : Nat) => lw_tbl[i]?) ∧ tb_X8_alike.all (fun r => pm_chk RX8 false r.2.1 r.2.2.1 r.2.2.2 && pm_ckj r) = true := ⟨rfl, by decide +kernel⟩
set_option maxRecDepth 100000 in
set_option maxHeartbeats 4000000 in
theorem tn_X8_finish : tb_X8_finish.flatMap (pm_all (RX8)) = [776, 777, 778].filterMap (fun (i : Nat) => lw_tbl[i]?) ∧ (tb_X8_finish.flatMap (pm_all (RX8))).all goodWord = true := ⟨rfl, by decide +kernel⟩
set_option maxRecDepth 100000 in
set_option maxHeartbeats 4000000 in
theorem tm_X8_finish : tb_X8_finish.flatMap (pm_allN (RX8)) = [].filterMap (fun (i : Nat) => lw_tbl[i]?) ∧ tb_X8_finish.all (fun r => pm_chk RX8 false r.2.1 r.2.2.1 r.2.2.2 && pm_ckj r) = true := ⟨rfl, by decide +kernel⟩
set_option maxRecDepth 100000 in
set_option maxHeartbeats 4000000 in
theorem tn_X8_look : tb_X8_look.flatMap (pm_all (RX8)) = [776, 899, 901, 26, 60, 902, 767, 765, 927, 929, 32, 60, 930, 771, 768, 772, 769, 773, 770, 774, 775, 773, 927, 929, 32, 60, 930].filterMap (fun (i : Nat) => lw_tbl[i]?) ∧ (tb_X8_look.flatMap (pm_all (RX8))).all goodWord = true := ⟨rfl, by decide +kernel⟩
set_option maxRecDepth 100000 in
set_option maxHeartbeats 4000000 in
theorem tm_X8_look : tb_X8_look.flatMap (pm_allN (RX8)) = [].filterMap (fun (i : Nat) => lw_tbl[i]?) ∧ tb_X8_look.all (fun r => pm_chk RX8 false r.2.1 r.2.2.1 r.2.2.2 && pm_ckj r) = true := ⟨rfl, by decide +kernel⟩
set_option maxRecDepth 100000 in
set_option maxHeartbeats 4000000 in
theorem tn_X8_takeReply : tb_X8_takeReply.flatMap (pm_all (RX8)) = [763, 763, 763, 764, 764, 765, 766, 767, 923, 925, 31, 60, 926].filterMap (fun (i : Nat) => lw_tbl[i]?) ∧ (tb_X8_takeReply.flatMap (pm_all (RX8))).all goodWord = true := ⟨rfl, by decide +kernel⟩
set_option maxRecDepth 100000 in
set_option maxHeartbeats 4000000 in
theorem tm_X8_takeReply : tb_X8_takeReply.flatMap (pm_allN (RX8)) = [].filterMap (fun (i : Nat) => lw_tbl[i]?) ∧ tb_X8_takeReply.all (fun r => pm_chk RX8 false r.2.1 r.2.2.1 r.2.2.2 && pm_ckj r) = true := ⟨rfl, by decide +kernel⟩
set_option maxRecDepth 100000 in
set_option maxHeartbeats 4000000 in
theorem tn_X8_takeAck : tb_X8_takeAck.flatMap (pm_all (RX8)) = [753, 768, 755, 769, 756, 770, 758, 736, 923, 925, 31, 60, 926].filterMap (fun (i : Nat) => lw_tbl[i]?) ∧ (tb_X8_takeAck.flatMap (pm_all (RX8))).all goodWord = true := ⟨rfl, by decide +kernel⟩
set_option maxRecDepth 100000 in
set_option maxHeartbeats 4000000 in
theorem tm_X8_takeAck : tb_X8_takeAck.flatMap (pm_allN (RX8)) = [].filterMap (fun (i : Nat) => lw_tbl[i]?) ∧ tb_X8_takeAck.all (fun r => pm_chk RX8 false r.2.1 r.2.2.1 r.2.2.2 && pm_ckj r) = true := ⟨rfl, by decide +kernel⟩
set_option maxRecDepth 100000 in
set_option maxHeartbeats 4000000 in
theorem tn_X8_issue : tb_X8_issue.flatMap (pm_all (RX8)) = [734, 883, 885, 23, 60, 886, 736, 883, 885, 23, 60, 886, 737, 736, 738, 736, 739, 736, 736, 736, 763, 736, 887, 889, 24, 60, 890, 736].filterMap (fun (i : Nat) => lw_tbl[i]?) ∧ (tb_X8_issue.flatMap (pm_all (RX8))).all goodWord = true := ⟨rfl, by decide +kernel⟩
set_option maxRecDepth 100000 in
set_option maxHeartbeats 4000000 in
theorem tm_X8_issue : tb_X8_issue.flatMap (pm_allN (RX8)) = [].filterMap (fun (i : Nat) => lw_tbl[i]?) ∧ tb_X8_issue.all (fun r => pm_chk RX8 false r.2.1 r.2.2.1 r.2.2.2 && pm_ckj r) = true := ⟨rfl, by decide +kernel⟩
set_option maxRecDepth 100000 in
set_option maxHeartbeats 4000000 in
theorem tn_X8_isRequest : tb_X8_isRequest.flatMap (pm_all (RX8)) = [736].filterMap (fun (i : Nat) => lw_tbl[i]?) ∧ (tb_X8_isRequest.flatMap (pm_all (RX8))).all goodWord = true := ⟨rfl, by decide +kernel⟩
set_option maxRecDepth 100000 in
set_option maxHeartbeats 4000000 in
theorem tm_X8_isRequest : tb_X8_isRequest.flatMap (pm_allN (RX8)) = [].filterMap (fun (i : Nat) => lw_tbl[i]?) ∧ tb_X8_isRequest.all (fun r => pm_chk RX8 false r.2.1 r.2.2.1 r.2.2.2 && pm_ckj r) = true := ⟨rfl, by decide +kernel⟩
set_option maxRecDepth 100000 in
set_option maxHeartbeats 4000000 in
theorem tn_X8_retry : tb_X8_retry.flatMap (pm_all (RX8)) = [734, 895, 897, 25, 60, 898, 883, 885, 23, 60, 886, 776, 899, 901, 26, 60, 902, 907, 909, 28, 60, 910, 771, 772, 764, 773, 765, 774, 766, 775, 767, 764, 765, 766, 907, 909, 28, 60, 910].filterMap (fun (i : Nat) => lw_tbl[i]?) ∧ (tb_X8_retry.flatMap (pm_all (RX8))).all goodWord = true := ⟨rfl, by decide +kernel⟩
set_option maxRecDepth 100000 in
set_option maxHeartbeats 4000000 in
theorem tm_X8_retry : tb_X8_retry.flatMap (pm_allN (RX8)) = [].filterMap (fun (i : Nat) => lw_tbl[i]?) ∧ tb_X8_retry.all (fun r => pm_chk RX8 false r.2.1 r.2.2.1 r.2.2.2 && pm_ckj r) = true := ⟨rfl, by decide +kernel⟩
set_option maxRecDepth 100000 in
set_option maxHeartbeats 4000000 in
theorem tn_X8_isUnderWay : tb_X8_isUnderWay.flatMap (pm_all (RX8)) = [751, 762].filterMap (fun (i : Nat) => lw_tbl[i]?) ∧ (tb_X8_isUnderWay.flatMap (pm_all (RX8))).all goodWord = true := ⟨rfl, by decide +kernel⟩
set_option maxRecDepth 100000 in
set_option maxHeartbeats 4000000 in
theorem tm_X8_isUnderWay : tb_X8_isUnderWay.flatMap (pm_allN (RX8)) = [].filterMap (fun (i : Nat) => lw_tbl[i]?) ∧ tb_X8_isUnderWay.all (fun r => pm_chk RX8 false r.2.1 r.2.2.1 r.2.2.2 && pm_ckj r) = true := ⟨rfl, by decide +kernel⟩
set_option maxRecDepth 100000 in
set_option maxHeartbeats 4000000 in
theorem tn_X8_deliver : tb_X8_deliver.flatMap (pm_all (RX8)) = [734, 915, 917, 29, 60, 918, 762, 754, 752, 753, 757, 755, 756, 758, 759, 919, 921, 30, 60, 922, 931, 933, 33, 60, 934, 754, 735, 754, 935, 937, 34, 60, 938].filterMap (fun (i : Nat) => lw_tbl[i]?) ∧ (tb_X8_deliver.flatMap (pm_all (RX8))).all goodWord = true := ⟨rfl, by decide +kernel⟩
set_option maxRecDepth 100000 in
set_option maxHeartbeats 4000000 in
theorem tm_X8_deliver : tb_X8_deliver.flatMap (pm_allN (RX8)) = [].filterMap (fun (i : Nat) => lw_tbl[i]?) ∧ tb_X8_deliver.all (fun r => pm_chk RX8 false r.2.1 r.2.2.1 r.2.2.2 && pm_ckj r) = true := ⟨rfl, by decide +kernel⟩
set_option maxRecDepth 100000 in
set_option maxHeartbeats 4000000 in
theorem tn_X8_flood : tb_X8_flood.flatMap (pm_all (RX8)) = [734, 883, 885, 23, 60, 886, 751, 1030, 912, 913, 60, 914].filterMap (fun (i : Nat) => lw_tbl[i]?) ∧ (tb_X8_flood.flatMap (pm_all (RX8))).all goodWord = true := ⟨rfl, by decide +kernel⟩
set_option maxRecDepth 100000 in
set_option maxHeartbeats 4000000 in
theorem tm_X8_flood : tb_X8_flood.flatMap (pm_allN (RX8)) = [].filterMap (fun (i : Nat) => lw_tbl[i]?) ∧ tb_X8_flood.all (fun r => pm_chk RX8 false r.2.1 r.2.2.1 r.2.2.2 && pm_ckj r) = true := ⟨rfl, by decide +kernel⟩
set_option maxRecDepth 100000 in
set_option maxHeartbeats 4000000 in
theorem tn_X8_lose : tb_X8_lose.flatMap (pm_all (RX8)) = [734, 915, 917, 29, 60, 918, 762].filterMap (fun (i : Nat) => lw_tbl[i]?) ∧ (tb_X8_lose.flatMap (pm_all (RX8))).all goodWord = true := ⟨rfl, by decide +kernel⟩
set_option maxRecDepth 100000 in
set_option maxHeartbeats 4000000 in
theorem tm_X8_lose : tb_X8_lose.flatMap (pm_allN (RX8)) = [].filterMap (fun (i : Nat) => lw_tbl[i]?) ∧ tb_X8_lose.all (fun r => pm_chk RX8 false r.2.1 r.2.2.1 r.2.2.2 && pm_ckj r) = true := ⟨rfl, by decide +kernel⟩
set_option maxRecDepth 100000 in
set_option maxHeartbeats 4000000 in
theorem tn_X8_isReplica : tb_X8_isReplica.flatMap (pm_all (RX8)) = [].filterMap (fun (i : Nat) => lw_tbl[i]?) ∧ (tb_X8_isReplica.flatMap (pm_all (RX8))).all goodWord = true := ⟨rfl, by decide +kernel⟩
set_option maxRecDepth 100000 in
set_option maxHeartbeats 4000000 in
theorem tm_X8_isReplica : tb_X8_isReplica.flatMap (pm_allN (RX8)) = [].filterMap (fun (i : Nat) => lw_tbl[i]?) ∧ tb_X8_isReplica.all (fun r => pm_chk RX8 false r.2.1 r.2.2.1 r.2.2.2 && pm_ckj r) = true := ⟨rfl, by decide +kernel⟩
set_option maxRecDepth 100000 in
set_option maxHeartbeats 4000000 in
theorem tn_X8_refuseThis : tb_X8_refuseThis.flatMap (pm_all (RX8)) = [734].filterMap (fun (i : Nat) => lw_tbl[i]?) ∧ (tb_X8_refuseThis.flatMap (pm_all (RX8))).all goodWord = true := ⟨rfl, by decide +kernel⟩
set_option maxRecDepth 100000 in
set_option maxHeartbeats 4000000 in
theorem tm_X8_refuseThis : tb_X8_refuseThis.flatMap (pm_allN (RX8)) = [].filterMap (fun (i : Nat) => lw_tbl[i]?) ∧ tb_X8_refuseThis.all (fun r => pm_chk RX8 false r.2.1 r.2.2.1 r.2.2.2 && pm_ckj r) = true := ⟨rfl, by decide +kernel⟩
set_option maxRecDepth 100000 in
set_option maxHeartbeats 4000000 in
theorem tn_X8_patience : tb_X8_patience.flatMap (pm_all (RX8)) = [734, 1039, 1040, 60, 1041, 1042, 1044, 52, 60, 1045, 735, 744, 745, 740, 907, 909, 28, 60, 910, 984, 986, 43, 60, 987].filterMap (fun (i : Nat) => lw_tbl[i]?) ∧ (tb_X8_patience.flatMap (pm_all (RX8))).all goodWord = true := ⟨rfl, by decide +kernel⟩
set_option maxRecDepth 100000 in
set_option maxHeartbeats 4000000 in
theorem tm_X8_patience : tb_X8_patience.flatMap (pm_allN (RX8)) = [].filterMap (fun (i : Nat) => lw_tbl[i]?) ∧ tb_X8_patience.all (fun r => pm_chk RX8 false r.2.1 r.2.2.1 r.2.2.2 && pm_ckj r) = true := ⟨rfl, by decide +kernel⟩
set_option maxRecDepth 100000 in
set_option maxHeartbeats 4000000 in
theorem tn_X8_lie : tb_X8_lie.flatMap (pm_all (RX8)) = [734, 1039, 1040, 60, 1041, 895, 897, 25, 60, 898, 735, 1042, 1044, 52, 60, 1045, 735, 740, 735, 735, 740, 741, 742, 741, 954, 955, 60, 956, 976, 978, 41, 60, 979].filterMap (fun (i : Nat) => lw_tbl[i]?) ∧ (tb_X8_lie.flatMap (pm_all (RX8))).all goodWord = true := ⟨rfl, by decide +kernel⟩
set_option maxRecDepth 100000 in
set_option maxHeartbeats 4000000 in
theorem tm_X8_lie : tb_X8_lie.flatMap (pm_allN (RX8)) = [].filterMap (fun (i : Nat) => lw_tbl[i]?) ∧ tb_X8_lie.all (fun r => pm_chk RX8 false r.2.1 r.2.2.1 r.2.2.2 && pm_ckj r) = true := ⟨rfl, by decide +kernel⟩
set_option maxRecDepth 100000 in
set_option maxHeartbeats 4000000 in
theorem tn_X8_echo : tb_X8_echo.flatMap (pm_all (RX8)) = [734, 1039, 1040, 60, 1041, 895, 897, 25, 60, 898, 735, 1042, 1044, 52, 60, 1045, 735, 764, 735, 764, 765, 766, 767, 919, 921, 30, 60, 922].filterMap (fun (i : Nat) => lw_tbl[i]?) ∧ (tb_X8_echo.flatMap (pm_all (RX8))).all goodWord = true := ⟨rfl, by decide +kernel⟩
set_option maxRecDepth 100000 in
set_option maxHeartbeats 4000000 in
theorem tm_X8_echo : tb_X8_echo.flatMap (pm_allN (RX8)) = [].filterMap (fun (i : Nat) => lw_tbl[i]?) ∧ tb_X8_echo.all (fun r => pm_chk RX8 false r.2.1 r.2.2.1 r.2.2.2 && pm_ckj r) = true := ⟨rfl, by decide +kernel⟩
set_option maxRecDepth 100000 in
set_option maxHeartbeats 4000000 in
theorem tn_X8_replica : tb_X8_replica.flatMap (pm_all (RX8)) = [734, 1039, 1040, 60, 1041, 883, 885, 23, 60, 886, 741, 742, 946, 947, 60, 948, 742, 741, 957, 959, 37, 60, 960, 779, 740, 741, 743, 744, 745, 746, 742, 741, 954, 955, 60, 956, 883, 885, 23, 60, 886].filterMap (fun (i : Nat) => lw_tbl[i]?) ∧ (tb_X8_replica.flatMap (pm_all (RX8))).all goodWord = true := ⟨rfl, by decide +kernel⟩
set_option maxRecDepth 100000 in
set_option maxHeartbeats 4000000 in
theorem tm_X8_replica : tb_X8_replica.flatMap (pm_allN (RX8)) = [].filterMap (fun (i : Nat) => lw_tbl[i]?) ∧ tb_X8_replica.all (fun r => pm_chk RX8 false r.2.1 r.2.2.1 r.2.2.2 && pm_ckj r) = true := ⟨rfl, by decide +kernel⟩
set_option maxRecDepth 100000 in
set_option maxHeartbeats 4000000 in
theorem tn_X8_messages : tb_X8_messages.flatMap (pm_all (RX8)) = [734, 751].filterMap (fun (i : Nat) => lw_tbl[i]?) ∧ (tb_X8_messages.flatMap (pm_all (RX8))).all goodWord = true := ⟨rfl, by decide +kernel⟩
set_option maxRecDepth 100000 in
set_option maxHeartbeats 4000000 in
theorem tm_X8_messages : tb_X8_messages.flatMap (pm_allN (RX8)) = [].filterMap (fun (i : Nat) => lw_tbl[i]?) ∧ tb_X8_messages.all (fun r => pm_chk RX8 false r.2.1 r.2.2.1 r.2.2.2 && pm_ckj r) = true := ⟨rfl, by decide +kernel⟩
set_option maxRecDepth 100000 in
set_option maxHeartbeats 4000000 in
theorem tn_X8_message : tb_X8_message.flatMap (pm_all (RX8)) = [734, 751, 883, 885, 23, 60, 886, 752, 753, 754, 755, 757, 756, 762, 883, 885, 23, 60, 886].filterMap (fun (i : Nat) => lw_tbl[i]?) ∧ (tb_X8_message.flatMap (pm_all (RX8))).all goodWord = true := ⟨rfl, by decide +kernel⟩
set_option maxRecDepth 100000 in
set_option maxHeartbeats 4000000 in
theorem tm_X8_message : tb_X8_message.flatMap (pm_allN (RX8)) = [].filterMap (fun (i : Nat) => lw_tbl[i]?) ∧ tb_X8_message.all (fun r => pm_chk RX8 false r.2.1 r.2.2.1 r.2.2.2 && pm_ckj r) = true := ⟨rfl, by decide +kernel⟩
set_option maxRecDepth 100000 in
set_option maxHeartbeats 4000000 in
theorem tn_X8_replies : tb_X8_replies.flatMap (pm_all (RX8)) = [764].filterMap (fun (i : Nat) => lw_tbl[i]?) ∧ (tb_X8_replies.flatMap (pm_all (RX8))).all goodWord = true := ⟨rfl, by decide +kernel⟩
set_option maxRecDepth 100000 in
set_option maxHeartbeats 4000000 in
theorem tm_X8_replies : tb_X8_replies.flatMap (pm_allN (RX8)) = [].filterMap (fun (i : Nat) => lw_tbl[i]?) ∧ tb_X8_replies.all (fun r => pm_chk RX8 false r.2.1 r.2.2.1 r.2.2.2 && pm_ckj r) = true := ⟨rfl, by decide +kernel⟩
set_option maxRecDepth 100000 in
set_option maxHeartbeats 4000000 in
theorem tn_X8_request : tb_X8_request.flatMap (pm_all (RX8)) = [734, 895, 897, 25, 60, 898, 883, 885, 23, 60, 886, 776, 777, 778, 1070, 1072, 53, 60, 1073, 771, 883, 885, 23, 60, 886].filterMap (fun (i : Nat) => lw_tbl[i]?) ∧ (tb_X8_request.flatMap (pm_all (RX8))).all goodWord = true := ⟨rfl, by decide +kernel⟩
set_option maxRecDepth 100000 in
set_option maxHeartbeats 4000000 in
theorem tm_X8_request : tb_X8_request.flatMap (pm_allN (RX8)) = [].filterMap (fun (i : Nat) => lw_tbl[i]?) ∧ tb_X8_request.all (fun r => pm_chk RX8 false r.2.1 r.2.2.1 r.2.2.2 && pm_ckj r) = true := ⟨rfl, by decide +kernel⟩
set_option maxRecDepth 100000 in
set_option maxHeartbeats 4000000 in
theorem tn_X8_view : tb_X8_view.flatMap (pm_all (RX8)) = [734, 763].filterMap (fun (i : Nat) => lw_tbl[i]?) ∧ (tb_X8_view.flatMap (pm_all (RX8))).all goodWord = true := ⟨rfl, by decide +kernel⟩
set_option maxRecDepth 100000 in
set_option maxHeartbeats 4000000 in
theorem tm_X8_view : tb_X8_view.flatMap (pm_allN (RX8)) = [].filterMap (fun (i : Nat) => lw_tbl[i]?) ∧ tb_X8_view.all (fun r => pm_chk RX8 false r.2.1 r.2.2.1 r.2.2.2 && pm_ckj r) = true := ⟨rfl, by decide +kernel⟩
set_option maxRecDepth 100000 in
set_option maxHeartbeats 4000000 in
theorem tn_J6_bitCount_0f7a4 : tb_J6_bitCount_0f7a4.flatMap (pm_all (RJ6)) = [413, 414, 414, 415].filterMap (fun (i : Nat) => lw_tbl[i]?) ∧ (tb_J6_bitCount_0f7a4.flatMap (pm_all (RJ6))).all goodWord = true := ⟨rfl, by decide +kernel⟩
set_option maxRecDepth 100000 in
set_option maxHeartbeats 4000000 in
theorem tm_J6_bitCount_0f7a4 : tb_J6_bitCount_0f7a4.flatMap (pm_allN (RJ6)) = [].filterMap (fun (i : Nat) => lw_tbl[i]?) ∧ tb_J6_bitCount_0f7a4.all (fun r => pm_chk RJ6 false r.2.1 r.2.2.1 r.2.2.2 && pm_ckj r) = true := ⟨rfl, by decide +kernel⟩
set_option maxRecDepth 100000 in
set_option maxHeartbeats 4000000 in
theorem tn_L_cell : tb_L_cell.flatMap (pm_all (RL)) = [].filterMap (fun (i : Nat) => lw_tbl[i]?) ∧ (tb_L_cell.flatMap (pm_all (RL))).all goodWord = true := ⟨rfl, by decide +kernel⟩
set_option maxRecDepth 100000 in
set_option maxHeartbeats 4000000 in
theorem tm_L_cell : tb_L_cell.flatMap (pm_allN (RL)) = [].filterMap (fun (i : Nat) => lw_tbl[i]?) ∧ tb_L_cell.all (fun r => pm_chk RL false r.2.1 r.2.2.1 r.2.2.2 && pm_ckj r) = true := ⟨rfl, by decide +kernel⟩
set_option maxRecDepth 100000 in
set_option maxHeartbeats 4000000 in
theorem tn_L_issue : tb_L_issue.flatMap (pm_all (RL)) = [490, 491, 492, 55, 493].filterMap (fun (i : Nat) => lw_tbl[i]?) ∧ (tb_L_issue.flatMap (pm_all (RL))).all goodWord = true := ⟨rfl, by decide +kernel⟩
set_option maxRecDepth 100000 in
set_option maxHeartbeats 4000000 in
theorem tm_L_issue : tb_L_issue.flatMap (pm_allN (RL)) = [].filterMap (fun (i : Nat) => lw_tbl[i]?) ∧ tb_L_issue.all (fun r => pm_chk RL false r.2.1 r.2.2.1 r.2.2.2 && pm_ckj r) = true := ⟨rfl, by decide +kernel⟩
set_option maxRecDepth 100000 in
set_option maxHeartbeats 4000000 in
theorem tn_L_retry : tb_L_retry.flatMap (pm_all (RL)) = [622, 623, 624, 55, 625].filterMap (fun (i : Nat) => lw_tbl[i]?) ∧ (tb_L_retry.flatMap (pm_all (RL))).all goodWord = true := ⟨rfl, by decide +kernel⟩
set_option maxRecDepth 100000 in
set_option maxHeartbeats 4000000 in
theorem tm_L_retry : tb_L_retry.flatMap (pm_allN (RL)) = [].filterMap (fun (i : Nat) => lw_tbl[i]?) ∧ tb_L_retry.all (fun r => pm_chk RL false r.2.1 r.2.2.1 r.2.2.2 && pm_ckj r) = true := ⟨rfl, by decide +kernel⟩
set_option maxRecDepth 100000 in
set_option maxHeartbeats 4000000 in
theorem tn_L_flood : tb_L_flood.flatMap (pm_all (RL)) = [652, 653, 654, 55, 655].filterMap (fun (i : Nat) => lw_tbl[i]?) ∧ (tb_L_flood.flatMap (pm_all (RL))).all goodWord = true := ⟨rfl, by decide +kernel⟩
set_option maxRecDepth 100000 in
set_option maxHeartbeats 4000000 in
theorem tm_L_flood : tb_L_flood.flatMap (pm_allN (RL)) = [].filterMap (fun (i : Nat) => lw_tbl[i]?) ∧ tb_L_flood.all (fun r => pm_chk RL false r.2.1 r.2.2.1 r.2.2.2 && pm_ckj r) = true := ⟨rfl, by decide +kernel⟩
set_option maxRecDepth 100000 in
set_option maxHeartbeats 4000000 in
theorem tn_L_patience : tb_L_patience.flatMap (pm_all (RL)) = [660, 661, 662, 55, 663].filterMap (fun (i : Nat) => lw_tbl[i]?) ∧ (tb_L_patience.flatMap (pm_all (RL))).all goodWord = true := ⟨rfl, by decide +kernel⟩
set_option maxRecDepth 100000 in
set_option maxHeartbeats 4000000 in
theorem tm_L_patience : tb_L_patience.flatMap (pm_allN (RL)) = [].filterMap (fun (i : Nat) => lw_tbl[i]?) ∧ tb_L_patience.all (fun r => pm_chk RL false r.2.1 r.2.2.1 r.2.2.2 && pm_ckj r) = true := ⟨rfl, by decide +kernel⟩
set_option maxRecDepth 100000 in
set_option maxHeartbeats 4000000 in
theorem tn_L_lie : tb_L_lie.flatMap (pm_all (RL)) = [673, 674, 675, 55, 676].filterMap (fun (i : Nat) => lw_tbl[i]?) ∧ (tb_L_lie.flatMap (pm_all (RL))).all goodWord = true := ⟨rfl, by decide +kernel⟩
set_option maxRecDepth 100000 in
set_option maxHeartbeats 4000000 in
theorem tm_L_lie : tb_L_lie.flatMap (pm_allN (RL)) = [].filterMap (fun (i : Nat) => lw_tbl[i]?) ∧ tb_L_lie.all (fun r => pm_chk RL false r.2.1 r.2.2.1 r.2.2.2 && pm_ckj r) = true := ⟨rfl, by decide +kernel⟩
set_option maxRecDepth 100000 in
set_option maxHeartbeats 4000000 in
theorem tn_L_echo : tb_L_echo.flatMap (pm_all (RL)) = [683, 684, 685, 55, 686].filterMap (fun (i : Nat) => lw_tbl[i]?) ∧ (tb_L_echo.flatMap (pm_all (RL))).all goodWord = true := ⟨rfl, by decide +kernel⟩
set_option maxRecDepth 100000 in
set_option maxHeartbeats 4000000 in
theorem tm_L_echo : tb_L_echo.flatMap (pm_allN (RL)) = [].filterMap (fun (i : Nat) => lw_tbl[i]?) ∧ tb_L_echo.all (fun r => pm_chk RL false r.2.1 r.2.2.1 r.2.2.2 && pm_ckj r) = true := ⟨rfl, by decide +kernel⟩
set_option maxRecDepth 100000 in
set_option maxHeartbeats 4000000 in
theorem tn_L_replica : tb_L_replica.flatMap (pm_all (RL)) = [690, 691, 692, 55, 693].filterMap (fun (i : Nat) => lw_tbl[i]?) ∧ (tb_L_replica.flatMap (pm_all (RL))).all goodWord = true := ⟨rfl, by decide +kernel⟩
set_option maxRecDepth 100000 in
set_option maxHeartbeats 4000000 in
theorem tm_L_replica : tb_L_replica.flatMap (pm_allN (RL)) = [].filterMap (fun (i : Nat) => lw_tbl[i]?) ∧ tb_L_replica.all (fun r => pm_chk RL false r.2.1 r.2.2.1 r.2.2.2 && pm_ckj r) = true := ⟨rfl, by decide +kernel⟩
set_option maxRecDepth 100000 in
set_option maxHeartbeats 4000000 in
theorem tn_L_message : tb_L_message.flatMap (pm_all (RL)) = [703, 704, 705, 55, 706].filterMap (fun (i : Nat) => lw_tbl[i]?) ∧ (tb_L_message.flatMap (pm_all (RL))).all goodWord = true := ⟨rfl, by decide +kernel⟩
set_option maxRecDepth 100000 in
set_option maxHeartbeats 4000000 in
theorem tm_L_message : tb_L_message.flatMap (pm_allN (RL)) = [].filterMap (fun (i : Nat) => lw_tbl[i]?) ∧ tb_L_message.all (fun r => pm_chk RL false r.2.1 r.2.2.1 r.2.2.2 && pm_ckj r) = true := ⟨rfl, by decide +kernel⟩
set_option maxRecDepth 100000 in
set_option maxHeartbeats 4000000 in
theorem tn_L_request : tb_L_request.flatMap (pm_all (RL)) = [715, 716, 717, 55, 718].filterMap (fun (i : Nat) => lw_tbl[i]?) ∧ (tb_L_request.flatMap (pm_all (RL))).all goodWord = true := ⟨rfl, by decide +kernel⟩
set_option maxRecDepth 100000 in
set_option maxHeartbeats 4000000 in
theorem tm_L_request : tb_L_request.flatMap (pm_allN (RL)) = [].filterMap (fun (i : Nat) => lw_tbl[i]?) ∧ tb_L_request.all (fun r => pm_chk RL false r.2.1 r.2.2.1 r.2.2.2 && pm_ckj r) = true := ⟨rfl, by decide +kernel⟩
set_option maxRecDepth 100000 in
set_option maxHeartbeats 4000000 in
theorem tn_L_law : tb_L_law.flatMap (pm_all (RL)) = [73, 74, 55, 482, 483, 54, 484, 75, 76, 55, 77, 728, 729, 60, 482, 483, 54, 484, 730, 731, 60, 732, 873, 485, 486, 54, 487, 879, 880, 881, 60, 882, 875, 876, 877, 60, 878, 618, 619, 54, 620, 891, 892, 893, 60, 894, 875, 876, 877, 60, 878, 206, 207, 208, 55, 209, 911, 912, 913, 60, 914, 649, 650, 54, 651, 1026, 1027, 1028, 60, 1029, 875, 876, 877, 60, 878, 470, 471, 472, 55, 473, 1031, 1032, 1033, 60, 1034, 657, 658, 54, 659, 1035, 1036, 1037, 60, 1038, 875, 876, 877, 60, 878, 670, 671, 54, 672, 1046, 1047, 1048, 60, 1049, 875, 876, 877, 60, 878, 680, 681, 54, 682, 1050, 1051, 1052, 60, 1053, 875, 876, 877, 60, 878, 687, 688, 54, 689, 1054, 1055, 1056, 60, 1057, 875, 876, 877, 60, 878, 474, 475, 476, 55, 477, 1058, 1059, 1060, 60, 1061, 700, 701, 54, 702, 1062, 1063, 1064, 60, 1065, 875, 876, 877, 60, 878, 712, 713, 54, 714, 1066, 1067, 1068, 60, 1069, 875, 876, 877, 60, 878, 478, 479, 480, 55, 481, 1074, 1075, 1076, 60, 1077].filterMap (fun (i : Nat) => lw_tbl[i]?) ∧ (tb_L_law.flatMap (pm_all (RL))).all goodWord = true := ⟨rfl, by decide +kernel⟩
set_option maxRecDepth 100000 in
set_option maxHeartbeats 4000000 in
theorem tm_L_law : tb_L_law.flatMap (pm_allN (RL)) = [].filterMap (fun (i : Nat) => lw_tbl[i]?) ∧ tb_L_law.all (fun r => pm_chk RL false r.2.1 r.2.2.1 r.2.2.2 && pm_ckj r) = true := ⟨rfl, by decide +kernel⟩
