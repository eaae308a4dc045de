/-! the tables' rows name words that the Statement has -/
set_option maxRecDepth 100000 in
set_option maxHeartbeats 4000000 in
theorem tn_X0_init : tb_X0_init.flatMap (pm_all (RX0)) = [107, 79, 80, 108, 112, 113, 115, 110, 111].filterMap (fun (i : Nat) => lw_tbl[i]?) ∧ (tb_X0_init.flatMap (pm_all (RX0))).all goodWord = true := ⟨rfl, by decide +kernel⟩
set_option maxRecDepth 100000 in
set_option maxHeartbeats 4000000 in
theorem tm_X0_init : tb_X0_init.flatMap (pm_allN (RX0)) = [].filterMap (fun (i : Nat) => lw_tbl[i]?) ∧ tb_X0_init.all (fun r => pm_chk RX0 true r.2.1 r.2.2.1 r.2.2.2 && pm_ckj r) = true := ⟨rfl, by decide +kernel⟩
set_option maxRecDepth 100000 in
set_option maxHeartbeats 4000000 in
theorem tn_X0_find : tb_X0_find.flatMap (pm_all (RX0)) = [113, 110].filterMap (fun (i : Nat) => lw_tbl[i]?) ∧ (tb_X0_find.flatMap (pm_all (RX0))).all goodWord = true := ⟨rfl, by decide +kernel⟩
set_option maxRecDepth 100000 in
set_option maxHeartbeats 4000000 in
theorem tm_X0_find : tb_X0_find.flatMap (pm_allN (RX0)) = [].filterMap (fun (i : Nat) => lw_tbl[i]?) ∧ tb_X0_find.all (fun r => pm_chk RX0 false r.2.1 r.2.2.1 r.2.2.2 && pm_ckj r) = true := ⟨rfl, by decide +kernel⟩
set_option maxRecDepth 100000 in
set_option maxHeartbeats 4000000 in
theorem tn_X0_begin : tb_X0_begin.flatMap (pm_all (RX0)) = [113, 113, 110, 113, 113, 111, 115, 273, 55, 274, 387, 55, 388, 617, 340, 341, 56, 342].filterMap (fun (i : Nat) => lw_tbl[i]?) ∧ (tb_X0_begin.flatMap (pm_all (RX0))).all goodWord = true := ⟨rfl, by decide +kernel⟩
set_option maxRecDepth 100000 in
set_option maxHeartbeats 4000000 in
theorem tm_X0_begin : tb_X0_begin.flatMap (pm_allN (RX0)) = [615, 616].filterMap (fun (i : Nat) => lw_tbl[i]?) ∧ tb_X0_begin.all (fun r => pm_chk RX0 false r.2.1 r.2.2.1 r.2.2.2 && pm_ckj r) = true := ⟨rfl, by decide +kernel⟩
set_option maxRecDepth 100000 in
set_option maxHeartbeats 4000000 in
theorem tn_X0_tryAgain : tb_X0_tryAgain.flatMap (pm_all (RX0)) = [238, 239, 240, 66, 241, 111, 387, 55, 388, 647, 370, 371, 56, 372, 111, 108, 287, 67, 648, 296, 67, 297, 647, 370, 371, 56, 372].filterMap (fun (i : Nat) => lw_tbl[i]?) ∧ (tb_X0_tryAgain.flatMap (pm_all (RX0))).all goodWord = true := ⟨rfl, by decide +kernel⟩
set_option maxRecDepth 100000 in
set_option maxHeartbeats 4000000 in
theorem tm_X0_tryAgain : tb_X0_tryAgain.flatMap (pm_allN (RX0)) = [591, 616, 589, 306, 314, 318].filterMap (fun (i : Nat) => lw_tbl[i]?) ∧ tb_X0_tryAgain.all (fun r => pm_chk RX0 false r.2.1 r.2.2.1 r.2.2.2 && pm_ckj r) = true := ⟨rfl, by decide +kernel⟩
set_option maxRecDepth 100000 in
set_option maxHeartbeats 4000000 in
theorem tn_X0_take : tb_X0_take.flatMap (pm_all (RX0)) = [100, 55, 101, 115, 223, 224, 70, 225, 115, 226, 227, 228, 57, 229, 230, 231, 232, 66, 233, 234, 236, 1, 57, 237, 112, 113, 110, 234, 236, 1, 57, 237].filterMap (fun (i : Nat) => lw_tbl[i]?) ∧ (tb_X0_take.flatMap (pm_all (RX0))).all goodWord = true := ⟨rfl, by decide +kernel⟩
set_option maxRecDepth 100000 in
set_option maxHeartbeats 4000000 in
theorem tm_X0_take : tb_X0_take.flatMap (pm_allN (RX0)) = [222, 302, 306, 311, 302].filterMap (fun (i : Nat) => lw_tbl[i]?) ∧ tb_X0_take.all (fun r => pm_chk RX0 false r.2.1 r.2.2.1 r.2.2.2 && pm_ckj r) = true := ⟨rfl, by decide +kernel⟩
set_option maxRecDepth 100000 in
set_option maxHeartbeats 4000000 in
theorem tn_X0_lookAt : tb_X0_lookAt.flatMap (pm_all (RX0)) = [238, 239, 240, 66, 241, 255, 256, 257, 66, 258, 259, 261, 3, 57, 262, 255, 256, 257, 66, 258].filterMap (fun (i : Nat) => lw_tbl[i]?) ∧ (tb_X0_lookAt.flatMap (pm_all (RX0))).all goodWord = true := ⟨rfl, by decide +kernel⟩
set_option maxRecDepth 100000 in
set_option maxHeartbeats 4000000 in
theorem tm_X0_lookAt : tb_X0_lookAt.flatMap (pm_allN (RX0)) = [591, 589, 589, 589].filterMap (fun (i : Nat) => lw_tbl[i]?) ∧ tb_X0_lookAt.all (fun r => pm_chk RX0 false r.2.1 r.2.2.1 r.2.2.2 && pm_ckj r) = true := ⟨rfl, by decide +kernel⟩
set_option maxRecDepth 100000 in
set_option maxHeartbeats 4000000 in
theorem tn_X0_countAcks : tb_X0_countAcks.flatMap (pm_all (RX0)) = [112, 112, 263, 252, 253, 67, 254].filterMap (fun (i : Nat) => lw_tbl[i]?) ∧ (tb_X0_countAcks.flatMap (pm_all (RX0))).all goodWord = true := ⟨rfl, by decide +kernel⟩
set_option maxRecDepth 100000 in
set_option maxHeartbeats 4000000 in
theorem tm_X0_countAcks : tb_X0_countAcks.flatMap (pm_allN (RX0)) = [].filterMap (fun (i : Nat) => lw_tbl[i]?) ∧ tb_X0_countAcks.all (fun r => pm_chk RX0 false r.2.1 r.2.2.1 r.2.2.2 && pm_ckj r) = true := ⟨rfl, by decide +kernel⟩
set_option maxRecDepth 100000 in
set_option maxHeartbeats 4000000 in
theorem tn_X1_init : tb_X1_init.flatMap (pm_all (RX1)) = [140, 79, 80, 154, 141, 142, 145].filterMap (fun (i : Nat) => lw_tbl[i]?) ∧ (tb_X1_init.flatMap (pm_all (RX1))).all goodWord = true := ⟨rfl, by decide +kernel⟩
set_option maxRecDepth 100000 in
set_option maxHeartbeats 4000000 in
theorem tm_X1_init : tb_X1_init.flatMap (pm_allN (RX1)) = [].filterMap (fun (i : Nat) => lw_tbl[i]?) ∧ tb_X1_init.all (fun r => pm_chk RX1 true r.2.1 r.2.2.1 r.2.2.2 && pm_ckj r) = true := ⟨rfl, by decide +kernel⟩
set_option maxRecDepth 100000 in
set_option maxHeartbeats 4000000 in
theorem tn_X1_add : tb_X1_add.flatMap (pm_all (RX1)) = [142, 141, 142, 142, 142].filterMap (fun (i : Nat) => lw_tbl[i]?) ∧ (tb_X1_add.flatMap (pm_all (RX1))).all goodWord = true := ⟨rfl, by decide +kernel⟩
set_option maxRecDepth 100000 in
set_option maxHeartbeats 4000000 in
theorem tm_X1_add : tb_X1_add.flatMap (pm_allN (RX1)) = [].filterMap (fun (i : Nat) => lw_tbl[i]?) ∧ tb_X1_add.all (fun r => pm_chk RX1 false r.2.1 r.2.2.1 r.2.2.2 && pm_ckj r) = true := ⟨rfl, by decide +kernel⟩
set_option maxRecDepth 100000 in
set_option maxHeartbeats 4000000 in
theorem tn_X1_at : tb_X1_at.flatMap (pm_all (RX1)) = [142, 141].filterMap (fun (i : Nat) => lw_tbl[i]?) ∧ (tb_X1_at.flatMap (pm_all (RX1))).all goodWord = true := ⟨rfl, by decide +kernel⟩
set_option maxRecDepth 100000 in
set_option maxHeartbeats 4000000 in
theorem tm_X1_at : tb_X1_at.flatMap (pm_allN (RX1)) = [].filterMap (fun (i : Nat) => lw_tbl[i]?) ∧ tb_X1_at.all (fun r => pm_chk RX1 false r.2.1 r.2.2.1 r.2.2.2 && pm_ckj r) = true := ⟨rfl, by decide +kernel⟩
set_option maxRecDepth 100000 in
set_option maxHeartbeats 4000000 in
theorem tn_X1_placeOf : tb_X1_placeOf.flatMap (pm_all (RX1)) = [142, 141].filterMap (fun (i : Nat) => lw_tbl[i]?) ∧ (tb_X1_placeOf.flatMap (pm_all (RX1))).all goodWord = true := ⟨rfl, by decide +kernel⟩
set_option maxRecDepth 100000 in
set_option maxHeartbeats 4000000 in
theorem tm_X1_placeOf : tb_X1_placeOf.flatMap (pm_allN (RX1)) = [].filterMap (fun (i : Nat) => lw_tbl[i]?) ∧ tb_X1_placeOf.all (fun r => pm_chk RX1 false r.2.1 r.2.2.1 r.2.2.2 && pm_ckj r) = true := ⟨rfl, by decide +kernel⟩
set_option maxRecDepth 100000 in
set_option maxHeartbeats 4000000 in
theorem tn_X1_digest : tb_X1_digest.flatMap (pm_all (RX1)) = [142, 141, 292, 293, 59, 294].filterMap (fun (i : Nat) => lw_tbl[i]?) ∧ (tb_X1_digest.flatMap (pm_all (RX1))).all goodWord = true := ⟨rfl, by decide +kernel⟩
set_option maxRecDepth 100000 in
set_option maxHeartbeats 4000000 in
theorem tm_X1_digest : tb_X1_digest.flatMap (pm_allN (RX1)) = [].filterMap (fun (i : Nat) => lw_tbl[i]?) ∧ tb_X1_digest.all (fun r => pm_chk RX1 false r.2.1 r.2.2.1 r.2.2.2 && pm_ckj r) = true := ⟨rfl, by decide +kernel⟩
set_option maxRecDepth 100000 in
set_option maxHeartbeats 4000000 in
theorem tn_X1_beginsWith : tb_X1_beginsWith.flatMap (pm_all (RX1)) = [142, 142, 142, 141, 141].filterMap (fun (i : Nat) => lw_tbl[i]?) ∧ (tb_X1_beginsWith.flatMap (pm_all (RX1))).all goodWord = true := ⟨rfl, by decide +kernel⟩
set_option maxRecDepth 100000 in
set_option maxHeartbeats 4000000 in
theorem tm_X1_beginsWith : tb_X1_beginsWith.flatMap (pm_allN (RX1)) = [].filterMap (fun (i : Nat) => lw_tbl[i]?) ∧ tb_X1_beginsWith.all (fun r => pm_chk RX1 false r.2.1 r.2.2.1 r.2.2.2 && pm_ckj r) = true := ⟨rfl, by decide +kernel⟩
set_option maxRecDepth 100000 in
set_option maxHeartbeats 4000000 in
theorem tn_X1_copy : tb_X1_copy.flatMap (pm_all (RX1)) = [424, 136, 59, 425, 138, 59, 139, 141, 141, 142, 426, 428, 427, 72, 142, 142, 145, 145].filterMap (fun (i : Nat) => lw_tbl[i]?) ∧ (tb_X1_copy.flatMap (pm_all (RX1))).all goodWord = true := ⟨rfl, by decide +kernel⟩
set_option maxRecDepth 100000 in
set_option maxHeartbeats 4000000 in
theorem tm_X1_copy : tb_X1_copy.flatMap (pm_allN (RX1)) = [].filterMap (fun (i : Nat) => lw_tbl[i]?) ∧ tb_X1_copy.all (fun r => pm_chk RX1 false r.2.1 r.2.2.1 r.2.2.2 && pm_ckj r) = true := ⟨rfl, by decide +kernel⟩
set_option maxRecDepth 100000 in
set_option maxHeartbeats 4000000 in
theorem tn_X1_digestWith : tb_X1_digestWith.flatMap (pm_all (RX1)) = [].filterMap (fun (i : Nat) => lw_tbl[i]?) ∧ (tb_X1_digestWith.flatMap (pm_all (RX1))).all goodWord = true := ⟨rfl, by decide +kernel⟩
set_option maxRecDepth 100000 in
set_option maxHeartbeats 4000000 in
theorem tm_X1_digestWith : tb_X1_digestWith.flatMap (pm_allN (RX1)) = [].filterMap (fun (i : Nat) => lw_tbl[i]?) ∧ tb_X1_digestWith.all (fun r => pm_chk RX1 false r.2.1 r.2.2.1 r.2.2.2 && pm_ckj r) = true := ⟨rfl, by decide +kernel⟩
set_option maxRecDepth 100000 in
set_option maxHeartbeats 4000000 in
theorem tn_X2_init : tb_X2_init.flatMap (pm_all (RX2)) = [298, 79, 80, 299, 303, 308, 312, 317, 320, 322].filterMap (fun (i : Nat) => lw_tbl[i]?) ∧ (tb_X2_init.flatMap (pm_all (RX2))).all goodWord = true := ⟨rfl, by decide +kernel⟩
set_option maxRecDepth 100000 in
set_option maxHeartbeats 4000000 in
theorem tm_X2_init : tb_X2_init.flatMap (pm_allN (RX2)) = [].filterMap (fun (i : Nat) => lw_tbl[i]?) ∧ tb_X2_init.all (fun r => pm_chk RX2 true r.2.1 r.2.2.1 r.2.2.2 && pm_ckj r) = true := ⟨rfl, by decide +kernel⟩
set_option maxRecDepth 100000 in
set_option maxHeartbeats 4000000 in
theorem tn_X2_samePoint : tb_X2_samePoint.flatMap (pm_all (RX2)) = [303, 303, 312, 312, 317, 317].filterMap (fun (i : Nat) => lw_tbl[i]?) ∧ (tb_X2_samePoint.flatMap (pm_all (RX2))).all goodWord = true := ⟨rfl, by decide +kernel⟩
set_option maxRecDepth 100000 in
set_option maxHeartbeats 4000000 in
theorem tm_X2_samePoint : tb_X2_samePoint.flatMap (pm_allN (RX2)) = [].filterMap (fun (i : Nat) => lw_tbl[i]?) ∧ tb_X2_samePoint.all (fun r => pm_chk RX2 false r.2.1 r.2.2.1 r.2.2.2 && pm_ckj r) = true := ⟨rfl, by decide +kernel⟩
set_option maxRecDepth 100000 in
set_option maxHeartbeats 4000000 in
theorem tn_X2_sameReply : tb_X2_sameReply.flatMap (pm_all (RX2)) = [251, 252, 253, 67, 254, 308, 308, 320, 320].filterMap (fun (i : Nat) => lw_tbl[i]?) ∧ (tb_X2_sameReply.flatMap (pm_all (RX2))).all goodWord = true := ⟨rfl, by decide +kernel⟩
set_option maxRecDepth 100000 in
set_option maxHeartbeats 4000000 in
theorem tm_X2_sameReply : tb_X2_sameReply.flatMap (pm_allN (RX2)) = [].filterMap (fun (i : Nat) => lw_tbl[i]?) ∧ tb_X2_sameReply.all (fun r => pm_chk RX2 false r.2.1 r.2.2.1 r.2.2.2 && pm_ckj r) = true := ⟨rfl, by decide +kernel⟩
set_option maxRecDepth 100000 in
set_option maxHeartbeats 4000000 in
theorem tn_X3_init : tb_X3_init.flatMap (pm_all (RX3)) = [347, 79, 80, 354, 348, 350, 352].filterMap (fun (i : Nat) => lw_tbl[i]?) ∧ (tb_X3_init.flatMap (pm_all (RX3))).all goodWord = true := ⟨rfl, by decide +kernel⟩
set_option maxRecDepth 100000 in
set_option maxHeartbeats 4000000 in
theorem tm_X3_init : tb_X3_init.flatMap (pm_allN (RX3)) = [].filterMap (fun (i : Nat) => lw_tbl[i]?) ∧ tb_X3_init.all (fun r => pm_chk RX3 true r.2.1 r.2.2.1 r.2.2.2 && pm_ckj r) = true := ⟨rfl, by decide +kernel⟩
set_option maxRecDepth 100000 in
set_option maxHeartbeats 4000000 in
theorem tn_X3_tell : tb_X3_tell.flatMap (pm_all (RX3)) = [352, 348, 350, 352, 352, 352, 354].filterMap (fun (i : Nat) => lw_tbl[i]?) ∧ (tb_X3_tell.flatMap (pm_all (RX3))).all goodWord = true := ⟨rfl, by decide +kernel⟩
set_option maxRecDepth 100000 in
set_option maxHeartbeats 4000000 in
theorem tm_X3_tell : tb_X3_tell.flatMap (pm_allN (RX3)) = [300, 304, 309, 313].filterMap (fun (i : Nat) => lw_tbl[i]?) ∧ tb_X3_tell.all (fun r => pm_chk RX3 false r.2.1 r.2.2.1 r.2.2.2 && pm_ckj r) = true := ⟨rfl, by decide +kernel⟩
set_option maxRecDepth 100000 in
set_option maxHeartbeats 4000000 in
theorem tn_X4_init : tb_X4_init.flatMap (pm_all (RX4)) = [88, 79, 80, 89, 91, 92].filterMap (fun (i : Nat) => lw_tbl[i]?) ∧ (tb_X4_init.flatMap (pm_all (RX4))).all goodWord = true := ⟨rfl, by decide +kernel⟩
set_option maxRecDepth 100000 in
set_option maxHeartbeats 4000000 in
theorem tm_X4_init : tb_X4_init.flatMap (pm_allN (RX4)) = [].filterMap (fun (i : Nat) => lw_tbl[i]?) ∧ tb_X4_init.all (fun r => pm_chk RX4 true r.2.1 r.2.2.1 r.2.2.2 && pm_ckj r) = true := ⟨rfl, by decide +kernel⟩
set_option maxRecDepth 100000 in
set_option maxHeartbeats 4000000 in
theorem tn_X4_send : tb_X4_send.flatMap (pm_all (RX4)) = [92, 91, 92, 89, 343, 68, 344, 345, 68, 346, 92, 92].filterMap (fun (i : Nat) => lw_tbl[i]?) ∧ (tb_X4_send.flatMap (pm_all (RX4))).all goodWord = true := ⟨rfl, by decide +kernel⟩
set_option maxRecDepth 100000 in
set_option maxHeartbeats 4000000 in
theorem tm_X4_send : tb_X4_send.flatMap (pm_allN (RX4)) = [].filterMap (fun (i : Nat) => lw_tbl[i]?) ∧ tb_X4_send.all (fun r => pm_chk RX4 false r.2.1 r.2.2.1 r.2.2.2 && pm_ckj r) = true := ⟨rfl, by decide +kernel⟩
set_option maxRecDepth 100000 in
set_option maxHeartbeats 4000000 in
theorem tn_X4_sendToAll : tb_X4_sendToAll.flatMap (pm_all (RX4)) = [373, 340, 341, 56, 342].filterMap (fun (i : Nat) => lw_tbl[i]?) ∧ (tb_X4_sendToAll.flatMap (pm_all (RX4))).all goodWord = true := ⟨rfl, by decide +kernel⟩
set_option maxRecDepth 100000 in
set_option maxHeartbeats 4000000 in
theorem tm_X4_sendToAll : tb_X4_sendToAll.flatMap (pm_allN (RX4)) = [].filterMap (fun (i : Nat) => lw_tbl[i]?) ∧ tb_X4_sendToAll.all (fun r => pm_chk RX4 false r.2.1 r.2.2.1 r.2.2.2 && pm_ckj r) = true := ⟨rfl, by decide +kernel⟩
set_option maxRecDepth 100000 in
set_option maxHeartbeats 4000000 in
theorem tn_X4_find : tb_X4_find.flatMap (pm_all (RX4)) = [92, 91].filterMap (fun (i : Nat) => lw_tbl[i]?) ∧ (tb_X4_find.flatMap (pm_all (RX4))).all goodWord = true := ⟨rfl, by decide +kernel⟩
set_option maxRecDepth 100000 in
set_option maxHeartbeats 4000000 in
theorem tm_X4_find : tb_X4_find.flatMap (pm_allN (RX4)) = [].filterMap (fun (i : Nat) => lw_tbl[i]?) ∧ tb_X4_find.all (fun r => pm_chk RX4 false r.2.1 r.2.2.1 r.2.2.2 && pm_ckj r) = true := ⟨rfl, by decide +kernel⟩
set_option maxRecDepth 100000 in
set_option maxHeartbeats 4000000 in
theorem tn_X5_init : tb_X5_init.flatMap (pm_all (RX5)) = [134, 79, 80, 135, 136, 59, 138, 59, 139, 159, 154, 161, 154, 163, 155, 164, 165, 167, 168, 169, 156, 157, 158].filterMap (fun (i : Nat) => lw_tbl[i]?) ∧ (tb_X5_init.flatMap (pm_all (RX5))).all goodWord = true := ⟨rfl, by decide +kernel⟩
set_option maxRecDepth 100000 in
set_option maxHeartbeats 4000000 in
theorem tm_X5_init : tb_X5_init.flatMap (pm_allN (RX5)) = [137].filterMap (fun (i : Nat) => lw_tbl[i]?) ∧ tb_X5_init.all (fun r => pm_chk RX5 true r.2.1 r.2.2.1 r.2.2.2 && pm_ckj r) = true := ⟨rfl, by decide +kernel⟩
set_option maxRecDepth 100000 in
set_option maxHeartbeats 4000000 in
theorem tn_X5_tell : tb_X5_tell.flatMap (pm_all (RX5)) = [165, 159, 159, 167, 168, 169, 159, 159, 288, 289, 290, 59, 291].filterMap (fun (i : Nat) => lw_tbl[i]?) ∧ (tb_X5_tell.flatMap (pm_all (RX5))).all goodWord = true := ⟨rfl, by decide +kernel⟩
set_option maxRecDepth 100000 in
set_option maxHeartbeats 4000000 in
theorem tm_X5_tell : tb_X5_tell.flatMap (pm_allN (RX5)) = [143, 146, 143].filterMap (fun (i : Nat) => lw_tbl[i]?) ∧ tb_X5_tell.all (fun r => pm_chk RX5 false r.2.1 r.2.2.1 r.2.2.2 && pm_ckj r) = true := ⟨rfl, by decide +kernel⟩
set_option maxRecDepth 100000 in
set_option maxHeartbeats 4000000 in
theorem tn_X5_fittingOrder : tb_X5_fittingOrder.flatMap (pm_all (RX5)) = [159, 159, 288, 289, 290, 59, 291, 399, 293, 59, 294, 155, 287, 67, 165, 159, 295, 296, 67, 297].filterMap (fun (i : Nat) => lw_tbl[i]?) ∧ (tb_X5_fittingOrder.flatMap (pm_all (RX5))).all goodWord = true := ⟨rfl, by decide +kernel⟩
set_option maxRecDepth 100000 in
set_option maxHeartbeats 4000000 in
theorem tm_X5_fittingOrder : tb_X5_fittingOrder.flatMap (pm_allN (RX5)) = [143, 143].filterMap (fun (i : Nat) => lw_tbl[i]?) ∧ tb_X5_fittingOrder.all (fun r => pm_chk RX5 false r.2.1 r.2.2.1 r.2.2.2 && pm_ckj r) = true := ⟨rfl, by decide +kernel⟩
set_option maxRecDepth 100000 in
set_option maxHeartbeats 4000000 in
theorem tn_X5_take : tb_X5_take.flatMap (pm_all (RX5)) = [268, 270, 4, 58, 271, 391, 393, 8, 58, 394, 401, 403, 9, 58, 404, 406, 408, 10, 58, 409, 429, 431, 12, 58, 432, 434, 436, 13, 58, 437, 438, 440, 14, 58, 441, 167, 165, 273, 55, 274, 156, 442, 444, 15, 58, 445, 450, 452, 17, 58, 453, 158, 156, 155, 287, 67, 165, 295, 296, 67, 297, 369, 370, 371, 56, 372, 165, 438, 440, 14, 58, 441].filterMap (fun (i : Nat) => lw_tbl[i]?) ∧ (tb_X5_take.flatMap (pm_all (RX5))).all goodWord = true := ⟨rfl, by decide +kernel⟩
set_option maxRecDepth 100000 in
set_option maxHeartbeats 4000000 in
theorem tm_X5_take : tb_X5_take.flatMap (pm_allN (RX5)) = [301, 310, 307, 323, 307, 307, 323, 272, 143].filterMap (fun (i : Nat) => lw_tbl[i]?) ∧ tb_X5_take.all (fun r => pm_chk RX5 false r.2.1 r.2.2.1 r.2.2.2 && pm_ckj r) = true := ⟨rfl, by decide +kernel⟩
set_option maxRecDepth 100000 in
set_option maxHeartbeats 4000000 in
theorem tn_X5_endPatience : tb_X5_endPatience.flatMap (pm_all (RX5)) = [167, 168, 155, 287, 67, 165, 295, 296, 67, 297, 158, 156, 369, 370, 371, 56, 372, 156, 669, 265, 266, 58, 267].filterMap (fun (i : Nat) => lw_tbl[i]?) ∧ (tb_X5_endPatience.flatMap (pm_all (RX5))).all goodWord = true := ⟨rfl, by decide +kernel⟩
set_option maxRecDepth 100000 in
set_option maxHeartbeats 4000000 in
theorem tm_X5_endPatience : tb_X5_endPatience.flatMap (pm_allN (RX5)) = [].filterMap (fun (i : Nat) => lw_tbl[i]?) ∧ tb_X5_endPatience.all (fun r => pm_chk RX5 false r.2.1 r.2.2.1 r.2.2.2 && pm_ckj r) = true := ⟨rfl, by decide +kernel⟩
set_option maxRecDepth 100000 in
set_option maxHeartbeats 4000000 in
theorem tn_X5_takeAsk : tb_X5_takeAsk.flatMap (pm_all (RX5)) = [167, 165, 273, 55, 274, 159, 275, 276, 277, 59, 278, 279, 281, 5, 58, 282, 156, 158, 156, 365, 367, 6, 58, 368, 369, 370, 371, 56, 372, 156, 374, 376, 7, 58, 377, 158, 156, 159, 365, 367, 6, 58, 368, 369, 370, 371, 56, 372, 159, 279, 281, 5, 58, 282, 168, 168, 158, 156, 387, 55, 388, 339, 340, 341, 56, 342].filterMap (fun (i : Nat) => lw_tbl[i]?) ∧ (tb_X5_takeAsk.flatMap (pm_all (RX5))).all goodWord = true := ⟨rfl, by decide +kernel⟩
set_option maxRecDepth 100000 in
set_option maxHeartbeats 4000000 in
theorem tm_X5_takeAsk : tb_X5_takeAsk.flatMap (pm_allN (RX5)) = [272, 143, 143, 386].filterMap (fun (i : Nat) => lw_tbl[i]?) ∧ tb_X5_takeAsk.all (fun r => pm_chk RX5 false r.2.1 r.2.2.1 r.2.2.2 && pm_ckj r) = true := ⟨rfl, by decide +kernel⟩
set_option maxRecDepth 100000 in
set_option maxHeartbeats 4000000 in
theorem tn_X5_takeOrder : tb_X5_takeOrder.flatMap (pm_all (RX5)) = [167, 165, 273, 55, 274, 165, 395, 396, 397, 58, 398, 400, 252, 253, 67, 254, 159, 275, 276, 277, 59, 278, 374, 376, 7, 58, 377, 159, 279, 281, 5, 58, 282].filterMap (fun (i : Nat) => lw_tbl[i]?) ∧ (tb_X5_takeOrder.flatMap (pm_all (RX5))).all goodWord = true := ⟨rfl, by decide +kernel⟩
set_option maxRecDepth 100000 in
set_option maxHeartbeats 4000000 in
theorem tm_X5_takeOrder : tb_X5_takeOrder.flatMap (pm_allN (RX5)) = [272, 307, 310, 310, 310, 143].filterMap (fun (i : Nat) => lw_tbl[i]?) ∧ tb_X5_takeOrder.all (fun r => pm_chk RX5 false r.2.1 r.2.2.1 r.2.2.2 && pm_ckj r) = true := ⟨rfl, by decide +kernel⟩
set_option maxRecDepth 100000 in
set_option maxHeartbeats 4000000 in
theorem tn_X5_takeProof : tb_X5_takeProof.flatMap (pm_all (RX5)) = [167, 165, 159, 159, 288, 289, 290, 59, 291, 159, 159, 405, 224, 70, 225, 158, 156, 155, 287, 67, 165, 295, 296, 67, 297, 339, 340, 341, 56, 342].filterMap (fun (i : Nat) => lw_tbl[i]?) ∧ (tb_X5_takeProof.flatMap (pm_all (RX5))).all goodWord = true := ⟨rfl, by decide +kernel⟩
set_option maxRecDepth 100000 in
set_option maxHeartbeats 4000000 in
theorem tm_X5_takeProof : tb_X5_takeProof.flatMap (pm_allN (RX5)) = [307, 143, 316, 316, 319, 146, 316, 146, 316, 319].filterMap (fun (i : Nat) => lw_tbl[i]?) ∧ tb_X5_takeProof.all (fun r => pm_chk RX5 false r.2.1 r.2.2.1 r.2.2.2 && pm_ckj r) = true := ⟨rfl, by decide +kernel⟩
set_option maxRecDepth 100000 in
set_option maxHeartbeats 4000000 in
theorem tn_X5_takeHate : tb_X5_takeHate.flatMap (pm_all (RX5)) = [165, 169, 169, 169, 410, 411, 71, 412, 416, 418, 11, 58, 419].filterMap (fun (i : Nat) => lw_tbl[i]?) ∧ (tb_X5_takeHate.flatMap (pm_all (RX5))).all goodWord = true := ⟨rfl, by decide +kernel⟩
set_option maxRecDepth 100000 in
set_option maxHeartbeats 4000000 in
theorem tm_X5_takeHate : tb_X5_takeHate.flatMap (pm_allN (RX5)) = [].filterMap (fun (i : Nat) => lw_tbl[i]?) ∧ tb_X5_takeHate.all (fun r => pm_chk RX5 false r.2.1 r.2.2.1 r.2.2.2 && pm_ckj r) = true := ⟨rfl, by decide +kernel⟩
set_option maxRecDepth 100000 in
set_option maxHeartbeats 4000000 in
theorem tn_X5_changeView : tb_X5_changeView.flatMap (pm_all (RX5)) = [165, 165, 169, 167, 155, 287, 67, 165, 159, 159, 420, 421, 422, 59, 423, 295, 296, 67, 297, 165, 273, 55, 274, 156, 156, 429, 431, 12, 58, 432, 158, 156, 165, 273, 55, 274, 339, 340, 341, 56, 342].filterMap (fun (i : Nat) => lw_tbl[i]?) ∧ (tb_X5_changeView.flatMap (pm_all (RX5))).all goodWord = true := ⟨rfl, by decide +kernel⟩
set_option maxRecDepth 100000 in
set_option maxHeartbeats 4000000 in
theorem tm_X5_changeView : tb_X5_changeView.flatMap (pm_allN (RX5)) = [143, 272, 272].filterMap (fun (i : Nat) => lw_tbl[i]?) ∧ tb_X5_changeView.all (fun r => pm_chk RX5 false r.2.1 r.2.2.1 r.2.2.2 && pm_ckj r) = true := ⟨rfl, by decide +kernel⟩
set_option maxRecDepth 100000 in
set_option maxHeartbeats 4000000 in
theorem tn_X5_keepChange : tb_X5_keepChange.flatMap (pm_all (RX5)) = [273, 55, 274, 156, 165, 100, 55, 101, 164].filterMap (fun (i : Nat) => lw_tbl[i]?) ∧ (tb_X5_keepChange.flatMap (pm_all (RX5))).all goodWord = true := ⟨rfl, by decide +kernel⟩
set_option maxRecDepth 100000 in
set_option maxHeartbeats 4000000 in
theorem tm_X5_keepChange : tb_X5_keepChange.flatMap (pm_allN (RX5)) = [307, 272, 307, 433].filterMap (fun (i : Nat) => lw_tbl[i]?) ∧ tb_X5_keepChange.all (fun r => pm_chk RX5 false r.2.1 r.2.2.1 r.2.2.2 && pm_ckj r) = true := ⟨rfl, by decide +kernel⟩
