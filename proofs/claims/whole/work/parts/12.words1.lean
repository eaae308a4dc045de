set_option maxRecDepth 100000 in
set_option maxHeartbeats 4000000 in
theorem tn_X5_mayTurn : tb_X5_mayTurn.flatMap (pm_all (RX5)) = [273, 55, 274, 165, 165, 167].filterMap (fun (i : Nat) => lw_tbl[i]?) ∧ (tb_X5_mayTurn.flatMap (pm_all (RX5))).all goodWord = true := ⟨rfl, by decide +kernel⟩
set_option maxRecDepth 100000 in
set_option maxHeartbeats 4000000 in
theorem tm_X5_mayTurn : tb_X5_mayTurn.flatMap (pm_allN (RX5)) = [272].filterMap (fun (i : Nat) => lw_tbl[i]?) ∧ tb_X5_mayTurn.all (fun r => pm_chk RX5 false r.2.1 r.2.2.1 r.2.2.2 && pm_ckj r) = true := ⟨rfl, by decide +kernel⟩
set_option maxRecDepth 100000 in
set_option maxHeartbeats 4000000 in
theorem tn_X5_countChanges : tb_X5_countChanges.flatMap (pm_all (RX5)) = [446, 448, 16, 58, 449].filterMap (fun (i : Nat) => lw_tbl[i]?) ∧ (tb_X5_countChanges.flatMap (pm_all (RX5))).all goodWord = true := ⟨rfl, by decide +kernel⟩
set_option maxRecDepth 100000 in
set_option maxHeartbeats 4000000 in
theorem tm_X5_countChanges : tb_X5_countChanges.flatMap (pm_allN (RX5)) = [].filterMap (fun (i : Nat) => lw_tbl[i]?) ∧ tb_X5_countChanges.all (fun r => pm_chk RX5 false r.2.1 r.2.2.1 r.2.2.2 && pm_ckj r) = true := ⟨rfl, by decide +kernel⟩
set_option maxRecDepth 100000 in
set_option maxHeartbeats 4000000 in
theorem tn_X5_changedHistory : tb_X5_changedHistory.flatMap (pm_all (RX5)) = [164, 165].filterMap (fun (i : Nat) => lw_tbl[i]?) ∧ (tb_X5_changedHistory.flatMap (pm_all (RX5))).all goodWord = true := ⟨rfl, by decide +kernel⟩
set_option maxRecDepth 100000 in
set_option maxHeartbeats 4000000 in
theorem tm_X5_changedHistory : tb_X5_changedHistory.flatMap (pm_allN (RX5)) = [307, 323].filterMap (fun (i : Nat) => lw_tbl[i]?) ∧ tb_X5_changedHistory.all (fun r => pm_chk RX5 false r.2.1 r.2.2.1 r.2.2.2 && pm_ckj r) = true := ⟨rfl, by decide +kernel⟩
set_option maxRecDepth 100000 in
set_option maxHeartbeats 4000000 in
theorem tn_X5_mergeChanges : tb_X5_mergeChanges.flatMap (pm_all (RX5)) = [135, 136, 59, 138, 59, 139, 454, 456, 18, 58, 457, 283, 284, 285, 59, 286, 382, 383, 384, 59, 385, 458, 460, 19, 58, 461, 382, 383, 384, 59, 385].filterMap (fun (i : Nat) => lw_tbl[i]?) ∧ (tb_X5_mergeChanges.flatMap (pm_all (RX5))).all goodWord = true := ⟨rfl, by decide +kernel⟩
set_option maxRecDepth 100000 in
set_option maxHeartbeats 4000000 in
theorem tm_X5_mergeChanges : tb_X5_mergeChanges.flatMap (pm_allN (RX5)) = [137, 146, 146, 146].filterMap (fun (i : Nat) => lw_tbl[i]?) ∧ tb_X5_mergeChanges.all (fun r => pm_chk RX5 false r.2.1 r.2.2.1 r.2.2.2 && pm_ckj r) = true := ⟨rfl, by decide +kernel⟩
set_option maxRecDepth 100000 in
set_option maxHeartbeats 4000000 in
theorem tn_X5_mostFixed : tb_X5_mostFixed.flatMap (pm_all (RX5)) = [446, 448, 16, 58, 449].filterMap (fun (i : Nat) => lw_tbl[i]?) ∧ (tb_X5_mostFixed.flatMap (pm_all (RX5))).all goodWord = true := ⟨rfl, by decide +kernel⟩
set_option maxRecDepth 100000 in
set_option maxHeartbeats 4000000 in
theorem tm_X5_mostFixed : tb_X5_mostFixed.flatMap (pm_allN (RX5)) = [146, 146].filterMap (fun (i : Nat) => lw_tbl[i]?) ∧ tb_X5_mostFixed.all (fun r => pm_chk RX5 false r.2.1 r.2.2.1 r.2.2.2 && pm_ckj r) = true := ⟨rfl, by decide +kernel⟩
set_option maxRecDepth 100000 in
set_option maxHeartbeats 4000000 in
theorem tn_X5_agreedNext : tb_X5_agreedNext.flatMap (pm_all (RX5)) = [462, 464, 20, 58, 465, 462, 464, 20, 58, 465].filterMap (fun (i : Nat) => lw_tbl[i]?) ∧ (tb_X5_agreedNext.flatMap (pm_all (RX5))).all goodWord = true := ⟨rfl, by decide +kernel⟩
set_option maxRecDepth 100000 in
set_option maxHeartbeats 4000000 in
theorem tm_X5_agreedNext : tb_X5_agreedNext.flatMap (pm_allN (RX5)) = [].filterMap (fun (i : Nat) => lw_tbl[i]?) ∧ tb_X5_agreedNext.all (fun r => pm_chk RX5 false r.2.1 r.2.2.1 r.2.2.2 && pm_ckj r) = true := ⟨rfl, by decide +kernel⟩
set_option maxRecDepth 100000 in
set_option maxHeartbeats 4000000 in
theorem tn_X5_nextAfter : tb_X5_nextAfter.flatMap (pm_all (RX5)) = [446, 448, 16, 58, 449, 466, 467, 468, 59, 469, 283, 284, 285, 59, 286].filterMap (fun (i : Nat) => lw_tbl[i]?) ∧ (tb_X5_nextAfter.flatMap (pm_all (RX5))).all goodWord = true := ⟨rfl, by decide +kernel⟩
set_option maxRecDepth 100000 in
set_option maxHeartbeats 4000000 in
theorem tm_X5_nextAfter : tb_X5_nextAfter.flatMap (pm_allN (RX5)) = [143].filterMap (fun (i : Nat) => lw_tbl[i]?) ∧ tb_X5_nextAfter.all (fun r => pm_chk RX5 false r.2.1 r.2.2.1 r.2.2.2 && pm_ckj r) = true := ⟨rfl, by decide +kernel⟩
set_option maxRecDepth 100000 in
set_option maxHeartbeats 4000000 in
theorem tn_X5_turnTo : tb_X5_turnTo.flatMap (pm_all (RX5)) = [165, 167, 169, 159, 159, 161, 283, 284, 285, 59, 286, 374, 376, 7, 58, 377, 159, 279, 281, 5, 58, 282].filterMap (fun (i : Nat) => lw_tbl[i]?) ∧ (tb_X5_turnTo.flatMap (pm_all (RX5))).all goodWord = true := ⟨rfl, by decide +kernel⟩
set_option maxRecDepth 100000 in
set_option maxHeartbeats 4000000 in
theorem tm_X5_turnTo : tb_X5_turnTo.flatMap (pm_allN (RX5)) = [143, 146, 146, 143, 143].filterMap (fun (i : Nat) => lw_tbl[i]?) ∧ tb_X5_turnTo.all (fun r => pm_chk RX5 false r.2.1 r.2.2.1 r.2.2.2 && pm_ckj r) = true := ⟨rfl, by decide +kernel⟩
set_option maxRecDepth 100000 in
set_option maxHeartbeats 4000000 in
theorem tn_X5_doNext : tb_X5_doNext.flatMap (pm_all (RX5)) = [157, 159, 163, 159, 161, 378, 379, 380, 66, 381, 159, 382, 383, 384, 59, 385, 168, 168].filterMap (fun (i : Nat) => lw_tbl[i]?) ∧ (tb_X5_doNext.flatMap (pm_all (RX5))).all goodWord = true := ⟨rfl, by decide +kernel⟩
set_option maxRecDepth 100000 in
set_option maxHeartbeats 4000000 in
theorem tm_X5_doNext : tb_X5_doNext.flatMap (pm_allN (RX5)) = [143, 143].filterMap (fun (i : Nat) => lw_tbl[i]?) ∧ tb_X5_doNext.all (fun r => pm_chk RX5 false r.2.1 r.2.2.1 r.2.2.2 && pm_ckj r) = true := ⟨rfl, by decide +kernel⟩
set_option maxRecDepth 100000 in
set_option maxHeartbeats 4000000 in
theorem tn_X5_orderOf : tb_X5_orderOf.flatMap (pm_all (RX5)) = [155, 287, 67, 165, 159, 283, 284, 285, 59, 286, 159, 288, 289, 290, 59, 291, 295, 296, 67, 297].filterMap (fun (i : Nat) => lw_tbl[i]?) ∧ (tb_X5_orderOf.flatMap (pm_all (RX5))).all goodWord = true := ⟨rfl, by decide +kernel⟩
set_option maxRecDepth 100000 in
set_option maxHeartbeats 4000000 in
theorem tm_X5_orderOf : tb_X5_orderOf.flatMap (pm_allN (RX5)) = [].filterMap (fun (i : Nat) => lw_tbl[i]?) ∧ tb_X5_orderOf.all (fun r => pm_chk RX5 false r.2.1 r.2.2.1 r.2.2.2 && pm_ckj r) = true := ⟨rfl, by decide +kernel⟩
set_option maxRecDepth 100000 in
set_option maxHeartbeats 4000000 in
theorem tn_X5_reply : tb_X5_reply.flatMap (pm_all (RX5)) = [159, 159, 283, 284, 285, 59, 286, 163, 158, 156, 155, 287, 67, 165, 159, 288, 289, 290, 59, 291, 295, 296, 67, 297, 339, 340, 341, 56, 342].filterMap (fun (i : Nat) => lw_tbl[i]?) ∧ (tb_X5_reply.flatMap (pm_all (RX5))).all goodWord = true := ⟨rfl, by decide +kernel⟩
set_option maxRecDepth 100000 in
set_option maxHeartbeats 4000000 in
theorem tm_X5_reply : tb_X5_reply.flatMap (pm_allN (RX5)) = [143].filterMap (fun (i : Nat) => lw_tbl[i]?) ∧ tb_X5_reply.all (fun r => pm_chk RX5 false r.2.1 r.2.2.1 r.2.2.2 && pm_ckj r) = true := ⟨rfl, by decide +kernel⟩
set_option maxRecDepth 100000 in
set_option maxHeartbeats 4000000 in
theorem tn_X6_init : tb_X6_init.flatMap (pm_all (RX6)) = [581, 79, 80, 582, 586, 588, 590, 592, 593, 583, 584, 585].filterMap (fun (i : Nat) => lw_tbl[i]?) ∧ (tb_X6_init.flatMap (pm_all (RX6))).all goodWord = true := ⟨rfl, by decide +kernel⟩
set_option maxRecDepth 100000 in
set_option maxHeartbeats 4000000 in
theorem tm_X6_init : tb_X6_init.flatMap (pm_allN (RX6)) = [].filterMap (fun (i : Nat) => lw_tbl[i]?) ∧ tb_X6_init.all (fun r => pm_chk RX6 true r.2.1 r.2.2.1 r.2.2.2 && pm_ckj r) = true := ⟨rfl, by decide +kernel⟩
set_option maxRecDepth 100000 in
set_option maxHeartbeats 4000000 in
theorem tn_X6_doOn : tb_X6_doOn.flatMap (pm_all (RX6)) = [584, 583, 584, 585, 583, 584, 585, 584].filterMap (fun (i : Nat) => lw_tbl[i]?) ∧ (tb_X6_doOn.flatMap (pm_all (RX6))).all goodWord = true := ⟨rfl, by decide +kernel⟩
set_option maxRecDepth 100000 in
set_option maxHeartbeats 4000000 in
theorem tm_X6_doOn : tb_X6_doOn.flatMap (pm_allN (RX6)) = [].filterMap (fun (i : Nat) => lw_tbl[i]?) ∧ tb_X6_doOn.all (fun r => pm_chk RX6 false r.2.1 r.2.2.1 r.2.2.2 && pm_ckj r) = true := ⟨rfl, by decide +kernel⟩
set_option maxRecDepth 100000 in
set_option maxHeartbeats 4000000 in
theorem tn_X6_keep : tb_X6_keep.flatMap (pm_all (RX6)) = [586, 586].filterMap (fun (i : Nat) => lw_tbl[i]?) ∧ (tb_X6_keep.flatMap (pm_all (RX6))).all goodWord = true := ⟨rfl, by decide +kernel⟩
set_option maxRecDepth 100000 in
set_option maxHeartbeats 4000000 in
theorem tm_X6_keep : tb_X6_keep.flatMap (pm_allN (RX6)) = [305, 305].filterMap (fun (i : Nat) => lw_tbl[i]?) ∧ tb_X6_keep.all (fun r => pm_chk RX6 false r.2.1 r.2.2.1 r.2.2.2 && pm_ckj r) = true := ⟨rfl, by decide +kernel⟩
set_option maxRecDepth 100000 in
set_option maxHeartbeats 4000000 in
theorem tn_X6_agreedBy : tb_X6_agreedBy.flatMap (pm_all (RX6)) = [586, 586, 242, 244, 2, 66, 246, 586].filterMap (fun (i : Nat) => lw_tbl[i]?) ∧ (tb_X6_agreedBy.flatMap (pm_all (RX6))).all goodWord = true := ⟨rfl, by decide +kernel⟩
set_option maxRecDepth 100000 in
set_option maxHeartbeats 4000000 in
theorem tm_X6_agreedBy : tb_X6_agreedBy.flatMap (pm_allN (RX6)) = [].filterMap (fun (i : Nat) => lw_tbl[i]?) ∧ tb_X6_agreedBy.all (fun r => pm_chk RX6 false r.2.1 r.2.2.1 r.2.2.2 && pm_ckj r) = true := ⟨rfl, by decide +kernel⟩
set_option maxRecDepth 100000 in
set_option maxHeartbeats 4000000 in
theorem tn_X6_countLike : tb_X6_countLike.flatMap (pm_all (RX6)) = [586, 586, 247, 248, 249, 67, 250].filterMap (fun (i : Nat) => lw_tbl[i]?) ∧ (tb_X6_countLike.flatMap (pm_all (RX6))).all goodWord = true := ⟨rfl, by decide +kernel⟩
set_option maxRecDepth 100000 in
set_option maxHeartbeats 4000000 in
theorem tm_X6_countLike : tb_X6_countLike.flatMap (pm_allN (RX6)) = [].filterMap (fun (i : Nat) => lw_tbl[i]?) ∧ tb_X6_countLike.all (fun r => pm_chk RX6 false r.2.1 r.2.2.1 r.2.2.2 && pm_ckj r) = true := ⟨rfl, by decide +kernel⟩
set_option maxRecDepth 100000 in
set_option maxHeartbeats 4000000 in
theorem tn_X6_finish : tb_X6_finish.flatMap (pm_all (RX6)) = [590, 592, 593].filterMap (fun (i : Nat) => lw_tbl[i]?) ∧ (tb_X6_finish.flatMap (pm_all (RX6))).all goodWord = true := ⟨rfl, by decide +kernel⟩
set_option maxRecDepth 100000 in
set_option maxHeartbeats 4000000 in
theorem tm_X6_finish : tb_X6_finish.flatMap (pm_allN (RX6)) = [321, 315].filterMap (fun (i : Nat) => lw_tbl[i]?) ∧ tb_X6_finish.all (fun r => pm_chk RX6 false r.2.1 r.2.2.1 r.2.2.2 && pm_ckj r) = true := ⟨rfl, by decide +kernel⟩
set_option maxRecDepth 100000 in
set_option maxHeartbeats 4000000 in
theorem tn_X6_tell : tb_X6_tell.flatMap (pm_all (RX6)) = [590, 592, 593, 724, 726, 22, 66, 727, 588].filterMap (fun (i : Nat) => lw_tbl[i]?) ∧ (tb_X6_tell.flatMap (pm_all (RX6))).all goodWord = true := ⟨rfl, by decide +kernel⟩
set_option maxRecDepth 100000 in
set_option maxHeartbeats 4000000 in
theorem tm_X6_tell : tb_X6_tell.flatMap (pm_allN (RX6)) = [].filterMap (fun (i : Nat) => lw_tbl[i]?) ∧ tb_X6_tell.all (fun r => pm_chk RX6 false r.2.1 r.2.2.1 r.2.2.2 && pm_ckj r) = true := ⟨rfl, by decide +kernel⟩
set_option maxRecDepth 100000 in
set_option maxHeartbeats 4000000 in
theorem tn_X6_countReplies : tb_X6_countReplies.flatMap (pm_all (RX6)) = [586].filterMap (fun (i : Nat) => lw_tbl[i]?) ∧ (tb_X6_countReplies.flatMap (pm_all (RX6))).all goodWord = true := ⟨rfl, by decide +kernel⟩
set_option maxRecDepth 100000 in
set_option maxHeartbeats 4000000 in
theorem tm_X6_countReplies : tb_X6_countReplies.flatMap (pm_allN (RX6)) = [].filterMap (fun (i : Nat) => lw_tbl[i]?) ∧ tb_X6_countReplies.all (fun r => pm_chk RX6 false r.2.1 r.2.2.1 r.2.2.2 && pm_ckj r) = true := ⟨rfl, by decide +kernel⟩
set_option maxRecDepth 100000 in
set_option maxHeartbeats 4000000 in
theorem tn_X7_init : tb_X7_init.flatMap (pm_all (RX7)) = [78, 79, 80, 81, 83, 84, 56, 86, 56, 87, 99, 100, 55, 101, 193, 194, 102, 103, 57, 104, 105, 57, 106, 195, 128, 196, 196, 128, 130, 58, 131, 132, 58, 133].filterMap (fun (i : Nat) => lw_tbl[i]?) ∧ (tb_X7_init.flatMap (pm_all (RX7))).all goodWord = true := ⟨rfl, by decide +kernel⟩
set_option maxRecDepth 100000 in
set_option maxHeartbeats 4000000 in
theorem tm_X7_init : tb_X7_init.flatMap (pm_allN (RX7)) = [85].filterMap (fun (i : Nat) => lw_tbl[i]?) ∧ tb_X7_init.all (fun r => pm_chk RX7 true r.2.1 r.2.2.1 r.2.2.2 && pm_ckj r) = true := ⟨rfl, by decide +kernel⟩
set_option maxRecDepth 100000 in
set_option maxHeartbeats 4000000 in
theorem tn_X7_issue : tb_X7_issue.flatMap (pm_all (RX7)) = [195, 195, 81, 245, 66, 578, 579, 66, 580, 611, 612, 613, 57, 614].filterMap (fun (i : Nat) => lw_tbl[i]?) ∧ (tb_X7_issue.flatMap (pm_all (RX7))).all goodWord = true := ⟨rfl, by decide +kernel⟩
set_option maxRecDepth 100000 in
set_option maxHeartbeats 4000000 in
theorem tm_X7_issue : tb_X7_issue.flatMap (pm_allN (RX7)) = [114].filterMap (fun (i : Nat) => lw_tbl[i]?) ∧ tb_X7_issue.all (fun r => pm_chk RX7 false r.2.1 r.2.2.1 r.2.2.2 && pm_ckj r) = true := ⟨rfl, by decide +kernel⟩
set_option maxRecDepth 100000 in
set_option maxHeartbeats 4000000 in
theorem tn_X7_retry : tb_X7_retry.flatMap (pm_all (RX7)) = [195, 626, 227, 228, 57, 229, 195, 643, 644, 645, 57, 646].filterMap (fun (i : Nat) => lw_tbl[i]?) ∧ (tb_X7_retry.flatMap (pm_all (RX7))).all goodWord = true := ⟨rfl, by decide +kernel⟩
set_option maxRecDepth 100000 in
set_option maxHeartbeats 4000000 in
theorem tm_X7_retry : tb_X7_retry.flatMap (pm_allN (RX7)) = [].filterMap (fun (i : Nat) => lw_tbl[i]?) ∧ tb_X7_retry.all (fun r => pm_chk RX7 false r.2.1 r.2.2.1 r.2.2.2 && pm_ckj r) = true := ⟨rfl, by decide +kernel⟩
set_option maxRecDepth 100000 in
set_option maxHeartbeats 4000000 in
theorem tn_X7_deliver : tb_X7_deliver.flatMap (pm_all (RX7)) = [210, 212, 0, 55, 213].filterMap (fun (i : Nat) => lw_tbl[i]?) ∧ (tb_X7_deliver.flatMap (pm_all (RX7))).all goodWord = true := ⟨rfl, by decide +kernel⟩
set_option maxRecDepth 100000 in
set_option maxHeartbeats 4000000 in
theorem tm_X7_deliver : tb_X7_deliver.flatMap (pm_allN (RX7)) = [].filterMap (fun (i : Nat) => lw_tbl[i]?) ∧ tb_X7_deliver.all (fun r => pm_chk RX7 false r.2.1 r.2.2.1 r.2.2.2 && pm_ckj r) = true := ⟨rfl, by decide +kernel⟩
set_option maxRecDepth 100000 in
set_option maxHeartbeats 4000000 in
theorem tn_X7_flood : tb_X7_flood.flatMap (pm_all (RX7)) = [194, 210, 212, 0, 55, 213].filterMap (fun (i : Nat) => lw_tbl[i]?) ∧ (tb_X7_flood.flatMap (pm_all (RX7))).all goodWord = true := ⟨rfl, by decide +kernel⟩
set_option maxRecDepth 100000 in
set_option maxHeartbeats 4000000 in
theorem tm_X7_flood : tb_X7_flood.flatMap (pm_allN (RX7)) = [93].filterMap (fun (i : Nat) => lw_tbl[i]?) ∧ tb_X7_flood.all (fun r => pm_chk RX7 false r.2.1 r.2.2.1 r.2.2.2 && pm_ckj r) = true := ⟨rfl, by decide +kernel⟩
set_option maxRecDepth 100000 in
set_option maxHeartbeats 4000000 in
theorem tn_X7_lose : tb_X7_lose.flatMap (pm_all (RX7)) = [194, 214, 215, 216, 56, 217].filterMap (fun (i : Nat) => lw_tbl[i]?) ∧ (tb_X7_lose.flatMap (pm_all (RX7))).all goodWord = true := ⟨rfl, by decide +kernel⟩
set_option maxRecDepth 100000 in
set_option maxHeartbeats 4000000 in
theorem tm_X7_lose : tb_X7_lose.flatMap (pm_allN (RX7)) = [355, 355].filterMap (fun (i : Nat) => lw_tbl[i]?) ∧ tb_X7_lose.all (fun r => pm_chk RX7 false r.2.1 r.2.2.1 r.2.2.2 && pm_ckj r) = true := ⟨rfl, by decide +kernel⟩
set_option maxRecDepth 100000 in
set_option maxHeartbeats 4000000 in
theorem tn_X7_patience : tb_X7_patience.flatMap (pm_all (RX7)) = [99, 100, 55, 101, 193, 196, 665, 666, 667, 58, 668].filterMap (fun (i : Nat) => lw_tbl[i]?) ∧ (tb_X7_patience.flatMap (pm_all (RX7))).all goodWord = true := ⟨rfl, by decide +kernel⟩
set_option maxRecDepth 100000 in
set_option maxHeartbeats 4000000 in
theorem tm_X7_patience : tb_X7_patience.flatMap (pm_allN (RX7)) = [].filterMap (fun (i : Nat) => lw_tbl[i]?) ∧ tb_X7_patience.all (fun r => pm_chk RX7 false r.2.1 r.2.2.1 r.2.2.2 && pm_ckj r) = true := ⟨rfl, by decide +kernel⟩
set_option maxRecDepth 100000 in
set_option maxHeartbeats 4000000 in
theorem tn_X7_lie : tb_X7_lie.flatMap (pm_all (RX7)) = [99, 100, 55, 101, 193, 195, 626, 227, 228, 57, 229, 196, 193, 678, 273, 55, 274, 193, 193, 679, 396, 397, 58, 398, 264, 265, 266, 58, 267].filterMap (fun (i : Nat) => lw_tbl[i]?) ∧ (tb_X7_lie.flatMap (pm_all (RX7))).all goodWord = true := ⟨rfl, by decide +kernel⟩
set_option maxRecDepth 100000 in
set_option maxHeartbeats 4000000 in
theorem tm_X7_lie : tb_X7_lie.flatMap (pm_allN (RX7)) = [166, 160, 144, 160, 144].filterMap (fun (i : Nat) => lw_tbl[i]?) ∧ tb_X7_lie.all (fun r => pm_chk RX7 false r.2.1 r.2.2.1 r.2.2.2 && pm_ckj r) = true := ⟨rfl, by decide +kernel⟩
set_option maxRecDepth 100000 in
set_option maxHeartbeats 4000000 in
theorem tn_X7_echo : tb_X7_echo.flatMap (pm_all (RX7)) = [195, 626, 227, 228, 57, 229, 99, 100, 55, 101, 193, 193, 195, 193, 218, 219, 220, 57, 221].filterMap (fun (i : Nat) => lw_tbl[i]?) ∧ (tb_X7_echo.flatMap (pm_all (RX7))).all goodWord = true := ⟨rfl, by decide +kernel⟩
set_option maxRecDepth 100000 in
set_option maxHeartbeats 4000000 in
theorem tm_X7_echo : tb_X7_echo.flatMap (pm_allN (RX7)) = [587].filterMap (fun (i : Nat) => lw_tbl[i]?) ∧ tb_X7_echo.all (fun r => pm_chk RX7 false r.2.1 r.2.2.1 r.2.2.2 && pm_ckj r) = true := ⟨rfl, by decide +kernel⟩
set_option maxRecDepth 100000 in
set_option maxHeartbeats 4000000 in
theorem tn_X7_replica : tb_X7_replica.flatMap (pm_all (RX7)) = [99, 100, 55, 101, 196, 695, 284, 285, 59, 286, 696, 697, 698, 58, 699].filterMap (fun (i : Nat) => lw_tbl[i]?) ∧ (tb_X7_replica.flatMap (pm_all (RX7))).all goodWord = true := ⟨rfl, by decide +kernel⟩
set_option maxRecDepth 100000 in
set_option maxHeartbeats 4000000 in
theorem tm_X7_replica : tb_X7_replica.flatMap (pm_allN (RX7)) = [162, 160].filterMap (fun (i : Nat) => lw_tbl[i]?) ∧ tb_X7_replica.all (fun r => pm_chk RX7 false r.2.1 r.2.2.1 r.2.2.2 && pm_ckj r) = true := ⟨rfl, by decide +kernel⟩
set_option maxRecDepth 100000 in
set_option maxHeartbeats 4000000 in
theorem tn_X7_messages : tb_X7_messages.flatMap (pm_all (RX7)) = [194].filterMap (fun (i : Nat) => lw_tbl[i]?) ∧ (tb_X7_messages.flatMap (pm_all (RX7))).all goodWord = true := ⟨rfl, by decide +kernel⟩
set_option maxRecDepth 100000 in
set_option maxHeartbeats 4000000 in
theorem tm_X7_messages : tb_X7_messages.flatMap (pm_allN (RX7)) = [93].filterMap (fun (i : Nat) => lw_tbl[i]?) ∧ tb_X7_messages.all (fun r => pm_chk RX7 false r.2.1 r.2.2.1 r.2.2.2 && pm_ckj r) = true := ⟨rfl, by decide +kernel⟩
set_option maxRecDepth 100000 in
set_option maxHeartbeats 4000000 in
theorem tn_X7_message : tb_X7_message.flatMap (pm_all (RX7)) = [194, 214, 215, 216, 56, 217, 708, 709, 710, 68, 711].filterMap (fun (i : Nat) => lw_tbl[i]?) ∧ (tb_X7_message.flatMap (pm_all (RX7))).all goodWord = true := ⟨rfl, by decide +kernel⟩
set_option maxRecDepth 100000 in
set_option maxHeartbeats 4000000 in
theorem tm_X7_message : tb_X7_message.flatMap (pm_allN (RX7)) = [].filterMap (fun (i : Nat) => lw_tbl[i]?) ∧ tb_X7_message.all (fun r => pm_chk RX7 false r.2.1 r.2.2.1 r.2.2.2 && pm_ckj r) = true := ⟨rfl, by decide +kernel⟩
set_option maxRecDepth 100000 in
set_option maxHeartbeats 4000000 in
theorem tn_X7_request : tb_X7_request.flatMap (pm_all (RX7)) = [195, 626, 227, 228, 57, 229, 720, 721, 722, 66, 723].filterMap (fun (i : Nat) => lw_tbl[i]?) ∧ (tb_X7_request.flatMap (pm_all (RX7))).all goodWord = true := ⟨rfl, by decide +kernel⟩
set_option maxRecDepth 100000 in
set_option maxHeartbeats 4000000 in
theorem tm_X7_request : tb_X7_request.flatMap (pm_allN (RX7)) = [].filterMap (fun (i : Nat) => lw_tbl[i]?) ∧ tb_X7_request.all (fun r => pm_chk RX7 false r.2.1 r.2.2.1 r.2.2.2 && pm_ckj r) = true := ⟨rfl, by decide +kernel⟩
set_option maxRecDepth 100000 in
set_option maxHeartbeats 4000000 in
theorem tn_X7_view : tb_X7_view.flatMap (pm_all (RX7)) = [195].filterMap (fun (i : Nat) => lw_tbl[i]?) ∧ (tb_X7_view.flatMap (pm_all (RX7))).all goodWord = true := ⟨rfl, by decide +kernel⟩
set_option maxRecDepth 100000 in
set_option maxHeartbeats 4000000 in
theorem tm_X7_view : tb_X7_view.flatMap (pm_allN (RX7)) = [116].filterMap (fun (i : Nat) => lw_tbl[i]?) ∧ tb_X7_view.all (fun r => pm_chk RX7 false r.2.1 r.2.2.1 r.2.2.2 && pm_ckj r) = true := ⟨rfl, by decide +kernel⟩
set_option maxRecDepth 100000 in
set_option maxHeartbeats 4000000 in
theorem tn_X7_handOver : tb_X7_handOver.flatMap (pm_all (RX7)) = [194, 214, 215, 216, 56, 217, 195, 218, 219, 220, 57, 221, 99, 100, 55, 101, 193, 196, 264, 265, 266, 58, 267].filterMap (fun (i : Nat) => lw_tbl[i]?) ∧ (tb_X7_handOver.flatMap (pm_all (RX7))).all goodWord = true := ⟨rfl, by decide +kernel⟩
set_option maxRecDepth 100000 in
set_option maxHeartbeats 4000000 in
theorem tm_X7_handOver : tb_X7_handOver.flatMap (pm_allN (RX7)) = [355, 355, 351, 349, 353, 351, 351, 351, 349, 353].filterMap (fun (i : Nat) => lw_tbl[i]?) ∧ tb_X7_handOver.all (fun r => pm_chk RX7 false r.2.1 r.2.2.1 r.2.2.2 && pm_ckj r) = true := ⟨rfl, by decide +kernel⟩
set_option maxRecDepth 100000 in
set_option maxHeartbeats 4000000 in
theorem tn_X7_isReplica : tb_X7_isReplica.flatMap (pm_all (RX7)) = [].filterMap (fun (i : Nat) => lw_tbl[i]?) ∧ (tb_X7_isReplica.flatMap (pm_all (RX7))).all goodWord = true := ⟨rfl, by decide +kernel⟩
set_option maxRecDepth 100000 in
set_option maxHeartbeats 4000000 in
theorem tm_X7_isReplica : tb_X7_isReplica.flatMap (pm_allN (RX7)) = [].filterMap (fun (i : Nat) => lw_tbl[i]?) ∧ tb_X7_isReplica.all (fun r => pm_chk RX7 false r.2.1 r.2.2.1 r.2.2.2 && pm_ckj r) = true := ⟨rfl, by decide +kernel⟩
set_option maxRecDepth 100000 in
set_option maxHeartbeats 4000000 in
theorem tn_X7_primaryOf : tb_X7_primaryOf.flatMap (pm_all (RX7)) = [].filterMap (fun (i : Nat) => lw_tbl[i]?) ∧ (tb_X7_primaryOf.flatMap (pm_all (RX7))).all goodWord = true := ⟨rfl, by decide +kernel⟩
set_option maxRecDepth 100000 in
set_option maxHeartbeats 4000000 in
theorem tm_X7_primaryOf : tb_X7_primaryOf.flatMap (pm_allN (RX7)) = [].filterMap (fun (i : Nat) => lw_tbl[i]?) ∧ tb_X7_primaryOf.all (fun r => pm_chk RX7 false r.2.1 r.2.2.1 r.2.2.2 && pm_ckj r) = true := ⟨rfl, by decide +kernel⟩
