set_option maxRecDepth 100000 in
set_option maxHeartbeats 4000000 in
theorem tn_X8_issue : tb_X8_issue.flatMap (pm_all (RX8)) = [734, 883, 885, 23, 60, 886, 736, 883, 885, 23, 60, 886, 737, 736, 738, 736, 739, 736, 736, 736, 763, 736, 887, 889, 24, 60, 890, 736].filterMap (fun (i : Nat) => lw_tbl[i]?) ∧ (tb_X8_issue.flatMap (pm_all (RX8))).all goodWord = true := ⟨rfl, by decide +kernel⟩
set_option maxRecDepth 100000 in
set_option maxHeartbeats 4000000 in
theorem tm_X8_issue : tb_X8_issue.flatMap (pm_allN (RX8)) = [].filterMap (fun (i : Nat) => lw_tbl[i]?) ∧ tb_X8_issue.all (fun r => pm_chk RX8 false r.2.1 r.2.2.1 r.2.2.2 && pm_ckj r) = true := ⟨rfl, by decide +kernel⟩
set_option maxRecDepth 100000 in
set_option maxHeartbeats 4000000 in
theorem tn_X8_isRequest : tb_X8_isRequest.flatMap (pm_all (RX8)) = [736].filterMap (fun (i : Nat) => lw_tbl[i]?) ∧ (tb_X8_isRequest.flatMap (pm_all (RX8))).all goodWord = true := ⟨rfl, by decide +kernel⟩
set_option maxRecDepth 100000 in
set_option maxHeartbeats 4000000 in
theorem tm_X8_isRequest : tb_X8_isRequest.flatMap (pm_allN (RX8)) = [].filterMap (fun (i : Nat) => lw_tbl[i]?) ∧ tb_X8_isRequest.all (fun r => pm_chk RX8 false r.2.1 r.2.2.1 r.2.2.2 && pm_ckj r) = true := ⟨rfl, by decide +kernel⟩
set_option maxRecDepth 100000 in
set_option maxHeartbeats 4000000 in
theorem tn_X8_retry : tb_X8_retry.flatMap (pm_all (RX8)) = [734, 895, 897, 25, 60, 898, 883, 885, 23, 60, 886, 776, 899, 901, 26, 60, 902, 907, 909, 28, 60, 910, 771, 772, 764, 773, 765, 774, 766, 775, 767, 764, 765, 766, 907, 909, 28, 60, 910].filterMap (fun (i : Nat) => lw_tbl[i]?) ∧ (tb_X8_retry.flatMap (pm_all (RX8))).all goodWord = true := ⟨rfl, by decide +kernel⟩
set_option maxRecDepth 100000 in
set_option maxHeartbeats 4000000 in
theorem tm_X8_retry : tb_X8_retry.flatMap (pm_allN (RX8)) = [].filterMap (fun (i : Nat) => lw_tbl[i]?) ∧ tb_X8_retry.all (fun r => pm_chk RX8 false r.2.1 r.2.2.1 r.2.2.2 && pm_ckj r) = true := ⟨rfl, by decide +kernel⟩
set_option maxRecDepth 100000 in
set_option maxHeartbeats 4000000 in
theorem tn_X8_isUnderWay : tb_X8_isUnderWay.flatMap (pm_all (RX8)) = [751, 762].filterMap (fun (i : Nat) => lw_tbl[i]?) ∧ (tb_X8_isUnderWay.flatMap (pm_all (RX8))).all goodWord = true := ⟨rfl, by decide +kernel⟩
set_option maxRecDepth 100000 in
set_option maxHeartbeats 4000000 in
theorem tm_X8_isUnderWay : tb_X8_isUnderWay.flatMap (pm_allN (RX8)) = [].filterMap (fun (i : Nat) => lw_tbl[i]?) ∧ tb_X8_isUnderWay.all (fun r => pm_chk RX8 false r.2.1 r.2.2.1 r.2.2.2 && pm_ckj r) = true := ⟨rfl, by decide +kernel⟩
set_option maxRecDepth 100000 in
set_option maxHeartbeats 4000000 in
theorem tn_X8_deliver : tb_X8_deliver.flatMap (pm_all (RX8)) = [734, 915, 917, 29, 60, 918, 762, 754, 752, 753, 757, 755, 756, 758, 759, 919, 921, 30, 60, 922, 931, 933, 33, 60, 934, 754, 735, 754, 935, 937, 34, 60, 938].filterMap (fun (i : Nat) => lw_tbl[i]?) ∧ (tb_X8_deliver.flatMap (pm_all (RX8))).all goodWord = true := ⟨rfl, by decide +kernel⟩
set_option maxRecDepth 100000 in
set_option maxHeartbeats 4000000 in
theorem tm_X8_deliver : tb_X8_deliver.flatMap (pm_allN (RX8)) = [].filterMap (fun (i : Nat) => lw_tbl[i]?) ∧ tb_X8_deliver.all (fun r => pm_chk RX8 false r.2.1 r.2.2.1 r.2.2.2 && pm_ckj r) = true := ⟨rfl, by decide +kernel⟩
set_option maxRecDepth 100000 in
set_option maxHeartbeats 4000000 in
theorem tn_X8_flood : tb_X8_flood.flatMap (pm_all (RX8)) = [734, 883, 885, 23, 60, 886, 751, 1030, 912, 913, 60, 914].filterMap (fun (i : Nat) => lw_tbl[i]?) ∧ (tb_X8_flood.flatMap (pm_all (RX8))).all goodWord = true := ⟨rfl, by decide +kernel⟩
set_option maxRecDepth 100000 in
set_option maxHeartbeats 4000000 in
theorem tm_X8_flood : tb_X8_flood.flatMap (pm_allN (RX8)) = [].filterMap (fun (i : Nat) => lw_tbl[i]?) ∧ tb_X8_flood.all (fun r => pm_chk RX8 false r.2.1 r.2.2.1 r.2.2.2 && pm_ckj r) = true := ⟨rfl, by decide +kernel⟩
set_option maxRecDepth 100000 in
set_option maxHeartbeats 4000000 in
theorem tn_X8_lose : tb_X8_lose.flatMap (pm_all (RX8)) = [734, 915, 917, 29, 60, 918, 762].filterMap (fun (i : Nat) => lw_tbl[i]?) ∧ (tb_X8_lose.flatMap (pm_all (RX8))).all goodWord = true := ⟨rfl, by decide +kernel⟩
set_option maxRecDepth 100000 in
set_option maxHeartbeats 4000000 in
theorem tm_X8_lose : tb_X8_lose.flatMap (pm_allN (RX8)) = [].filterMap (fun (i : Nat) => lw_tbl[i]?) ∧ tb_X8_lose.all (fun r => pm_chk RX8 false r.2.1 r.2.2.1 r.2.2.2 && pm_ckj r) = true := ⟨rfl, by decide +kernel⟩
set_option maxRecDepth 100000 in
set_option maxHeartbeats 4000000 in
theorem tn_X8_isReplica : tb_X8_isReplica.flatMap (pm_all (RX8)) = [].filterMap (fun (i : Nat) => lw_tbl[i]?) ∧ (tb_X8_isReplica.flatMap (pm_all (RX8))).all goodWord = true := ⟨rfl, by decide +kernel⟩
set_option maxRecDepth 100000 in
set_option maxHeartbeats 4000000 in
theorem tm_X8_isReplica : tb_X8_isReplica.flatMap (pm_allN (RX8)) = [].filterMap (fun (i : Nat) => lw_tbl[i]?) ∧ tb_X8_isReplica.all (fun r => pm_chk RX8 false r.2.1 r.2.2.1 r.2.2.2 && pm_ckj r) = true := ⟨rfl, by decide +kernel⟩
set_option maxRecDepth 100000 in
set_option maxHeartbeats 4000000 in
theorem tn_X8_refuseThis : tb_X8_refuseThis.flatMap (pm_all (RX8)) = [734].filterMap (fun (i : Nat) => lw_tbl[i]?) ∧ (tb_X8_refuseThis.flatMap (pm_all (RX8))).all goodWord = true := ⟨rfl, by decide +kernel⟩
set_option maxRecDepth 100000 in
set_option maxHeartbeats 4000000 in
theorem tm_X8_refuseThis : tb_X8_refuseThis.flatMap (pm_allN (RX8)) = [].filterMap (fun (i : Nat) => lw_tbl[i]?) ∧ tb_X8_refuseThis.all (fun r => pm_chk RX8 false r.2.1 r.2.2.1 r.2.2.2 && pm_ckj r) = true := ⟨rfl, by decide +kernel⟩
set_option maxRecDepth 100000 in
set_option maxHeartbeats 4000000 in
theorem tn_X8_patience : tb_X8_patience.flatMap (pm_all (RX8)) = [734, 1039, 1040, 60, 1041, 1042, 1044, 52, 60, 1045, 735, 744, 745, 740, 907, 909, 28, 60, 910, 984, 986, 43, 60, 987].filterMap (fun (i : Nat) => lw_tbl[i]?) ∧ (tb_X8_patience.flatMap (pm_all (RX8))).all goodWord = true := ⟨rfl, by decide +kernel⟩
set_option maxRecDepth 100000 in
set_option maxHeartbeats 4000000 in
theorem tm_X8_patience : tb_X8_patience.flatMap (pm_allN (RX8)) = [].filterMap (fun (i : Nat) => lw_tbl[i]?) ∧ tb_X8_patience.all (fun r => pm_chk RX8 false r.2.1 r.2.2.1 r.2.2.2 && pm_ckj r) = true := ⟨rfl, by decide +kernel⟩
set_option maxRecDepth 100000 in
set_option maxHeartbeats 4000000 in
theorem tn_X8_lie : tb_X8_lie.flatMap (pm_all (RX8)) = [734, 1039, 1040, 60, 1041, 895, 897, 25, 60, 898, 735, 1042, 1044, 52, 60, 1045, 735, 740, 735, 735, 740, 741, 742, 741, 954, 955, 60, 956, 976, 978, 41, 60, 979].filterMap (fun (i : Nat) => lw_tbl[i]?) ∧ (tb_X8_lie.flatMap (pm_all (RX8))).all goodWord = true := ⟨rfl, by decide +kernel⟩
set_option maxRecDepth 100000 in
set_option maxHeartbeats 4000000 in
theorem tm_X8_lie : tb_X8_lie.flatMap (pm_allN (RX8)) = [].filterMap (fun (i : Nat) => lw_tbl[i]?) ∧ tb_X8_lie.all (fun r => pm_chk RX8 false r.2.1 r.2.2.1 r.2.2.2 && pm_ckj r) = true := ⟨rfl, by decide +kernel⟩
set_option maxRecDepth 100000 in
set_option maxHeartbeats 4000000 in
theorem tn_X8_echo : tb_X8_echo.flatMap (pm_all (RX8)) = [734, 1039, 1040, 60, 1041, 895, 897, 25, 60, 898, 735, 1042, 1044, 52, 60, 1045, 735, 764, 735, 764, 765, 766, 767, 919, 921, 30, 60, 922].filterMap (fun (i : Nat) => lw_tbl[i]?) ∧ (tb_X8_echo.flatMap (pm_all (RX8))).all goodWord = true := ⟨rfl, by decide +kernel⟩
set_option maxRecDepth 100000 in
set_option maxHeartbeats 4000000 in
theorem tm_X8_echo : tb_X8_echo.flatMap (pm_allN (RX8)) = [].filterMap (fun (i : Nat) => lw_tbl[i]?) ∧ tb_X8_echo.all (fun r => pm_chk RX8 false r.2.1 r.2.2.1 r.2.2.2 && pm_ckj r) = true := ⟨rfl, by decide +kernel⟩
set_option maxRecDepth 100000 in
set_option maxHeartbeats 4000000 in
theorem tn_X8_replica : tb_X8_replica.flatMap (pm_all (RX8)) = [734, 1039, 1040, 60, 1041, 883, 885, 23, 60, 886, 741, 742, 946, 947, 60, 948, 742, 741, 957, 959, 37, 60, 960, 779, 740, 741, 743, 744, 745, 746, 742, 741, 954, 955, 60, 956, 883, 885, 23, 60, 886].filterMap (fun (i : Nat) => lw_tbl[i]?) ∧ (tb_X8_replica.flatMap (pm_all (RX8))).all goodWord = true := ⟨rfl, by decide +kernel⟩
set_option maxRecDepth 100000 in
set_option maxHeartbeats 4000000 in
theorem tm_X8_replica : tb_X8_replica.flatMap (pm_allN (RX8)) = [].filterMap (fun (i : Nat) => lw_tbl[i]?) ∧ tb_X8_replica.all (fun r => pm_chk RX8 false r.2.1 r.2.2.1 r.2.2.2 && pm_ckj r) = true := ⟨rfl, by decide +kernel⟩
set_option maxRecDepth 100000 in
set_option maxHeartbeats 4000000 in
theorem tn_X8_messages : tb_X8_messages.flatMap (pm_all (RX8)) = [734, 751].filterMap (fun (i : Nat) => lw_tbl[i]?) ∧ (tb_X8_messages.flatMap (pm_all (RX8))).all goodWord = true := ⟨rfl, by decide +kernel⟩
set_option maxRecDepth 100000 in
set_option maxHeartbeats 4000000 in
theorem tm_X8_messages : tb_X8_messages.flatMap (pm_allN (RX8)) = [].filterMap (fun (i : Nat) => lw_tbl[i]?) ∧ tb_X8_messages.all (fun r => pm_chk RX8 false r.2.1 r.2.2.1 r.2.2.2 && pm_ckj r) = true := ⟨rfl, by decide +kernel⟩
set_option maxRecDepth 100000 in
set_option maxHeartbeats 4000000 in
theorem tn_X8_message : tb_X8_message.flatMap (pm_all (RX8)) = [734, 751, 883, 885, 23, 60, 886, 752, 753, 754, 755, 757, 756, 762, 883, 885, 23, 60, 886].filterMap (fun (i : Nat) => lw_tbl[i]?) ∧ (tb_X8_message.flatMap (pm_all (RX8))).all goodWord = true := ⟨rfl, by decide +kernel⟩
set_option maxRecDepth 100000 in
set_option maxHeartbeats 4000000 in
theorem tm_X8_message : tb_X8_message.flatMap (pm_allN (RX8)) = [].filterMap (fun (i : Nat) => lw_tbl[i]?) ∧ tb_X8_message.all (fun r => pm_chk RX8 false r.2.1 r.2.2.1 r.2.2.2 && pm_ckj r) = true := ⟨rfl, by decide +kernel⟩
set_option maxRecDepth 100000 in
set_option maxHeartbeats 4000000 in
theorem tn_X8_replies : tb_X8_replies.flatMap (pm_all (RX8)) = [764].filterMap (fun (i : Nat) => lw_tbl[i]?) ∧ (tb_X8_replies.flatMap (pm_all (RX8))).all goodWord = true := ⟨rfl, by decide +kernel⟩
set_option maxRecDepth 100000 in
set_option maxHeartbeats 4000000 in
theorem tm_X8_replies : tb_X8_replies.flatMap (pm_allN (RX8)) = [].filterMap (fun (i : Nat) => lw_tbl[i]?) ∧ tb_X8_replies.all (fun r => pm_chk RX8 false r.2.1 r.2.2.1 r.2.2.2 && pm_ckj r) = true := ⟨rfl, by decide +kernel⟩
set_option maxRecDepth 100000 in
set_option maxHeartbeats 4000000 in
theorem tn_X8_request : tb_X8_request.flatMap (pm_all (RX8)) = [734, 895, 897, 25, 60, 898, 883, 885, 23, 60, 886, 776, 777, 778, 1070, 1072, 53, 60, 1073, 771, 883, 885, 23, 60, 886].filterMap (fun (i : Nat) => lw_tbl[i]?) ∧ (tb_X8_request.flatMap (pm_all (RX8))).all goodWord = true := ⟨rfl, by decide +kernel⟩
set_option maxRecDepth 100000 in
set_option maxHeartbeats 4000000 in
theorem tm_X8_request : tb_X8_request.flatMap (pm_allN (RX8)) = [].filterMap (fun (i : Nat) => lw_tbl[i]?) ∧ tb_X8_request.all (fun r => pm_chk RX8 false r.2.1 r.2.2.1 r.2.2.2 && pm_ckj r) = true := ⟨rfl, by decide +kernel⟩
set_option maxRecDepth 100000 in
set_option maxHeartbeats 4000000 in
theorem tn_X8_view : tb_X8_view.flatMap (pm_all (RX8)) = [734, 763].filterMap (fun (i : Nat) => lw_tbl[i]?) ∧ (tb_X8_view.flatMap (pm_all (RX8))).all goodWord = true := ⟨rfl, by decide +kernel⟩
set_option maxRecDepth 100000 in
set_option maxHeartbeats 4000000 in
theorem tm_X8_view : tb_X8_view.flatMap (pm_allN (RX8)) = [].filterMap (fun (i : Nat) => lw_tbl[i]?) ∧ tb_X8_view.all (fun r => pm_chk RX8 false r.2.1 r.2.2.1 r.2.2.2 && pm_ckj r) = true := ⟨rfl, by decide +kernel⟩
set_option maxRecDepth 100000 in
set_option maxHeartbeats 4000000 in
theorem tn_J6_bitCount_0f7a4 : tb_J6_bitCount_0f7a4.flatMap (pm_all (RJ6)) = [413, 414, 414, 415].filterMap (fun (i : Nat) => lw_tbl[i]?) ∧ (tb_J6_bitCount_0f7a4.flatMap (pm_all (RJ6))).all goodWord = true := ⟨rfl, by decide +kernel⟩
set_option maxRecDepth 100000 in
set_option maxHeartbeats 4000000 in
theorem tm_J6_bitCount_0f7a4 : tb_J6_bitCount_0f7a4.flatMap (pm_allN (RJ6)) = [].filterMap (fun (i : Nat) => lw_tbl[i]?) ∧ tb_J6_bitCount_0f7a4.all (fun r => pm_chk RJ6 false r.2.1 r.2.2.1 r.2.2.2 && pm_ckj r) = true := ⟨rfl, by decide +kernel⟩
set_option maxRecDepth 100000 in
set_option maxHeartbeats 4000000 in
theorem tn_L_cell : tb_L_cell.flatMap (pm_all (RL)) = [].filterMap (fun (i : Nat) => lw_tbl[i]?) ∧ (tb_L_cell.flatMap (pm_all (RL))).all goodWord = true := ⟨rfl, by decide +kernel⟩
set_option maxRecDepth 100000 in
set_option maxHeartbeats 4000000 in
theorem tm_L_cell : tb_L_cell.flatMap (pm_allN (RL)) = [].filterMap (fun (i : Nat) => lw_tbl[i]?) ∧ tb_L_cell.all (fun r => pm_chk RL false r.2.1 r.2.2.1 r.2.2.2 && pm_ckj r) = true := ⟨rfl, by decide +kernel⟩
set_option maxRecDepth 100000 in
set_option maxHeartbeats 4000000 in
theorem tn_L_issue : tb_L_issue.flatMap (pm_all (RL)) = [490, 491, 492, 55, 493].filterMap (fun (i : Nat) => lw_tbl[i]?) ∧ (tb_L_issue.flatMap (pm_all (RL))).all goodWord = true := ⟨rfl, by decide +kernel⟩
set_option maxRecDepth 100000 in
set_option maxHeartbeats 4000000 in
theorem tm_L_issue : tb_L_issue.flatMap (pm_allN (RL)) = [].filterMap (fun (i : Nat) => lw_tbl[i]?) ∧ tb_L_issue.all (fun r => pm_chk RL false r.2.1 r.2.2.1 r.2.2.2 && pm_ckj r) = true := ⟨rfl, by decide +kernel⟩
set_option maxRecDepth 100000 in
set_option maxHeartbeats 4000000 in
theorem tn_L_retry : tb_L_retry.flatMap (pm_all (RL)) = [622, 623, 624, 55, 625].filterMap (fun (i : Nat) => lw_tbl[i]?) ∧ (tb_L_retry.flatMap (pm_all (RL))).all goodWord = true := ⟨rfl, by decide +kernel⟩
set_option maxRecDepth 100000 in
set_option maxHeartbeats 4000000 in
theorem tm_L_retry : tb_L_retry.flatMap (pm_allN (RL)) = [].filterMap (fun (i : Nat) => lw_tbl[i]?) ∧ tb_L_retry.all (fun r => pm_chk RL false r.2.1 r.2.2.1 r.2.2.2 && pm_ckj r) = true := ⟨rfl, by decide +kernel⟩
set_option maxRecDepth 100000 in
set_option maxHeartbeats 4000000 in
theorem tn_L_flood : tb_L_flood.flatMap (pm_all (RL)) = [652, 653, 654, 55, 655].filterMap (fun (i : Nat) => lw_tbl[i]?) ∧ (tb_L_flood.flatMap (pm_all (RL))).all goodWord = true := ⟨rfl, by decide +kernel⟩
set_option maxRecDepth 100000 in
set_option maxHeartbeats 4000000 in
theorem tm_L_flood : tb_L_flood.flatMap (pm_allN (RL)) = [].filterMap (fun (i : Nat) => lw_tbl[i]?) ∧ tb_L_flood.all (fun r => pm_chk RL false r.2.1 r.2.2.1 r.2.2.2 && pm_ckj r) = true := ⟨rfl, by decide +kernel⟩
set_option maxRecDepth 100000 in
set_option maxHeartbeats 4000000 in
theorem tn_L_patience : tb_L_patience.flatMap (pm_all (RL)) = [660, 661, 662, 55, 663].filterMap (fun (i : Nat) => lw_tbl[i]?) ∧ (tb_L_patience.flatMap (pm_all (RL))).all goodWord = true := ⟨rfl, by decide +kernel⟩
set_option maxRecDepth 100000 in
set_option maxHeartbeats 4000000 in
theorem tm_L_patience : tb_L_patience.flatMap (pm_allN (RL)) = [].filterMap (fun (i : Nat) => lw_tbl[i]?) ∧ tb_L_patience.all (fun r => pm_chk RL false r.2.1 r.2.2.1 r.2.2.2 && pm_ckj r) = true := ⟨rfl, by decide +kernel⟩
set_option maxRecDepth 100000 in
set_option maxHeartbeats 4000000 in
theorem tn_L_lie : tb_L_lie.flatMap (pm_all (RL)) = [673, 674, 675, 55, 676].filterMap (fun (i : Nat) => lw_tbl[i]?) ∧ (tb_L_lie.flatMap (pm_all (RL))).all goodWord = true := ⟨rfl, by decide +kernel⟩
set_option maxRecDepth 100000 in
set_option maxHeartbeats 4000000 in
theorem tm_L_lie : tb_L_lie.flatMap (pm_allN (RL)) = [].filterMap (fun (i : Nat) => lw_tbl[i]?) ∧ tb_L_lie.all (fun r => pm_chk RL false r.2.1 r.2.2.1 r.2.2.2 && pm_ckj r) = true := ⟨rfl, by decide +kernel⟩
set_option maxRecDepth 100000 in
set_option maxHeartbeats 4000000 in
theorem tn_L_echo : tb_L_echo.flatMap (pm_all (RL)) = [683, 684, 685, 55, 686].filterMap (fun (i : Nat) => lw_tbl[i]?) ∧ (tb_L_echo.flatMap (pm_all (RL))).all goodWord = true := ⟨rfl, by decide +kernel⟩
set_option maxRecDepth 100000 in
set_option maxHeartbeats 4000000 in
theorem tm_L_echo : tb_L_echo.flatMap (pm_allN (RL)) = [].filterMap (fun (i : Nat) => lw_tbl[i]?) ∧ tb_L_echo.all (fun r => pm_chk RL false r.2.1 r.2.2.1 r.2.2.2 && pm_ckj r) = true := ⟨rfl, by decide +kernel⟩
set_option maxRecDepth 100000 in
set_option maxHeartbeats 4000000 in
theorem tn_L_replica : tb_L_replica.flatMap (pm_all (RL)) = [690, 691, 692, 55, 693].filterMap (fun (i : Nat) => lw_tbl[i]?) ∧ (tb_L_replica.flatMap (pm_all (RL))).all goodWord = true := ⟨rfl, by decide +kernel⟩
set_option maxRecDepth 100000 in
set_option maxHeartbeats 4000000 in
theorem tm_L_replica : tb_L_replica.flatMap (pm_allN (RL)) = [].filterMap (fun (i : Nat) => lw_tbl[i]?) ∧ tb_L_replica.all (fun r => pm_chk RL false r.2.1 r.2.2.1 r.2.2.2 && pm_ckj r) = true := ⟨rfl, by decide +kernel⟩
set_option maxRecDepth 100000 in
set_option maxHeartbeats 4000000 in
theorem tn_L_message : tb_L_message.flatMap (pm_all (RL)) = [703, 704, 705, 55, 706].filterMap (fun (i : Nat) => lw_tbl[i]?) ∧ (tb_L_message.flatMap (pm_all (RL))).all goodWord = true := ⟨rfl, by decide +kernel⟩
set_option maxRecDepth 100000 in
set_option maxHeartbeats 4000000 in
theorem tm_L_message : tb_L_message.flatMap (pm_allN (RL)) = [].filterMap (fun (i : Nat) => lw_tbl[i]?) ∧ tb_L_message.all (fun r => pm_chk RL false r.2.1 r.2.2.1 r.2.2.2 && pm_ckj r) = true := ⟨rfl, by decide +kernel⟩
set_option maxRecDepth 100000 in
set_option maxHeartbeats 4000000 in
theorem tn_L_request : tb_L_request.flatMap (pm_all (RL)) = [715, 716, 717, 55, 718].filterMap (fun (i : Nat) => lw_tbl[i]?) ∧ (tb_L_request.flatMap (pm_all (RL))).all goodWord = true := ⟨rfl, by decide +kernel⟩
set_option maxRecDepth 100000 in
set_option maxHeartbeats 4000000 in
theorem tm_L_request : tb_L_request.flatMap (pm_allN (RL)) = [].filterMap (fun (i : Nat) => lw_tbl[i]?) ∧ tb_L_request.all (fun r => pm_chk RL false r.2.1 r.2.2.1 r.2.2.2 && pm_ckj r) = true := ⟨rfl, by decide +kernel⟩
set_option maxRecDepth 100000 in
set_option maxHeartbeats 4000000 in
theorem tn_L_law : tb_L_law.flatMap (pm_all (RL)) = [73, 74, 55, 482, 483, 54, 484, 75, 76, 55, 77, 728, 729, 60, 482, 483, 54, 484, 730, 731, 60, 732, 873, 485, 486, 54, 487, 879, 880, 881, 60, 882, 875, 876, 877, 60, 878, 618, 619, 54, 620, 891, 892, 893, 60, 894, 875, 876, 877, 60, 878, 206, 207, 208, 55, 209, 911, 912, 913, 60, 914, 649, 650, 54, 651, 1026, 1027, 1028, 60, 1029, 875, 876, 877, 60, 878, 470, 471, 472, 55, 473, 1031, 1032, 1033, 60, 1034, 657, 658, 54, 659, 1035, 1036, 1037, 60, 1038, 875, 876, 877, 60, 878, 670, 671, 54, 672, 1046, 1047, 1048, 60, 1049, 875, 876, 877, 60, 878, 680, 681, 54, 682, 1050, 1051, 1052, 60, 1053, 875, 876, 877, 60, 878, 687, 688, 54, 689, 1054, 1055, 1056, 60, 1057, 875, 876, 877, 60, 878, 474, 475, 476, 55, 477, 1058, 1059, 1060, 60, 1061, 700, 701, 54, 702, 1062, 1063, 1064, 60, 1065, 875, 876, 877, 60, 878, 712, 713, 54, 714, 1066, 1067, 1068, 60, 1069, 875, 876, 877, 60, 878, 478, 479, 480, 55, 481, 1074, 1075, 1076, 60, 1077].filterMap (fun (i : Nat) => lw_tbl[i]?) ∧ (tb_L_law.flatMap (pm_all (RL))).all goodWord = true := ⟨rfl, by decide +kernel⟩
set_option maxRecDepth 100000 in
set_option maxHeartbeats 4000000 in
theorem tm_L_law : tb_L_law.flatMap (pm_allN (RL)) = [].filterMap (fun (i : Nat) => lw_tbl[i]?) ∧ tb_L_law.all (fun r => pm_chk RL false r.2.1 r.2.2.1 r.2.2.2 && pm_ckj r) = true := ⟨rfl, by decide +kernel⟩
