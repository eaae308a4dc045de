set_option maxRecDepth 100000 in
set_option maxHeartbeats 4000000 in
theorem tn_X7_askFor : tb_X7_askFor.flatMap (pm_all (RX7)) = [389, 287, 67, 390, 296, 67, 297].filterMap (fun (i : Nat) => lw_tbl[i]?) ∧ (tb_X7_askFor.flatMap (pm_all (RX7))).all goodWord = true := ⟨rfl, by decide +kernel⟩
set_option maxRecDepth 100000 in
set_option maxHeartbeats 4000000 in
theorem tm_X7_askFor : tb_X7_askFor.flatMap (pm_allN (RX7)) = [].filterMap (fun (i : Nat) => lw_tbl[i]?) ∧ tb_X7_askFor.all (fun r => pm_chk RX7 false r.2.1 r.2.2.1 r.2.2.2 && pm_ckj r) = true := ⟨rfl, by decide +kernel⟩
set_option maxRecDepth 100000 in
set_option maxHeartbeats 4000000 in
theorem tn_X8_init : tb_X8_init.flatMap (pm_all (RX8)) = [733, 79, 80, 154, 737, 154, 738, 154, 739, 154, 740, 154, 741, 873, 742, 154, 743, 874, 744, 154, 745, 154, 746, 154, 747, 154, 748, 873, 749, 154, 750, 154, 752, 154, 753, 154, 754, 154, 755, 154, 756, 154, 757, 154, 758, 154, 759, 154, 760, 873, 761, 154, 762, 154, 764, 154, 765, 154, 766, 154, 767, 154, 768, 154, 769, 154, 770, 874, 771, 154, 772, 154, 773, 154, 774, 154, 775, 874, 776, 154, 777, 154, 778, 154, 779, 735, 747, 764, 768].filterMap (fun (i : Nat) => lw_tbl[i]?) ∧ (tb_X8_init.flatMap (pm_all (RX8))).all goodWord = true := ⟨rfl, by decide +kernel⟩
set_option maxRecDepth 100000 in
set_option maxHeartbeats 4000000 in
theorem tm_X8_init : tb_X8_init.flatMap (pm_allN (RX8)) = [].filterMap (fun (i : Nat) => lw_tbl[i]?) ∧ tb_X8_init.all (fun r => pm_chk RX8 true r.2.1 r.2.2.1 r.2.2.2 && pm_ckj r) = true := ⟨rfl, by decide +kernel⟩
set_option maxRecDepth 100000 in
set_option maxHeartbeats 4000000 in
theorem tn_X8_thrown : tb_X8_thrown.flatMap (pm_all (RX8)) = [734].filterMap (fun (i : Nat) => lw_tbl[i]?) ∧ (tb_X8_thrown.flatMap (pm_all (RX8))).all goodWord = true := ⟨rfl, by decide +kernel⟩
set_option maxRecDepth 100000 in
set_option maxHeartbeats 4000000 in
theorem tm_X8_thrown : tb_X8_thrown.flatMap (pm_allN (RX8)) = [].filterMap (fun (i : Nat) => lw_tbl[i]?) ∧ tb_X8_thrown.all (fun r => pm_chk RX8 false r.2.1 r.2.2.1 r.2.2.2 && pm_ckj r) = true := ⟨rfl, by decide +kernel⟩
set_option maxRecDepth 100000 in
set_option maxHeartbeats 4000000 in
theorem tn_X8_refuse : tb_X8_refuse.flatMap (pm_all (RX8)) = [734].filterMap (fun (i : Nat) => lw_tbl[i]?) ∧ (tb_X8_refuse.flatMap (pm_all (RX8))).all goodWord = true := ⟨rfl, by decide +kernel⟩
set_option maxRecDepth 100000 in
set_option maxHeartbeats 4000000 in
theorem tm_X8_refuse : tb_X8_refuse.flatMap (pm_allN (RX8)) = [].filterMap (fun (i : Nat) => lw_tbl[i]?) ∧ tb_X8_refuse.all (fun r => pm_chk RX8 false r.2.1 r.2.2.1 r.2.2.2 && pm_ckj r) = true := ⟨rfl, by decide +kernel⟩
set_option maxRecDepth 100000 in
set_option maxHeartbeats 4000000 in
theorem tn_X8_at : tb_X8_at.flatMap (pm_all (RX8)) = [949].filterMap (fun (i : Nat) => lw_tbl[i]?) ∧ (tb_X8_at.flatMap (pm_all (RX8))).all goodWord = true := ⟨rfl, by decide +kernel⟩
set_option maxRecDepth 100000 in
set_option maxHeartbeats 4000000 in
theorem tm_X8_at : tb_X8_at.flatMap (pm_allN (RX8)) = [].filterMap (fun (i : Nat) => lw_tbl[i]?) ∧ tb_X8_at.all (fun r => pm_chk RX8 false r.2.1 r.2.2.1 r.2.2.2 && pm_ckj r) = true := ⟨rfl, by decide +kernel⟩
set_option maxRecDepth 100000 in
set_option maxHeartbeats 4000000 in
theorem tn_X8_with : tb_X8_with.flatMap (pm_all (RX8)) = [].filterMap (fun (i : Nat) => lw_tbl[i]?) ∧ (tb_X8_with.flatMap (pm_all (RX8))).all goodWord = true := ⟨rfl, by decide +kernel⟩
set_option maxRecDepth 100000 in
set_option maxHeartbeats 4000000 in
theorem tm_X8_with : tb_X8_with.flatMap (pm_allN (RX8)) = [].filterMap (fun (i : Nat) => lw_tbl[i]?) ∧ tb_X8_with.all (fun r => pm_chk RX8 false r.2.1 r.2.2.1 r.2.2.2 && pm_ckj r) = true := ⟨rfl, by decide +kernel⟩
set_option maxRecDepth 100000 in
set_option maxHeartbeats 4000000 in
theorem tn_X8_begin : tb_X8_begin.flatMap (pm_all (RX8)) = [].filterMap (fun (i : Nat) => lw_tbl[i]?) ∧ (tb_X8_begin.flatMap (pm_all (RX8))).all goodWord = true := ⟨rfl, by decide +kernel⟩
set_option maxRecDepth 100000 in
set_option maxHeartbeats 4000000 in
theorem tm_X8_begin : tb_X8_begin.flatMap (pm_allN (RX8)) = [].filterMap (fun (i : Nat) => lw_tbl[i]?) ∧ tb_X8_begin.all (fun r => pm_chk RX8 false r.2.1 r.2.2.1 r.2.2.2 && pm_ckj r) = true := ⟨rfl, by decide +kernel⟩
set_option maxRecDepth 100000 in
set_option maxHeartbeats 4000000 in
theorem tn_X8_digestOf : tb_X8_digestOf.flatMap (pm_all (RX8)) = [946, 947, 60, 948].filterMap (fun (i : Nat) => lw_tbl[i]?) ∧ (tb_X8_digestOf.flatMap (pm_all (RX8))).all goodWord = true := ⟨rfl, by decide +kernel⟩
set_option maxRecDepth 100000 in
set_option maxHeartbeats 4000000 in
theorem tm_X8_digestOf : tb_X8_digestOf.flatMap (pm_allN (RX8)) = [].filterMap (fun (i : Nat) => lw_tbl[i]?) ∧ tb_X8_digestOf.all (fun r => pm_chk RX8 false r.2.1 r.2.2.1 r.2.2.2 && pm_ckj r) = true := ⟨rfl, by decide +kernel⟩
set_option maxRecDepth 100000 in
set_option maxHeartbeats 4000000 in
theorem tn_X8_placeIn : tb_X8_placeIn.flatMap (pm_all (RX8)) = [946, 947, 60, 948].filterMap (fun (i : Nat) => lw_tbl[i]?) ∧ (tb_X8_placeIn.flatMap (pm_all (RX8))).all goodWord = true := ⟨rfl, by decide +kernel⟩
set_option maxRecDepth 100000 in
set_option maxHeartbeats 4000000 in
theorem tm_X8_placeIn : tb_X8_placeIn.flatMap (pm_allN (RX8)) = [].filterMap (fun (i : Nat) => lw_tbl[i]?) ∧ tb_X8_placeIn.all (fun r => pm_chk RX8 false r.2.1 r.2.2.1 r.2.2.2 && pm_ckj r) = true := ⟨rfl, by decide +kernel⟩
set_option maxRecDepth 100000 in
set_option maxHeartbeats 4000000 in
theorem tn_X8_work : tb_X8_work.flatMap (pm_all (RX8)) = [779, 946, 947, 60, 948, 779, 738, 737, 779, 738, 739, 737, 779, 738, 739, 737, 779, 738].filterMap (fun (i : Nat) => lw_tbl[i]?) ∧ (tb_X8_work.flatMap (pm_all (RX8))).all goodWord = true := ⟨rfl, by decide +kernel⟩
set_option maxRecDepth 100000 in
set_option maxHeartbeats 4000000 in
theorem tm_X8_work : tb_X8_work.flatMap (pm_allN (RX8)) = [].filterMap (fun (i : Nat) => lw_tbl[i]?) ∧ tb_X8_work.all (fun r => pm_chk RX8 false r.2.1 r.2.2.1 r.2.2.2 && pm_ckj r) = true := ⟨rfl, by decide +kernel⟩
set_option maxRecDepth 100000 in
set_option maxHeartbeats 4000000 in
theorem tn_X8_send : tb_X8_send.flatMap (pm_all (RX8)) = [751, 751, 752, 753, 754, 755, 757, 756, 758, 751, 751].filterMap (fun (i : Nat) => lw_tbl[i]?) ∧ (tb_X8_send.flatMap (pm_all (RX8))).all goodWord = true := ⟨rfl, by decide +kernel⟩
set_option maxRecDepth 100000 in
set_option maxHeartbeats 4000000 in
theorem tm_X8_send : tb_X8_send.flatMap (pm_allN (RX8)) = [].filterMap (fun (i : Nat) => lw_tbl[i]?) ∧ tb_X8_send.all (fun r => pm_chk RX8 false r.2.1 r.2.2.1 r.2.2.2 && pm_ckj r) = true := ⟨rfl, by decide +kernel⟩
set_option maxRecDepth 100000 in
set_option maxHeartbeats 4000000 in
theorem tn_X8_sendToAll : tb_X8_sendToAll.flatMap (pm_all (RX8)) = [887, 889, 24, 60, 890].filterMap (fun (i : Nat) => lw_tbl[i]?) ∧ (tb_X8_sendToAll.flatMap (pm_all (RX8))).all goodWord = true := ⟨rfl, by decide +kernel⟩
set_option maxRecDepth 100000 in
set_option maxHeartbeats 4000000 in
theorem tm_X8_sendToAll : tb_X8_sendToAll.flatMap (pm_allN (RX8)) = [].filterMap (fun (i : Nat) => lw_tbl[i]?) ∧ tb_X8_sendToAll.all (fun r => pm_chk RX8 false r.2.1 r.2.2.1 r.2.2.2 && pm_ckj r) = true := ⟨rfl, by decide +kernel⟩
set_option maxRecDepth 100000 in
set_option maxHeartbeats 4000000 in
theorem tn_X8_sendRow : tb_X8_sendRow.flatMap (pm_all (RX8)) = [887, 889, 24, 60, 890, 761, 760].filterMap (fun (i : Nat) => lw_tbl[i]?) ∧ (tb_X8_sendRow.flatMap (pm_all (RX8))).all goodWord = true := ⟨rfl, by decide +kernel⟩
set_option maxRecDepth 100000 in
set_option maxHeartbeats 4000000 in
theorem tm_X8_sendRow : tb_X8_sendRow.flatMap (pm_allN (RX8)) = [].filterMap (fun (i : Nat) => lw_tbl[i]?) ∧ tb_X8_sendRow.all (fun r => pm_chk RX8 false r.2.1 r.2.2.1 r.2.2.2 && pm_ckj r) = true := ⟨rfl, by decide +kernel⟩
set_option maxRecDepth 100000 in
set_option maxHeartbeats 4000000 in
theorem tn_X8_reply : tb_X8_reply.flatMap (pm_all (RX8)) = [740, 742, 946, 947, 60, 948, 742, 954, 955, 60, 956, 887, 889, 24, 60, 890, 759, 742, 957, 959, 37, 60, 960].filterMap (fun (i : Nat) => lw_tbl[i]?) ∧ (tb_X8_reply.flatMap (pm_all (RX8))).all goodWord = true := ⟨rfl, by decide +kernel⟩
set_option maxRecDepth 100000 in
set_option maxHeartbeats 4000000 in
theorem tm_X8_reply : tb_X8_reply.flatMap (pm_allN (RX8)) = [].filterMap (fun (i : Nat) => lw_tbl[i]?) ∧ tb_X8_reply.all (fun r => pm_chk RX8 false r.2.1 r.2.2.1 r.2.2.2 && pm_ckj r) = true := ⟨rfl, by decide +kernel⟩
set_option maxRecDepth 100000 in
set_option maxHeartbeats 4000000 in
theorem tn_X8_order : tb_X8_order.flatMap (pm_all (RX8)) = [740, 742, 946, 947, 60, 948, 742, 954, 955, 60, 956, 907, 909, 28, 60, 910].filterMap (fun (i : Nat) => lw_tbl[i]?) ∧ (tb_X8_order.flatMap (pm_all (RX8))).all goodWord = true := ⟨rfl, by decide +kernel⟩
set_option maxRecDepth 100000 in
set_option maxHeartbeats 4000000 in
theorem tm_X8_order : tb_X8_order.flatMap (pm_allN (RX8)) = [].filterMap (fun (i : Nat) => lw_tbl[i]?) ∧ tb_X8_order.all (fun r => pm_chk RX8 false r.2.1 r.2.2.1 r.2.2.2 && pm_ckj r) = true := ⟨rfl, by decide +kernel⟩
set_option maxRecDepth 100000 in
set_option maxHeartbeats 4000000 in
theorem tn_X8_isPrimary : tb_X8_isPrimary.flatMap (pm_all (RX8)) = [740].filterMap (fun (i : Nat) => lw_tbl[i]?) ∧ (tb_X8_isPrimary.flatMap (pm_all (RX8))).all goodWord = true := ⟨rfl, by decide +kernel⟩
set_option maxRecDepth 100000 in
set_option maxHeartbeats 4000000 in
theorem tm_X8_isPrimary : tb_X8_isPrimary.flatMap (pm_allN (RX8)) = [].filterMap (fun (i : Nat) => lw_tbl[i]?) ∧ tb_X8_isPrimary.all (fun r => pm_chk RX8 false r.2.1 r.2.2.1 r.2.2.2 && pm_ckj r) = true := ⟨rfl, by decide +kernel⟩
set_option maxRecDepth 100000 in
set_option maxHeartbeats 4000000 in
theorem tn_X8_append : tb_X8_append.flatMap (pm_all (RX8)) = [742, 742, 741, 973, 974, 60, 975, 741, 745].filterMap (fun (i : Nat) => lw_tbl[i]?) ∧ (tb_X8_append.flatMap (pm_all (RX8))).all goodWord = true := ⟨rfl, by decide +kernel⟩
set_option maxRecDepth 100000 in
set_option maxHeartbeats 4000000 in
theorem tm_X8_append : tb_X8_append.flatMap (pm_allN (RX8)) = [].filterMap (fun (i : Nat) => lw_tbl[i]?) ∧ tb_X8_append.all (fun r => pm_chk RX8 false r.2.1 r.2.2.1 r.2.2.2 && pm_ckj r) = true := ⟨rfl, by decide +kernel⟩
set_option maxRecDepth 100000 in
set_option maxHeartbeats 4000000 in
theorem tn_X8_takeAsk : tb_X8_takeAsk.flatMap (pm_all (RX8)) = [742, 741, 943, 944, 60, 945, 950, 952, 36, 60, 953, 961, 963, 38, 60, 964, 965, 967, 39, 60, 968, 961, 963, 38, 60, 964, 969, 971, 40, 60, 972, 741, 965, 967, 39, 60, 968, 741, 950, 952, 36, 60, 953, 745, 740, 740, 887, 889, 24, 60, 890].filterMap (fun (i : Nat) => lw_tbl[i]?) ∧ (tb_X8_takeAsk.flatMap (pm_all (RX8))).all goodWord = true := ⟨rfl, by decide +kernel⟩
set_option maxRecDepth 100000 in
set_option maxHeartbeats 4000000 in
theorem tm_X8_takeAsk : tb_X8_takeAsk.flatMap (pm_allN (RX8)) = [].filterMap (fun (i : Nat) => lw_tbl[i]?) ∧ tb_X8_takeAsk.all (fun r => pm_chk RX8 false r.2.1 r.2.2.1 r.2.2.2 && pm_ckj r) = true := ⟨rfl, by decide +kernel⟩
set_option maxRecDepth 100000 in
set_option maxHeartbeats 4000000 in
theorem tn_X8_takeOrder : tb_X8_takeOrder.flatMap (pm_all (RX8)) = [744, 740, 741, 742, 741, 943, 944, 60, 945, 742, 741, 954, 955, 60, 956, 969, 971, 40, 60, 972, 950, 952, 36, 60, 953].filterMap (fun (i : Nat) => lw_tbl[i]?) ∧ (tb_X8_takeOrder.flatMap (pm_all (RX8))).all goodWord = true := ⟨rfl, by decide +kernel⟩
set_option maxRecDepth 100000 in
set_option maxHeartbeats 4000000 in
theorem tm_X8_takeOrder : tb_X8_takeOrder.flatMap (pm_allN (RX8)) = [].filterMap (fun (i : Nat) => lw_tbl[i]?) ∧ tb_X8_takeOrder.all (fun r => pm_chk RX8 false r.2.1 r.2.2.1 r.2.2.2 && pm_ckj r) = true := ⟨rfl, by decide +kernel⟩
set_option maxRecDepth 100000 in
set_option maxHeartbeats 4000000 in
theorem tn_X8_takeProof : tb_X8_takeProof.flatMap (pm_all (RX8)) = [740, 741, 742, 954, 955, 60, 956, 743, 743, 743, 887, 889, 24, 60, 890].filterMap (fun (i : Nat) => lw_tbl[i]?) ∧ (tb_X8_takeProof.flatMap (pm_all (RX8))).all goodWord = true := ⟨rfl, by decide +kernel⟩
set_option maxRecDepth 100000 in
set_option maxHeartbeats 4000000 in
theorem tm_X8_takeProof : tb_X8_takeProof.flatMap (pm_allN (RX8)) = [].filterMap (fun (i : Nat) => lw_tbl[i]?) ∧ tb_X8_takeProof.all (fun r => pm_chk RX8 false r.2.1 r.2.2.1 r.2.2.2 && pm_ckj r) = true := ⟨rfl, by decide +kernel⟩
set_option maxRecDepth 100000 in
set_option maxHeartbeats 4000000 in
theorem tn_X8_bits : tb_X8_bits.flatMap (pm_all (RX8)) = [].filterMap (fun (i : Nat) => lw_tbl[i]?) ∧ (tb_X8_bits.flatMap (pm_all (RX8))).all goodWord = true := ⟨rfl, by decide +kernel⟩
set_option maxRecDepth 100000 in
set_option maxHeartbeats 4000000 in
theorem tm_X8_bits : tb_X8_bits.flatMap (pm_allN (RX8)) = [].filterMap (fun (i : Nat) => lw_tbl[i]?) ∧ tb_X8_bits.all (fun r => pm_chk RX8 false r.2.1 r.2.2.1 r.2.2.2 && pm_ckj r) = true := ⟨rfl, by decide +kernel⟩
set_option maxRecDepth 100000 in
set_option maxHeartbeats 4000000 in
theorem tn_X8_takeHate : tb_X8_takeHate.flatMap (pm_all (RX8)) = [746, 746, 988, 989, 60, 990, 740, 746, 744, 740, 740, 742, 741, 743, 991, 993, 44, 60, 994, 740, 742, 741, 743, 1014, 1016, 49, 60, 1017].filterMap (fun (i : Nat) => lw_tbl[i]?) ∧ (tb_X8_takeHate.flatMap (pm_all (RX8))).all goodWord = true := ⟨rfl, by decide +kernel⟩
set_option maxRecDepth 100000 in
set_option maxHeartbeats 4000000 in
theorem tm_X8_takeHate : tb_X8_takeHate.flatMap (pm_allN (RX8)) = [].filterMap (fun (i : Nat) => lw_tbl[i]?) ∧ tb_X8_takeHate.all (fun r => pm_chk RX8 false r.2.1 r.2.2.1 r.2.2.2 && pm_ckj r) = true := ⟨rfl, by decide +kernel⟩
set_option maxRecDepth 100000 in
set_option maxHeartbeats 4000000 in
theorem tn_X8_takeChange : tb_X8_takeChange.flatMap (pm_all (RX8)) = [740, 747, 749, 748, 750, 747, 744, 740, 995, 997, 45, 60, 998].filterMap (fun (i : Nat) => lw_tbl[i]?) ∧ (tb_X8_takeChange.flatMap (pm_all (RX8))).all goodWord = true := ⟨rfl, by decide +kernel⟩
set_option maxRecDepth 100000 in
set_option maxHeartbeats 4000000 in
theorem tm_X8_takeChange : tb_X8_takeChange.flatMap (pm_allN (RX8)) = [].filterMap (fun (i : Nat) => lw_tbl[i]?) ∧ tb_X8_takeChange.all (fun r => pm_chk RX8 false r.2.1 r.2.2.1 r.2.2.2 && pm_ckj r) = true := ⟨rfl, by decide +kernel⟩
set_option maxRecDepth 100000 in
set_option maxHeartbeats 4000000 in
theorem tn_X8_safest : tb_X8_safest.flatMap (pm_all (RX8)) = [747, 740, 750, 750].filterMap (fun (i : Nat) => lw_tbl[i]?) ∧ (tb_X8_safest.flatMap (pm_all (RX8))).all goodWord = true := ⟨rfl, by decide +kernel⟩
set_option maxRecDepth 100000 in
set_option maxHeartbeats 4000000 in
theorem tm_X8_safest : tb_X8_safest.flatMap (pm_allN (RX8)) = [].filterMap (fun (i : Nat) => lw_tbl[i]?) ∧ tb_X8_safest.all (fun r => pm_chk RX8 false r.2.1 r.2.2.1 r.2.2.2 && pm_ckj r) = true := ⟨rfl, by decide +kernel⟩
set_option maxRecDepth 100000 in
set_option maxHeartbeats 4000000 in
theorem tn_X8_goesOn : tb_X8_goesOn.flatMap (pm_all (RX8)) = [747, 740, 748, 749, 1003, 1004, 60, 1005, 749, 946, 947, 60, 948].filterMap (fun (i : Nat) => lw_tbl[i]?) ∧ (tb_X8_goesOn.flatMap (pm_all (RX8))).all goodWord = true := ⟨rfl, by decide +kernel⟩
set_option maxRecDepth 100000 in
set_option maxHeartbeats 4000000 in
theorem tm_X8_goesOn : tb_X8_goesOn.flatMap (pm_allN (RX8)) = [].filterMap (fun (i : Nat) => lw_tbl[i]?) ∧ tb_X8_goesOn.all (fun r => pm_chk RX8 false r.2.1 r.2.2.1 r.2.2.2 && pm_ckj r) = true := ⟨rfl, by decide +kernel⟩
set_option maxRecDepth 100000 in
set_option maxHeartbeats 4000000 in
theorem tn_X8_nextOf : tb_X8_nextOf.flatMap (pm_all (RX8)) = [1010, 1012, 48, 60, 1013, 1010, 1012, 48, 60, 1013].filterMap (fun (i : Nat) => lw_tbl[i]?) ∧ (tb_X8_nextOf.flatMap (pm_all (RX8))).all goodWord = true := ⟨rfl, by decide +kernel⟩
set_option maxRecDepth 100000 in
set_option maxHeartbeats 4000000 in
theorem tm_X8_nextOf : tb_X8_nextOf.flatMap (pm_allN (RX8)) = [].filterMap (fun (i : Nat) => lw_tbl[i]?) ∧ tb_X8_nextOf.all (fun r => pm_chk RX8 false r.2.1 r.2.2.1 r.2.2.2 && pm_ckj r) = true := ⟨rfl, by decide +kernel⟩
set_option maxRecDepth 100000 in
set_option maxHeartbeats 4000000 in
theorem tn_X8_makeNew : tb_X8_makeNew.flatMap (pm_all (RX8)) = [999, 1001, 46, 60, 1002, 750, 749, 1003, 1004, 60, 1005, 1006, 1008, 47, 60, 1009, 973, 974, 60, 975, 1006, 1008, 47, 60, 1009, 740, 1014, 1016, 49, 60, 1017, 740, 1018, 1020, 50, 60, 1021].filterMap (fun (i : Nat) => lw_tbl[i]?) ∧ (tb_X8_makeNew.flatMap (pm_all (RX8))).all goodWord = true := ⟨rfl, by decide +kernel⟩
set_option maxRecDepth 100000 in
set_option maxHeartbeats 4000000 in
theorem tm_X8_makeNew : tb_X8_makeNew.flatMap (pm_allN (RX8)) = [].filterMap (fun (i : Nat) => lw_tbl[i]?) ∧ tb_X8_makeNew.all (fun r => pm_chk RX8 false r.2.1 r.2.2.1 r.2.2.2 && pm_ckj r) = true := ⟨rfl, by decide +kernel⟩
set_option maxRecDepth 100000 in
set_option maxHeartbeats 4000000 in
theorem tn_X8_turn : tb_X8_turn.flatMap (pm_all (RX8)) = [740, 742, 741, 743, 744, 746, 745, 946, 947, 60, 948, 950, 952, 36, 60, 953].filterMap (fun (i : Nat) => lw_tbl[i]?) ∧ (tb_X8_turn.flatMap (pm_all (RX8))).all goodWord = true := ⟨rfl, by decide +kernel⟩
set_option maxRecDepth 100000 in
set_option maxHeartbeats 4000000 in
theorem tm_X8_turn : tb_X8_turn.flatMap (pm_allN (RX8)) = [].filterMap (fun (i : Nat) => lw_tbl[i]?) ∧ tb_X8_turn.all (fun r => pm_chk RX8 false r.2.1 r.2.2.1 r.2.2.2 && pm_ckj r) = true := ⟨rfl, by decide +kernel⟩
set_option maxRecDepth 100000 in
set_option maxHeartbeats 4000000 in
theorem tn_X8_takeNew : tb_X8_takeNew.flatMap (pm_all (RX8)) = [755, 753, 740, 740, 744, 761, 756, 760, 1018, 1020, 50, 60, 1021].filterMap (fun (i : Nat) => lw_tbl[i]?) ∧ (tb_X8_takeNew.flatMap (pm_all (RX8))).all goodWord = true := ⟨rfl, by decide +kernel⟩
set_option maxRecDepth 100000 in
set_option maxHeartbeats 4000000 in
theorem tm_X8_takeNew : tb_X8_takeNew.flatMap (pm_allN (RX8)) = [].filterMap (fun (i : Nat) => lw_tbl[i]?) ∧ tb_X8_takeNew.all (fun r => pm_chk RX8 false r.2.1 r.2.2.1 r.2.2.2 && pm_ckj r) = true := ⟨rfl, by decide +kernel⟩
set_option maxRecDepth 100000 in
set_option maxHeartbeats 4000000 in
theorem tn_X8_take : tb_X8_take.flatMap (pm_all (RX8)) = [752, 744, 757, 753, 939, 941, 35, 60, 942, 753, 755, 756, 757, 758, 976, 978, 41, 60, 979, 744, 755, 756, 758, 980, 982, 42, 60, 983, 755, 740, 753, 984, 986, 43, 60, 987, 753, 755, 761, 756, 760, 991, 993, 44, 60, 994, 1022, 1024, 51, 60, 1025].filterMap (fun (i : Nat) => lw_tbl[i]?) ∧ (tb_X8_take.flatMap (pm_all (RX8))).all goodWord = true := ⟨rfl, by decide +kernel⟩
set_option maxRecDepth 100000 in
set_option maxHeartbeats 4000000 in
theorem tm_X8_take : tb_X8_take.flatMap (pm_allN (RX8)) = [].filterMap (fun (i : Nat) => lw_tbl[i]?) ∧ tb_X8_take.all (fun r => pm_chk RX8 false r.2.1 r.2.2.1 r.2.2.2 && pm_ckj r) = true := ⟨rfl, by decide +kernel⟩
set_option maxRecDepth 100000 in
set_option maxHeartbeats 4000000 in
theorem tn_X8_areAlike : tb_X8_areAlike.flatMap (pm_all (RX8)) = [764, 764, 764, 765, 765, 766, 766, 767, 767].filterMap (fun (i : Nat) => lw_tbl[i]?) ∧ (tb_X8_areAlike.flatMap (pm_all (RX8))).all goodWord = true := ⟨rfl, by decide +kernel⟩
set_option maxRecDepth 100000 in
set_option maxHeartbeats 4000000 in
theorem tm_X8_areAlike : tb_X8_areAlike.flatMap (pm_allN (RX8)) = [].filterMap (fun (i : Nat) => lw_tbl[i]?) ∧ tb_X8_areAlike.all (fun r => pm_chk RX8 false r.2.1 r.2.2.1 r.2.2.2 && pm_ckj r) = true := ⟨rfl, by decide +kernel⟩
set_option maxRecDepth 100000 in
set_option maxHeartbeats 4000000 in
theorem tn_X8_alike : tb_X8_alike.flatMap (pm_all (RX8)) = [903, 905, 27, 60, 906].filterMap (fun (i : Nat) => lw_tbl[i]?) ∧ (tb_X8_alike.flatMap (pm_all (RX8))).all goodWord = true := ⟨rfl, by decide +kernel⟩
set_option maxRecDepth 100000 in
set_option maxHeartbeats 4000000 in
theorem tm_X8_alike : tb_X8_alike.flatMap (pm_allN (RX8)) = [].filterMap (fun (i : Nat) => lw_tbl[i]?) ∧ tb_X8_alike.all (fun r => pm_chk RX8 false r.2.1 r.2.2.1 r.2.2.2 && pm_ckj r) = true := ⟨rfl, by decide +kernel⟩
set_option maxRecDepth 100000 in
set_option maxHeartbeats 4000000 in
theorem tn_X8_finish : tb_X8_finish.flatMap (pm_all (RX8)) = [776, 777, 778].filterMap (fun (i : Nat) => lw_tbl[i]?) ∧ (tb_X8_finish.flatMap (pm_all (RX8))).all goodWord = true := ⟨rfl, by decide +kernel⟩
set_option maxRecDepth 100000 in
set_option maxHeartbeats 4000000 in
theorem tm_X8_finish : tb_X8_finish.flatMap (pm_allN (RX8)) = [].filterMap (fun (i : Nat) => lw_tbl[i]?) ∧ tb_X8_finish.all (fun r => pm_chk RX8 false r.2.1 r.2.2.1 r.2.2.2 && pm_ckj r) = true := ⟨rfl, by decide +kernel⟩
set_option maxRecDepth 100000 in
set_option maxHeartbeats 4000000 in
theorem tn_X8_look : tb_X8_look.flatMap (pm_all (RX8)) = [776, 899, 901, 26, 60, 902, 767, 765, 927, 929, 32, 60, 930, 771, 768, 772, 769, 773, 770, 774, 775, 773, 927, 929, 32, 60, 930].filterMap (fun (i : Nat) => lw_tbl[i]?) ∧ (tb_X8_look.flatMap (pm_all (RX8))).all goodWord = true := ⟨rfl, by decide +kernel⟩
set_option maxRecDepth 100000 in
set_option maxHeartbeats 4000000 in
theorem tm_X8_look : tb_X8_look.flatMap (pm_allN (RX8)) = [].filterMap (fun (i : Nat) => lw_tbl[i]?) ∧ tb_X8_look.all (fun r => pm_chk RX8 false r.2.1 r.2.2.1 r.2.2.2 && pm_ckj r) = true := ⟨rfl, by decide +kernel⟩
set_option maxRecDepth 100000 in
set_option maxHeartbeats 4000000 in
theorem tn_X8_takeReply : tb_X8_takeReply.flatMap (pm_all (RX8)) = [763, 763, 763, 764, 764, 765, 766, 767, 923, 925, 31, 60, 926].filterMap (fun (i : Nat) => lw_tbl[i]?) ∧ (tb_X8_takeReply.flatMap (pm_all (RX8))).all goodWord = true := ⟨rfl, by decide +kernel⟩
set_option maxRecDepth 100000 in
set_option maxHeartbeats 4000000 in
theorem tm_X8_takeReply : tb_X8_takeReply.flatMap (pm_allN (RX8)) = [].filterMap (fun (i : Nat) => lw_tbl[i]?) ∧ tb_X8_takeReply.all (fun r => pm_chk RX8 false r.2.1 r.2.2.1 r.2.2.2 && pm_ckj r) = true := ⟨rfl, by decide +kernel⟩
set_option maxRecDepth 100000 in
set_option maxHeartbeats 4000000 in
theorem tn_X8_takeAck : tb_X8_takeAck.flatMap (pm_all (RX8)) = [753, 768, 755, 769, 756, 770, 758, 736, 923, 925, 31, 60, 926].filterMap (fun (i : Nat) => lw_tbl[i]?) ∧ (tb_X8_takeAck.flatMap (pm_all (RX8))).all goodWord = true := ⟨rfl, by decide +kernel⟩
set_option maxRecDepth 100000 in
set_option maxHeartbeats 4000000 in
theorem tm_X8_takeAck : tb_X8_takeAck.flatMap (pm_allN (RX8)) = [].filterMap (fun (i : Nat) => lw_tbl[i]?) ∧ tb_X8_takeAck.all (fun r => pm_chk RX8 false r.2.1 r.2.2.1 r.2.2.2 && pm_ckj r) = true := ⟨rfl, by decide +kernel⟩
