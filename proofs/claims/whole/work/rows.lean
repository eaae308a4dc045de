section
-- ===== PART A: goes FIRST, ahead of the names: the tables' words, and 'selects' of the private methods out of them =====
/-- a private method of a class that the tables say can be made, by its rows of tables_1 -/
def lw_okq (q : MethodName × Nat) : Prop := (q.1.cls ≠ "java/lang/invoke/MethodHandle" ∧ q.1.cls ≠ "java/lang/invoke/VarHandle") ∧ Cond.instantiable q.1.cls q.2 ∈ tables_1 ∧ Cond.privateMethod q.1 ∈ tables_1 ∧ Cond.instanceMethod q.1 ∈ tables_1
theorem lw_p0 : lw_okq (⟨"SpecOrder", "handOver", "(I)Z"⟩, 4) := ⟨⟨by decide +kernel, by decide +kernel⟩, List.mem_of_getElem? (i := 20) (by decide +kernel), List.mem_of_getElem? (i := 157) (by decide +kernel), List.mem_of_getElem? (i := 158) (by decide +kernel)⟩
theorem lw_p1 : lw_okq (⟨"SpecOrder$Client", "lookAt", "(LSpecOrder$Request;)V"⟩, 5) := ⟨⟨by decide +kernel, by decide +kernel⟩, List.mem_of_getElem? (i := 49) (by decide +kernel), List.mem_of_getElem? (i := 181) (by decide +kernel), List.mem_of_getElem? (i := 182) (by decide +kernel)⟩
theorem lw_p2 : lw_okq (⟨"SpecOrder$Request", "countLike", "(LSpecOrder$Letter;)I"⟩, 8) := ⟨⟨by decide +kernel, by decide +kernel⟩, List.mem_of_getElem? (i := 191) (by decide +kernel), List.mem_of_getElem? (i := 189) (by decide +kernel), List.mem_of_getElem? (i := 190) (by decide +kernel)⟩
theorem lw_p3 : lw_okq (⟨"SpecOrder$Client", "countAcks", "(LSpecOrder$Letter;)I"⟩, 5) := ⟨⟨by decide +kernel, by decide +kernel⟩, List.mem_of_getElem? (i := 49) (by decide +kernel), List.mem_of_getElem? (i := 206) (by decide +kernel), List.mem_of_getElem? (i := 207) (by decide +kernel)⟩
theorem lw_p4 : lw_okq (⟨"SpecOrder$Replica", "takeAsk", "(II)V"⟩, 11) := ⟨⟨by decide +kernel, by decide +kernel⟩, List.mem_of_getElem? (i := 76) (by decide +kernel), List.mem_of_getElem? (i := 215) (by decide +kernel), List.mem_of_getElem? (i := 216) (by decide +kernel)⟩
theorem lw_p5 : lw_okq (⟨"SpecOrder$Replica", "reply", "(I)V"⟩, 11) := ⟨⟨by decide +kernel, by decide +kernel⟩, List.mem_of_getElem? (i := 76) (by decide +kernel), List.mem_of_getElem? (i := 226) (by decide +kernel), List.mem_of_getElem? (i := 227) (by decide +kernel)⟩
theorem lw_p6 : lw_okq (⟨"SpecOrder$Replica", "orderOf", "(I)LSpecOrder$Letter;"⟩, 11) := ⟨⟨by decide +kernel, by decide +kernel⟩, List.mem_of_getElem? (i := 76) (by decide +kernel), List.mem_of_getElem? (i := 312) (by decide +kernel), List.mem_of_getElem? (i := 313) (by decide +kernel)⟩
theorem lw_p7 : lw_okq (⟨"SpecOrder$Replica", "doNext", "(I)V"⟩, 11) := ⟨⟨by decide +kernel, by decide +kernel⟩, List.mem_of_getElem? (i := 76) (by decide +kernel), List.mem_of_getElem? (i := 321) (by decide +kernel), List.mem_of_getElem? (i := 322) (by decide +kernel)⟩
theorem lw_p8 : lw_okq (⟨"SpecOrder$Replica", "takeOrder", "(ILSpecOrder$Letter;)V"⟩, 11) := ⟨⟨by decide +kernel, by decide +kernel⟩, List.mem_of_getElem? (i := 76) (by decide +kernel), List.mem_of_getElem? (i := 338) (by decide +kernel), List.mem_of_getElem? (i := 339) (by decide +kernel)⟩
theorem lw_p9 : lw_okq (⟨"SpecOrder$Replica", "takeProof", "(LSpecOrder$Letter;)V"⟩, 11) := ⟨⟨by decide +kernel, by decide +kernel⟩, List.mem_of_getElem? (i := 76) (by decide +kernel), List.mem_of_getElem? (i := 348) (by decide +kernel), List.mem_of_getElem? (i := 349) (by decide +kernel)⟩
theorem lw_p10 : lw_okq (⟨"SpecOrder$Replica", "takeHate", "(II)V"⟩, 11) := ⟨⟨by decide +kernel, by decide +kernel⟩, List.mem_of_getElem? (i := 76) (by decide +kernel), List.mem_of_getElem? (i := 353) (by decide +kernel), List.mem_of_getElem? (i := 354) (by decide +kernel)⟩
theorem lw_p11 : lw_okq (⟨"SpecOrder$Replica", "changeView", "()V"⟩, 11) := ⟨⟨by decide +kernel, by decide +kernel⟩, List.mem_of_getElem? (i := 76) (by decide +kernel), List.mem_of_getElem? (i := 363) (by decide +kernel), List.mem_of_getElem? (i := 364) (by decide +kernel)⟩
theorem lw_p12 : lw_okq (⟨"SpecOrder$Replica", "keepChange", "(ILSpecOrder$Letter;)V"⟩, 11) := ⟨⟨by decide +kernel, by decide +kernel⟩, List.mem_of_getElem? (i := 76) (by decide +kernel), List.mem_of_getElem? (i := 376) (by decide +kernel), List.mem_of_getElem? (i := 377) (by decide +kernel)⟩
theorem lw_p13 : lw_okq (⟨"SpecOrder$Replica", "mayTurn", "(II)Z"⟩, 11) := ⟨⟨by decide +kernel, by decide +kernel⟩, List.mem_of_getElem? (i := 76) (by decide +kernel), List.mem_of_getElem? (i := 381) (by decide +kernel), List.mem_of_getElem? (i := 382) (by decide +kernel)⟩
theorem lw_p14 : lw_okq (⟨"SpecOrder$Replica", "turnTo", "(ILSpecOrder$History;)V"⟩, 11) := ⟨⟨by decide +kernel, by decide +kernel⟩, List.mem_of_getElem? (i := 76) (by decide +kernel), List.mem_of_getElem? (i := 385) (by decide +kernel), List.mem_of_getElem? (i := 386) (by decide +kernel)⟩
theorem lw_p15 : lw_okq (⟨"SpecOrder$Replica", "countChanges", "()I"⟩, 11) := ⟨⟨by decide +kernel, by decide +kernel⟩, List.mem_of_getElem? (i := 76) (by decide +kernel), List.mem_of_getElem? (i := 389) (by decide +kernel), List.mem_of_getElem? (i := 390) (by decide +kernel)⟩
def lw_privs_1 : List (MethodName × Nat) := [(⟨"SpecOrder", "handOver", "(I)Z"⟩, 4), (⟨"SpecOrder$Client", "lookAt", "(LSpecOrder$Request;)V"⟩, 5), (⟨"SpecOrder$Request", "countLike", "(LSpecOrder$Letter;)I"⟩, 8), (⟨"SpecOrder$Client", "countAcks", "(LSpecOrder$Letter;)I"⟩, 5), (⟨"SpecOrder$Replica", "takeAsk", "(II)V"⟩, 11), (⟨"SpecOrder$Replica", "reply", "(I)V"⟩, 11), (⟨"SpecOrder$Replica", "orderOf", "(I)LSpecOrder$Letter;"⟩, 11), (⟨"SpecOrder$Replica", "doNext", "(I)V"⟩, 11), (⟨"SpecOrder$Replica", "takeOrder", "(ILSpecOrder$Letter;)V"⟩, 11), (⟨"SpecOrder$Replica", "takeProof", "(LSpecOrder$Letter;)V"⟩, 11), (⟨"SpecOrder$Replica", "takeHate", "(II)V"⟩, 11), (⟨"SpecOrder$Replica", "changeView", "()V"⟩, 11), (⟨"SpecOrder$Replica", "keepChange", "(ILSpecOrder$Letter;)V"⟩, 11), (⟨"SpecOrder$Replica", "mayTurn", "(II)Z"⟩, 11), (⟨"SpecOrder$Replica", "turnTo", "(ILSpecOrder$History;)V"⟩, 11), (⟨"SpecOrder$Replica", "countChanges", "()I"⟩, 11)]
theorem lw_r1 : ∀ q ∈ lw_privs_1, lw_okq q := List.forall_mem_cons.mpr ⟨lw_p0, List.forall_mem_cons.mpr ⟨lw_p1, List.forall_mem_cons.mpr ⟨lw_p2, List.forall_mem_cons.mpr ⟨lw_p3, List.forall_mem_cons.mpr ⟨lw_p4, List.forall_mem_cons.mpr ⟨lw_p5, List.forall_mem_cons.mpr ⟨lw_p6, List.forall_mem_cons.mpr ⟨lw_p7, List.forall_mem_cons.mpr ⟨lw_p8, List.forall_mem_cons.mpr ⟨lw_p9, List.forall_mem_cons.mpr ⟨lw_p10, List.forall_mem_cons.mpr ⟨lw_p11, List.forall_mem_cons.mpr ⟨lw_p12, List.forall_mem_cons.mpr ⟨lw_p13, List.forall_mem_cons.mpr ⟨lw_p14, List.forall_mem_cons.mpr ⟨lw_p15, fun _ h => absurd h List.not_mem_nil⟩⟩⟩⟩⟩⟩⟩⟩⟩⟩⟩⟩⟩⟩⟩⟩
theorem lw_p16 : lw_okq (⟨"SpecOrder$Replica", "changedHistory", "(I)LSpecOrder$History;"⟩, 11) := ⟨⟨by decide +kernel, by decide +kernel⟩, List.mem_of_getElem? (i := 76) (by decide +kernel), List.mem_of_getElem? (i := 393) (by decide +kernel), List.mem_of_getElem? (i := 394) (by decide +kernel)⟩
theorem lw_p17 : lw_okq (⟨"SpecOrder$Replica", "mergeChanges", "()LSpecOrder$History;"⟩, 11) := ⟨⟨by decide +kernel, by decide +kernel⟩, List.mem_of_getElem? (i := 76) (by decide +kernel), List.mem_of_getElem? (i := 397) (by decide +kernel), List.mem_of_getElem? (i := 398) (by decide +kernel)⟩
theorem lw_p18 : lw_okq (⟨"SpecOrder$Replica", "mostFixed", "()LSpecOrder$History;"⟩, 11) := ⟨⟨by decide +kernel, by decide +kernel⟩, List.mem_of_getElem? (i := 76) (by decide +kernel), List.mem_of_getElem? (i := 401) (by decide +kernel), List.mem_of_getElem? (i := 402) (by decide +kernel)⟩
theorem lw_p19 : lw_okq (⟨"SpecOrder$Replica", "agreedNext", "(LSpecOrder$History;)I"⟩, 11) := ⟨⟨by decide +kernel, by decide +kernel⟩, List.mem_of_getElem? (i := 76) (by decide +kernel), List.mem_of_getElem? (i := 405) (by decide +kernel), List.mem_of_getElem? (i := 406) (by decide +kernel)⟩
theorem lw_p20 : lw_okq (⟨"SpecOrder$Replica", "nextAfter", "(LSpecOrder$History;I)I"⟩, 11) := ⟨⟨by decide +kernel, by decide +kernel⟩, List.mem_of_getElem? (i := 76) (by decide +kernel), List.mem_of_getElem? (i := 409) (by decide +kernel), List.mem_of_getElem? (i := 410) (by decide +kernel)⟩
theorem lw_p21 : lw_okq (⟨"java/lang/Throwable", "fillInStackTrace", "(I)Ljava/lang/Throwable;"⟩, 6) := ⟨⟨by decide +kernel, by decide +kernel⟩, List.mem_of_getElem? (i := 479) (by decide +kernel), List.mem_of_getElem? (i := 477) (by decide +kernel), List.mem_of_getElem? (i := 478) (by decide +kernel)⟩
theorem lw_p22 : lw_okq (⟨"SpecOrder$Request", "countReplies", "()I"⟩, 8) := ⟨⟨by decide +kernel, by decide +kernel⟩, List.mem_of_getElem? (i := 191) (by decide +kernel), List.mem_of_getElem? (i := 671) (by decide +kernel), List.mem_of_getElem? (i := 672) (by decide +kernel)⟩
theorem lw_p23 : lw_okq (⟨"SpecOrderModel", "refuse", "(I)I"⟩, 46) := ⟨⟨by decide +kernel, by decide +kernel⟩, List.mem_of_getElem? (i := 675) (by decide +kernel), List.mem_of_getElem? (i := 830) (by decide +kernel), List.mem_of_getElem? (i := 831) (by decide +kernel)⟩
theorem lw_p24 : lw_okq (⟨"SpecOrderModel", "send", "(IIIIIII)I"⟩, 46) := ⟨⟨by decide +kernel, by decide +kernel⟩, List.mem_of_getElem? (i := 675) (by decide +kernel), List.mem_of_getElem? (i := 834) (by decide +kernel), List.mem_of_getElem? (i := 835) (by decide +kernel)⟩
theorem lw_p25 : lw_okq (⟨"SpecOrderModel", "isRequest", "(I)Z"⟩, 46) := ⟨⟨by decide +kernel, by decide +kernel⟩, List.mem_of_getElem? (i := 675) (by decide +kernel), List.mem_of_getElem? (i := 842) (by decide +kernel), List.mem_of_getElem? (i := 843) (by decide +kernel)⟩
theorem lw_p26 : lw_okq (⟨"SpecOrderModel", "alike", "(II)I"⟩, 46) := ⟨⟨by decide +kernel, by decide +kernel⟩, List.mem_of_getElem? (i := 675) (by decide +kernel), List.mem_of_getElem? (i := 846) (by decide +kernel), List.mem_of_getElem? (i := 847) (by decide +kernel)⟩
theorem lw_p27 : lw_okq (⟨"SpecOrderModel", "areAlike", "(II)Z"⟩, 46) := ⟨⟨by decide +kernel, by decide +kernel⟩, List.mem_of_getElem? (i := 675) (by decide +kernel), List.mem_of_getElem? (i := 850) (by decide +kernel), List.mem_of_getElem? (i := 851) (by decide +kernel)⟩
theorem lw_p28 : lw_okq (⟨"SpecOrderModel", "sendToAll", "(IIIIII)V"⟩, 46) := ⟨⟨by decide +kernel, by decide +kernel⟩, List.mem_of_getElem? (i := 675) (by decide +kernel), List.mem_of_getElem? (i := 854) (by decide +kernel), List.mem_of_getElem? (i := 855) (by decide +kernel)⟩
theorem lw_p29 : lw_okq (⟨"SpecOrderModel", "isUnderWay", "(I)Z"⟩, 46) := ⟨⟨by decide +kernel, by decide +kernel⟩, List.mem_of_getElem? (i := 675) (by decide +kernel), List.mem_of_getElem? (i := 862) (by decide +kernel), List.mem_of_getElem? (i := 863) (by decide +kernel)⟩
theorem lw_p30 : lw_okq (⟨"SpecOrderModel", "takeReply", "(IIIIII)V"⟩, 46) := ⟨⟨by decide +kernel, by decide +kernel⟩, List.mem_of_getElem? (i := 675) (by decide +kernel), List.mem_of_getElem? (i := 866) (by decide +kernel), List.mem_of_getElem? (i := 867) (by decide +kernel)⟩
theorem lw_p31 : lw_okq (⟨"SpecOrderModel", "look", "(I)V"⟩, 46) := ⟨⟨by decide +kernel, by decide +kernel⟩, List.mem_of_getElem? (i := 675) (by decide +kernel), List.mem_of_getElem? (i := 870) (by decide +kernel), List.mem_of_getElem? (i := 871) (by decide +kernel)⟩
def lw_privs_2 : List (MethodName × Nat) := [(⟨"SpecOrder$Replica", "changedHistory", "(I)LSpecOrder$History;"⟩, 11), (⟨"SpecOrder$Replica", "mergeChanges", "()LSpecOrder$History;"⟩, 11), (⟨"SpecOrder$Replica", "mostFixed", "()LSpecOrder$History;"⟩, 11), (⟨"SpecOrder$Replica", "agreedNext", "(LSpecOrder$History;)I"⟩, 11), (⟨"SpecOrder$Replica", "nextAfter", "(LSpecOrder$History;I)I"⟩, 11), (⟨"java/lang/Throwable", "fillInStackTrace", "(I)Ljava/lang/Throwable;"⟩, 6), (⟨"SpecOrder$Request", "countReplies", "()I"⟩, 8), (⟨"SpecOrderModel", "refuse", "(I)I"⟩, 46), (⟨"SpecOrderModel", "send", "(IIIIIII)I"⟩, 46), (⟨"SpecOrderModel", "isRequest", "(I)Z"⟩, 46), (⟨"SpecOrderModel", "alike", "(II)I"⟩, 46), (⟨"SpecOrderModel", "areAlike", "(II)Z"⟩, 46), (⟨"SpecOrderModel", "sendToAll", "(IIIIII)V"⟩, 46), (⟨"SpecOrderModel", "isUnderWay", "(I)Z"⟩, 46), (⟨"SpecOrderModel", "takeReply", "(IIIIII)V"⟩, 46), (⟨"SpecOrderModel", "look", "(I)V"⟩, 46)]
theorem lw_r2 : ∀ q ∈ lw_privs_2, lw_okq q := List.forall_mem_cons.mpr ⟨lw_p16, List.forall_mem_cons.mpr ⟨lw_p17, List.forall_mem_cons.mpr ⟨lw_p18, List.forall_mem_cons.mpr ⟨lw_p19, List.forall_mem_cons.mpr ⟨lw_p20, List.forall_mem_cons.mpr ⟨lw_p21, List.forall_mem_cons.mpr ⟨lw_p22, List.forall_mem_cons.mpr ⟨lw_p23, List.forall_mem_cons.mpr ⟨lw_p24, List.forall_mem_cons.mpr ⟨lw_p25, List.forall_mem_cons.mpr ⟨lw_p26, List.forall_mem_cons.mpr ⟨lw_p27, List.forall_mem_cons.mpr ⟨lw_p28, List.forall_mem_cons.mpr ⟨lw_p29, List.forall_mem_cons.mpr ⟨lw_p30, List.forall_mem_cons.mpr ⟨lw_p31, fun _ h => absurd h List.not_mem_nil⟩⟩⟩⟩⟩⟩⟩⟩⟩⟩⟩⟩⟩⟩⟩⟩
theorem lw_p32 : lw_okq (⟨"SpecOrderModel", "finish", "(III)V"⟩, 46) := ⟨⟨by decide +kernel, by decide +kernel⟩, List.mem_of_getElem? (i := 675) (by decide +kernel), List.mem_of_getElem? (i := 874) (by decide +kernel), List.mem_of_getElem? (i := 875) (by decide +kernel)⟩
theorem lw_p33 : lw_okq (⟨"SpecOrderModel", "takeAck", "(I)V"⟩, 46) := ⟨⟨by decide +kernel, by decide +kernel⟩, List.mem_of_getElem? (i := 675) (by decide +kernel), List.mem_of_getElem? (i := 878) (by decide +kernel), List.mem_of_getElem? (i := 879) (by decide +kernel)⟩
theorem lw_p34 : lw_okq (⟨"SpecOrderModel", "take", "(II)V"⟩, 46) := ⟨⟨by decide +kernel, by decide +kernel⟩, List.mem_of_getElem? (i := 675) (by decide +kernel), List.mem_of_getElem? (i := 882) (by decide +kernel), List.mem_of_getElem? (i := 883) (by decide +kernel)⟩
theorem lw_p35 : lw_okq (⟨"SpecOrderModel", "takeAsk", "(III)V"⟩, 46) := ⟨⟨by decide +kernel, by decide +kernel⟩, List.mem_of_getElem? (i := 675) (by decide +kernel), List.mem_of_getElem? (i := 886) (by decide +kernel), List.mem_of_getElem? (i := 887) (by decide +kernel)⟩
theorem lw_p36 : lw_okq (⟨"SpecOrderModel", "reply", "(II)V"⟩, 46) := ⟨⟨by decide +kernel, by decide +kernel⟩, List.mem_of_getElem? (i := 675) (by decide +kernel), List.mem_of_getElem? (i := 897) (by decide +kernel), List.mem_of_getElem? (i := 898) (by decide +kernel)⟩
theorem lw_p37 : lw_okq (⟨"SpecOrderModel", "work", "(JI)I"⟩, 46) := ⟨⟨by decide +kernel, by decide +kernel⟩, List.mem_of_getElem? (i := 675) (by decide +kernel), List.mem_of_getElem? (i := 904) (by decide +kernel), List.mem_of_getElem? (i := 905) (by decide +kernel)⟩
theorem lw_p38 : lw_okq (⟨"SpecOrderModel", "isPrimary", "(I)Z"⟩, 46) := ⟨⟨by decide +kernel, by decide +kernel⟩, List.mem_of_getElem? (i := 675) (by decide +kernel), List.mem_of_getElem? (i := 908) (by decide +kernel), List.mem_of_getElem? (i := 909) (by decide +kernel)⟩
theorem lw_p39 : lw_okq (⟨"SpecOrderModel", "order", "(II)V"⟩, 46) := ⟨⟨by decide +kernel, by decide +kernel⟩, List.mem_of_getElem? (i := 675) (by decide +kernel), List.mem_of_getElem? (i := 912) (by decide +kernel), List.mem_of_getElem? (i := 913) (by decide +kernel)⟩
theorem lw_p40 : lw_okq (⟨"SpecOrderModel", "append", "(II)V"⟩, 46) := ⟨⟨by decide +kernel, by decide +kernel⟩, List.mem_of_getElem? (i := 675) (by decide +kernel), List.mem_of_getElem? (i := 916) (by decide +kernel), List.mem_of_getElem? (i := 917) (by decide +kernel)⟩
theorem lw_p41 : lw_okq (⟨"SpecOrderModel", "takeOrder", "(IIIIII)Z"⟩, 46) := ⟨⟨by decide +kernel, by decide +kernel⟩, List.mem_of_getElem? (i := 675) (by decide +kernel), List.mem_of_getElem? (i := 923) (by decide +kernel), List.mem_of_getElem? (i := 924) (by decide +kernel)⟩
theorem lw_p42 : lw_okq (⟨"SpecOrderModel", "takeProof", "(IIII)V"⟩, 46) := ⟨⟨by decide +kernel, by decide +kernel⟩, List.mem_of_getElem? (i := 675) (by decide +kernel), List.mem_of_getElem? (i := 927) (by decide +kernel), List.mem_of_getElem? (i := 928) (by decide +kernel)⟩
theorem lw_p43 : lw_okq (⟨"SpecOrderModel", "takeHate", "(II)V"⟩, 46) := ⟨⟨by decide +kernel, by decide +kernel⟩, List.mem_of_getElem? (i := 675) (by decide +kernel), List.mem_of_getElem? (i := 931) (by decide +kernel), List.mem_of_getElem? (i := 932) (by decide +kernel)⟩
theorem lw_p44 : lw_okq (⟨"SpecOrderModel", "takeChange", "(IIIJII)V"⟩, 46) := ⟨⟨by decide +kernel, by decide +kernel⟩, List.mem_of_getElem? (i := 675) (by decide +kernel), List.mem_of_getElem? (i := 938) (by decide +kernel), List.mem_of_getElem? (i := 939) (by decide +kernel)⟩
theorem lw_p45 : lw_okq (⟨"SpecOrderModel", "makeNew", "(I)V"⟩, 46) := ⟨⟨by decide +kernel, by decide +kernel⟩, List.mem_of_getElem? (i := 675) (by decide +kernel), List.mem_of_getElem? (i := 942) (by decide +kernel), List.mem_of_getElem? (i := 943) (by decide +kernel)⟩
theorem lw_p46 : lw_okq (⟨"SpecOrderModel", "safest", "(I)I"⟩, 46) := ⟨⟨by decide +kernel, by decide +kernel⟩, List.mem_of_getElem? (i := 675) (by decide +kernel), List.mem_of_getElem? (i := 946) (by decide +kernel), List.mem_of_getElem? (i := 947) (by decide +kernel)⟩
theorem lw_p47 : lw_okq (⟨"SpecOrderModel", "nextOf", "(IJI)I"⟩, 46) := ⟨⟨by decide +kernel, by decide +kernel⟩, List.mem_of_getElem? (i := 675) (by decide +kernel), List.mem_of_getElem? (i := 953) (by decide +kernel), List.mem_of_getElem? (i := 954) (by decide +kernel)⟩
def lw_privs_3 : List (MethodName × Nat) := [(⟨"SpecOrderModel", "finish", "(III)V"⟩, 46), (⟨"SpecOrderModel", "takeAck", "(I)V"⟩, 46), (⟨"SpecOrderModel", "take", "(II)V"⟩, 46), (⟨"SpecOrderModel", "takeAsk", "(III)V"⟩, 46), (⟨"SpecOrderModel", "reply", "(II)V"⟩, 46), (⟨"SpecOrderModel", "work", "(JI)I"⟩, 46), (⟨"SpecOrderModel", "isPrimary", "(I)Z"⟩, 46), (⟨"SpecOrderModel", "order", "(II)V"⟩, 46), (⟨"SpecOrderModel", "append", "(II)V"⟩, 46), (⟨"SpecOrderModel", "takeOrder", "(IIIIII)Z"⟩, 46), (⟨"SpecOrderModel", "takeProof", "(IIII)V"⟩, 46), (⟨"SpecOrderModel", "takeHate", "(II)V"⟩, 46), (⟨"SpecOrderModel", "takeChange", "(IIIJII)V"⟩, 46), (⟨"SpecOrderModel", "makeNew", "(I)V"⟩, 46), (⟨"SpecOrderModel", "safest", "(I)I"⟩, 46), (⟨"SpecOrderModel", "nextOf", "(IJI)I"⟩, 46)]
theorem lw_r3 : ∀ q ∈ lw_privs_3, lw_okq q := List.forall_mem_cons.mpr ⟨lw_p32, List.forall_mem_cons.mpr ⟨lw_p33, List.forall_mem_cons.mpr ⟨lw_p34, List.forall_mem_cons.mpr ⟨lw_p35, List.forall_mem_cons.mpr ⟨lw_p36, List.forall_mem_cons.mpr ⟨lw_p37, List.forall_mem_cons.mpr ⟨lw_p38, List.forall_mem_cons.mpr ⟨lw_p39, List.forall_mem_cons.mpr ⟨lw_p40, List.forall_mem_cons.mpr ⟨lw_p41, List.forall_mem_cons.mpr ⟨lw_p42, List.forall_mem_cons.mpr ⟨lw_p43, List.forall_mem_cons.mpr ⟨lw_p44, List.forall_mem_cons.mpr ⟨lw_p45, List.forall_mem_cons.mpr ⟨lw_p46, List.forall_mem_cons.mpr ⟨lw_p47, fun _ h => absurd h List.not_mem_nil⟩⟩⟩⟩⟩⟩⟩⟩⟩⟩⟩⟩⟩⟩⟩⟩
theorem lw_p48 : lw_okq (⟨"SpecOrderModel", "goesOn", "(IIJI)I"⟩, 46) := ⟨⟨by decide +kernel, by decide +kernel⟩, List.mem_of_getElem? (i := 675) (by decide +kernel), List.mem_of_getElem? (i := 957) (by decide +kernel), List.mem_of_getElem? (i := 958) (by decide +kernel)⟩
theorem lw_p49 : lw_okq (⟨"SpecOrderModel", "sendRow", "(IIIIJII)V"⟩, 46) := ⟨⟨by decide +kernel, by decide +kernel⟩, List.mem_of_getElem? (i := 675) (by decide +kernel), List.mem_of_getElem? (i := 961) (by decide +kernel), List.mem_of_getElem? (i := 962) (by decide +kernel)⟩
theorem lw_p50 : lw_okq (⟨"SpecOrderModel", "turn", "(IIJII)V"⟩, 46) := ⟨⟨by decide +kernel, by decide +kernel⟩, List.mem_of_getElem? (i := 675) (by decide +kernel), List.mem_of_getElem? (i := 965) (by decide +kernel), List.mem_of_getElem? (i := 966) (by decide +kernel)⟩
theorem lw_p51 : lw_okq (⟨"SpecOrderModel", "takeNew", "(II)V"⟩, 46) := ⟨⟨by decide +kernel, by decide +kernel⟩, List.mem_of_getElem? (i := 675) (by decide +kernel), List.mem_of_getElem? (i := 969) (by decide +kernel), List.mem_of_getElem? (i := 970) (by decide +kernel)⟩
theorem lw_p52 : lw_okq (⟨"SpecOrderModel", "refuseThis", "()Z"⟩, 46) := ⟨⟨by decide +kernel, by decide +kernel⟩, List.mem_of_getElem? (i := 675) (by decide +kernel), List.mem_of_getElem? (i := 989) (by decide +kernel), List.mem_of_getElem? (i := 990) (by decide +kernel)⟩
theorem lw_p53 : lw_okq (⟨"SpecOrderModel", "replies", "(I)I"⟩, 46) := ⟨⟨by decide +kernel, by decide +kernel⟩, List.mem_of_getElem? (i := 675) (by decide +kernel), List.mem_of_getElem? (i := 1017) (by decide +kernel), List.mem_of_getElem? (i := 1018) (by decide +kernel)⟩
def lw_privs_4 : List (MethodName × Nat) := [(⟨"SpecOrderModel", "goesOn", "(IIJI)I"⟩, 46), (⟨"SpecOrderModel", "sendRow", "(IIIIJII)V"⟩, 46), (⟨"SpecOrderModel", "turn", "(IIJII)V"⟩, 46), (⟨"SpecOrderModel", "takeNew", "(II)V"⟩, 46), (⟨"SpecOrderModel", "refuseThis", "()Z"⟩, 46), (⟨"SpecOrderModel", "replies", "(I)I"⟩, 46)]
theorem lw_r4 : ∀ q ∈ lw_privs_4, lw_okq q := List.forall_mem_cons.mpr ⟨lw_p48, List.forall_mem_cons.mpr ⟨lw_p49, List.forall_mem_cons.mpr ⟨lw_p50, List.forall_mem_cons.mpr ⟨lw_p51, List.forall_mem_cons.mpr ⟨lw_p52, List.forall_mem_cons.mpr ⟨lw_p53, fun _ h => absurd h List.not_mem_nil⟩⟩⟩⟩⟩⟩
def lw_privs : List (MethodName × Nat) := lw_privs_1 ++ (lw_privs_2 ++ (lw_privs_3 ++ (lw_privs_4)))
def lw_tbl : List Cond := k2_sels lw_privs ++ tables_1
theorem lw_privs_ok : ∀ q ∈ lw_privs, lw_okq q := by
  show ∀ q ∈ lw_privs_1 ++ (lw_privs_2 ++ (lw_privs_3 ++ (lw_privs_4))), lw_okq q
  exact List.forall_mem_append.mpr ⟨lw_r1, List.forall_mem_append.mpr ⟨lw_r2, List.forall_mem_append.mpr ⟨lw_r3, lw_r4⟩⟩⟩
end
section
/-! ===== BEGIN printed: names, fields, word lists, decode rows ===== -/
def RX0 : String := "SpecOrder$Client"
def TX0 : u_T := fun k => match k with
  | 0 => ("SpecOrder$Client", "requests", "[LSpecOrder$Request;", true)
  | 1 => ("SpecOrder$Client", "post", "LSpecOrder$Post;", true)
  | 2 => ("SpecOrder$Client", "acks", "[LSpecOrder$Letter;", true)
  | 3 => ("SpecOrder$Client", "count", "I", false)
  | _ => ("SpecOrder$Client", "view", "I", false)
def tyX0 : Nat → FieldType := fun k => match k with
  | 0 => .array (.object "SpecOrder$Request")
  | 1 => .object "SpecOrder$Post"
  | 2 => .array (.object "SpecOrder$Letter")
  | 3 => .int
  | _ => .int
abbrev wsX00 : List Cond := u_ws RX0 TX0 5
theorem nmX0 : ∀ a, a < 5 → ∀ b, b < 5 → a ≠ b → (TX0 a).2.1 ≠ (TX0 b).2.1 := by decide +kernel
theorem tyX0_ok : ∀ k, k < 5 → parseFieldDescriptor (TX0 k).2.2.1 = some (tyX0 k) := by decide +kernel
abbrev cX0_init : ByteArray := prog_2_method_1_code
def yX0_init : MethodName := ⟨RX0, "<init>", "([LSpecOrder$Request;LSpecOrder$Post;)V"⟩
abbrev cX0_find : ByteArray := prog_2_method_2_code
def yX0_find : MethodName := ⟨RX0, "find", "(I)LSpecOrder$Request;"⟩
abbrev cX0_begin : ByteArray := prog_2_method_3_code
def yX0_begin : MethodName := ⟨RX0, "begin", "(LSpecOrder$Request;)I"⟩
abbrev cX0_tryAgain : ByteArray := prog_2_method_4_code
def yX0_tryAgain : MethodName := ⟨RX0, "tryAgain", "(ILSpecOrder$Request;)I"⟩
abbrev cX0_take : ByteArray := prog_2_method_5_code
def yX0_take : MethodName := ⟨RX0, "take", "(ILSpecOrder$Letter;)V"⟩
abbrev cX0_lookAt : ByteArray := prog_2_method_6_code
def yX0_lookAt : MethodName := ⟨RX0, "lookAt", "(LSpecOrder$Request;)V"⟩
abbrev cX0_countAcks : ByteArray := prog_2_method_7_code
def yX0_countAcks : MethodName := ⟨RX0, "countAcks", "(LSpecOrder$Letter;)I"⟩
def RX1 : String := "SpecOrder$History"
def TX1 : u_T := fun k => match k with
  | 0 => ("SpecOrder$History", "row", "[I", true)
  | 1 => ("SpecOrder$History", "length", "I", false)
  | _ => ("SpecOrder$History", "fixed", "I", false)
def tyX1 : Nat → FieldType := fun k => match k with
  | 0 => .array .int
  | 1 => .int
  | _ => .int
abbrev wsX10 : List Cond := u_ws RX1 TX1 3
theorem nmX1 : ∀ a, a < 3 → ∀ b, b < 3 → a ≠ b → (TX1 a).2.1 ≠ (TX1 b).2.1 := by decide +kernel
theorem tyX1_ok : ∀ k, k < 3 → parseFieldDescriptor (TX1 k).2.2.1 = some (tyX1 k) := by decide +kernel
abbrev cX1_init : ByteArray := prog_3_method_1_code
def yX1_init : MethodName := ⟨RX1, "<init>", "()V"⟩
abbrev cX1_add : ByteArray := prog_3_method_2_code
def yX1_add : MethodName := ⟨RX1, "add", "(I)V"⟩
abbrev cX1_at : ByteArray := prog_3_method_3_code
def yX1_at : MethodName := ⟨RX1, "at", "(I)I"⟩
abbrev cX1_placeOf : ByteArray := prog_3_method_4_code
def yX1_placeOf : MethodName := ⟨RX1, "placeOf", "(I)I"⟩
abbrev cX1_digest : ByteArray := prog_3_method_5_code
def yX1_digest : MethodName := ⟨RX1, "digest", "(I)I"⟩
abbrev cX1_beginsWith : ByteArray := prog_3_method_6_code
def yX1_beginsWith : MethodName := ⟨RX1, "beginsWith", "(LSpecOrder$History;)Z"⟩
abbrev cX1_copy : ByteArray := prog_3_method_7_code
def yX1_copy : MethodName := ⟨RX1, "copy", "()LSpecOrder$History;"⟩
abbrev cX1_digestWith : ByteArray := prog_3_method_8_code
def yX1_digestWith : MethodName := ⟨RX1, "digestWith", "(II)I"⟩
def RX2 : String := "SpecOrder$Letter"
def TX2 : u_T := fun k => match k with
  | 0 => ("SpecOrder$Letter", "kind", "I", true)
  | 1 => ("SpecOrder$Letter", "view", "I", true)
  | 2 => ("SpecOrder$Letter", "request", "I", true)
  | 3 => ("SpecOrder$Letter", "place", "I", true)
  | 4 => ("SpecOrder$Letter", "digest", "I", true)
  | 5 => ("SpecOrder$Letter", "result", "I", true)
  | _ => ("SpecOrder$Letter", "history", "LSpecOrder$History;", true)
def tyX2 : Nat → FieldType := fun k => match k with
  | 0 => .int
  | 1 => .int
  | 2 => .int
  | 3 => .int
  | 4 => .int
  | 5 => .int
  | _ => .object "SpecOrder$History"
abbrev wsX20 : List Cond := u_ws RX2 TX2 7
theorem nmX2 : ∀ a, a < 7 → ∀ b, b < 7 → a ≠ b → (TX2 a).2.1 ≠ (TX2 b).2.1 := by decide +kernel
theorem tyX2_ok : ∀ k, k < 7 → parseFieldDescriptor (TX2 k).2.2.1 = some (tyX2 k) := by decide +kernel
abbrev cX2_init : ByteArray := prog_4_method_1_code
def yX2_init : MethodName := ⟨RX2, "<init>", "(IIIIIILSpecOrder$History;)V"⟩
abbrev cX2_samePoint : ByteArray := prog_4_method_2_code
def yX2_samePoint : MethodName := ⟨RX2, "samePoint", "(LSpecOrder$Letter;)Z"⟩
abbrev cX2_sameReply : ByteArray := prog_4_method_3_code
def yX2_sameReply : MethodName := ⟨RX2, "sameReply", "(LSpecOrder$Letter;)Z"⟩
def RX3 : String := "SpecOrder$Message"
def TX3 : u_T := fun k => match k with
  | 0 => ("SpecOrder$Message", "from", "I", true)
  | 1 => ("SpecOrder$Message", "to", "I", true)
  | 2 => ("SpecOrder$Message", "letter", "LSpecOrder$Letter;", true)
  | _ => ("SpecOrder$Message", "state", "I", false)
def tyX3 : Nat → FieldType := fun k => match k with
  | 0 => .int
  | 1 => .int
  | 2 => .object "SpecOrder$Letter"
  | _ => .int
abbrev wsX30 : List Cond := u_ws RX3 TX3 4
theorem nmX3 : ∀ a, a < 4 → ∀ b, b < 4 → a ≠ b → (TX3 a).2.1 ≠ (TX3 b).2.1 := by decide +kernel
theorem tyX3_ok : ∀ k, k < 4 → parseFieldDescriptor (TX3 k).2.2.1 = some (tyX3 k) := by decide +kernel
abbrev cX3_init : ByteArray := prog_5_method_1_code
def yX3_init : MethodName := ⟨RX3, "<init>", "(IILSpecOrder$Letter;)V"⟩
abbrev cX3_tell : ByteArray := prog_5_method_2_code
def yX3_tell : MethodName := ⟨RX3, "tell", "(I)I"⟩
def RX4 : String := "SpecOrder$Post"
def TX4 : u_T := fun k => match k with
  | 0 => ("SpecOrder$Post", "sent", "[LSpecOrder$Message;", true)
  | _ => ("SpecOrder$Post", "count", "I", false)
def tyX4 : Nat → FieldType := fun k => match k with
  | 0 => .array (.object "SpecOrder$Message")
  | _ => .int
abbrev wsX40 : List Cond := u_ws RX4 TX4 2
theorem nmX4 : ∀ a, a < 2 → ∀ b, b < 2 → a ≠ b → (TX4 a).2.1 ≠ (TX4 b).2.1 := by decide +kernel
theorem tyX4_ok : ∀ k, k < 2 → parseFieldDescriptor (TX4 k).2.2.1 = some (tyX4 k) := by decide +kernel
abbrev cX4_init : ByteArray := prog_6_method_1_code
def yX4_init : MethodName := ⟨RX4, "<init>", "()V"⟩
abbrev cX4_send : ByteArray := prog_6_method_2_code
def yX4_send : MethodName := ⟨RX4, "send", "(IILSpecOrder$Letter;)V"⟩
abbrev cX4_sendToAll : ByteArray := prog_6_method_3_code
def yX4_sendToAll : MethodName := ⟨RX4, "sendToAll", "(ILSpecOrder$Letter;)V"⟩
abbrev cX4_find : ByteArray := prog_6_method_4_code
def yX4_find : MethodName := ⟨RX4, "find", "(I)LSpecOrder$Message;"⟩
def RX5 : String := "SpecOrder$Replica"
def TX5 : u_T := fun k => match k with
  | 0 => ("SpecOrder$Replica", "id", "I", true)
  | 1 => ("SpecOrder$Replica", "requests", "[LSpecOrder$Request;", true)
  | 2 => ("SpecOrder$Replica", "post", "LSpecOrder$Post;", true)
  | 3 => ("SpecOrder$Replica", "history", "LSpecOrder$History;", true)
  | 4 => ("SpecOrder$Replica", "numbers", "[I", true)
  | 5 => ("SpecOrder$Replica", "results", "[I", true)
  | 6 => ("SpecOrder$Replica", "changes", "[LSpecOrder$Letter;", true)
  | 7 => ("SpecOrder$Replica", "view", "I", false)
  | 8 => ("SpecOrder$Replica", "changing", "Z", false)
  | 9 => ("SpecOrder$Replica", "wanted", "I", false)
  | _ => ("SpecOrder$Replica", "hated", "I", false)
def tyX5 : Nat → FieldType := fun k => match k with
  | 0 => .int
  | 1 => .array (.object "SpecOrder$Request")
  | 2 => .object "SpecOrder$Post"
  | 3 => .object "SpecOrder$History"
  | 4 => .array .int
  | 5 => .array .int
  | 6 => .array (.object "SpecOrder$Letter")
  | 7 => .int
  | 8 => .boolean
  | 9 => .int
  | _ => .int
abbrev wsX50 : List Cond := u_ws RX5 TX5 11
theorem nmX5 : ∀ a, a < 11 → ∀ b, b < 11 → a ≠ b → (TX5 a).2.1 ≠ (TX5 b).2.1 := by decide +kernel
theorem tyX5_ok : ∀ k, k < 11 → parseFieldDescriptor (TX5 k).2.2.1 = some (tyX5 k) := by decide +kernel
abbrev cX5_init : ByteArray := prog_7_method_1_code
def yX5_init : MethodName := ⟨RX5, "<init>", "(I[LSpecOrder$Request;LSpecOrder$Post;)V"⟩
abbrev cX5_tell : ByteArray := prog_7_method_2_code
def yX5_tell : MethodName := ⟨RX5, "tell", "(I)I"⟩
abbrev cX5_fittingOrder : ByteArray := prog_7_method_3_code
def yX5_fittingOrder : MethodName := ⟨RX5, "fittingOrder", "(I)LSpecOrder$Letter;"⟩
abbrev cX5_take : ByteArray := prog_7_method_4_code
def yX5_take : MethodName := ⟨RX5, "take", "(ILSpecOrder$Letter;)V"⟩
abbrev cX5_endPatience : ByteArray := prog_7_method_5_code
def yX5_endPatience : MethodName := ⟨RX5, "endPatience", "()Z"⟩
abbrev cX5_takeAsk : ByteArray := prog_7_method_6_code
def yX5_takeAsk : MethodName := ⟨RX5, "takeAsk", "(II)V"⟩
abbrev cX5_takeOrder : ByteArray := prog_7_method_7_code
def yX5_takeOrder : MethodName := ⟨RX5, "takeOrder", "(ILSpecOrder$Letter;)V"⟩
abbrev cX5_takeProof : ByteArray := prog_7_method_8_code
def yX5_takeProof : MethodName := ⟨RX5, "takeProof", "(LSpecOrder$Letter;)V"⟩
abbrev cX5_takeHate : ByteArray := prog_7_method_9_code
def yX5_takeHate : MethodName := ⟨RX5, "takeHate", "(II)V"⟩
abbrev cX5_changeView : ByteArray := prog_7_method_10_code
def yX5_changeView : MethodName := ⟨RX5, "changeView", "()V"⟩
abbrev cX5_keepChange : ByteArray := prog_7_method_11_code
def yX5_keepChange : MethodName := ⟨RX5, "keepChange", "(ILSpecOrder$Letter;)V"⟩
abbrev cX5_mayTurn : ByteArray := prog_7_method_12_code
def yX5_mayTurn : MethodName := ⟨RX5, "mayTurn", "(II)Z"⟩
abbrev cX5_countChanges : ByteArray := prog_7_method_13_code
def yX5_countChanges : MethodName := ⟨RX5, "countChanges", "()I"⟩
abbrev cX5_changedHistory : ByteArray := prog_7_method_14_code
def yX5_changedHistory : MethodName := ⟨RX5, "changedHistory", "(I)LSpecOrder$History;"⟩
abbrev cX5_mergeChanges : ByteArray := prog_7_method_15_code
def yX5_mergeChanges : MethodName := ⟨RX5, "mergeChanges", "()LSpecOrder$History;"⟩
abbrev cX5_mostFixed : ByteArray := prog_7_method_16_code
def yX5_mostFixed : MethodName := ⟨RX5, "mostFixed", "()LSpecOrder$History;"⟩
abbrev cX5_agreedNext : ByteArray := prog_7_method_17_code
def yX5_agreedNext : MethodName := ⟨RX5, "agreedNext", "(LSpecOrder$History;)I"⟩
abbrev cX5_nextAfter : ByteArray := prog_7_method_18_code
def yX5_nextAfter : MethodName := ⟨RX5, "nextAfter", "(LSpecOrder$History;I)I"⟩
abbrev cX5_turnTo : ByteArray := prog_7_method_19_code
def yX5_turnTo : MethodName := ⟨RX5, "turnTo", "(ILSpecOrder$History;)V"⟩
abbrev cX5_doNext : ByteArray := prog_7_method_20_code
def yX5_doNext : MethodName := ⟨RX5, "doNext", "(I)V"⟩
abbrev cX5_orderOf : ByteArray := prog_7_method_21_code
def yX5_orderOf : MethodName := ⟨RX5, "orderOf", "(I)LSpecOrder$Letter;"⟩
abbrev cX5_reply : ByteArray := prog_7_method_22_code
def yX5_reply : MethodName := ⟨RX5, "reply", "(I)V"⟩
def RX6 : String := "SpecOrder$Request"
def TX6 : u_T := fun k => match k with
  | 0 => ("SpecOrder$Request", "op", "I", true)
  | 1 => ("SpecOrder$Request", "key", "I", true)
  | 2 => ("SpecOrder$Request", "amount", "I", true)
  | 3 => ("SpecOrder$Request", "replies", "[LSpecOrder$Letter;", true)
  | 4 => ("SpecOrder$Request", "proof", "LSpecOrder$Letter;", false)
  | 5 => ("SpecOrder$Request", "done", "Z", false)
  | 6 => ("SpecOrder$Request", "result", "I", false)
  | _ => ("SpecOrder$Request", "place", "I", false)
def tyX6 : Nat → FieldType := fun k => match k with
  | 0 => .int
  | 1 => .int
  | 2 => .int
  | 3 => .array (.object "SpecOrder$Letter")
  | 4 => .object "SpecOrder$Letter"
  | 5 => .boolean
  | 6 => .int
  | _ => .int
abbrev wsX60 : List Cond := u_ws RX6 TX6 8
theorem nmX6 : ∀ a, a < 8 → ∀ b, b < 8 → a ≠ b → (TX6 a).2.1 ≠ (TX6 b).2.1 := by decide +kernel
theorem tyX6_ok : ∀ k, k < 8 → parseFieldDescriptor (TX6 k).2.2.1 = some (tyX6 k) := by decide +kernel
abbrev cX6_init : ByteArray := prog_8_method_1_code
def yX6_init : MethodName := ⟨RX6, "<init>", "(III)V"⟩
abbrev cX6_doOn : ByteArray := prog_8_method_2_code
def yX6_doOn : MethodName := ⟨RX6, "doOn", "([I)I"⟩
abbrev cX6_keep : ByteArray := prog_8_method_3_code
def yX6_keep : MethodName := ⟨RX6, "keep", "(ILSpecOrder$Letter;)V"⟩
abbrev cX6_agreedBy : ByteArray := prog_8_method_4_code
def yX6_agreedBy : MethodName := ⟨RX6, "agreedBy", "(I)LSpecOrder$Letter;"⟩
abbrev cX6_countLike : ByteArray := prog_8_method_5_code
def yX6_countLike : MethodName := ⟨RX6, "countLike", "(LSpecOrder$Letter;)I"⟩
abbrev cX6_finish : ByteArray := prog_8_method_6_code
def yX6_finish : MethodName := ⟨RX6, "finish", "(LSpecOrder$Letter;)V"⟩
abbrev cX6_tell : ByteArray := prog_8_method_7_code
def yX6_tell : MethodName := ⟨RX6, "tell", "(I)I"⟩
abbrev cX6_countReplies : ByteArray := prog_8_method_8_code
def yX6_countReplies : MethodName := ⟨RX6, "countReplies", "()I"⟩
def RX7 : String := "SpecOrder"
def TX7 : u_T := fun k => match k with
  | 0 => ("SpecOrder", "faulty", "I", true)
  | 1 => ("SpecOrder", "post", "LSpecOrder$Post;", true)
  | 2 => ("SpecOrder", "client", "LSpecOrder$Client;", true)
  | _ => ("SpecOrder", "replicas", "[LSpecOrder$Replica;", true)
def tyX7 : Nat → FieldType := fun k => match k with
  | 0 => .int
  | 1 => .object "SpecOrder$Post"
  | 2 => .object "SpecOrder$Client"
  | _ => .array (.object "SpecOrder$Replica")
abbrev wsX70 : List Cond := u_ws RX7 TX7 4
theorem nmX7 : ∀ a, a < 4 → ∀ b, b < 4 → a ≠ b → (TX7 a).2.1 ≠ (TX7 b).2.1 := by decide +kernel
theorem tyX7_ok : ∀ k, k < 4 → parseFieldDescriptor (TX7 k).2.2.1 = some (tyX7 k) := by decide +kernel
abbrev cX7_init : ByteArray := prog_1_method_1_code
def yX7_init : MethodName := ⟨RX7, "<init>", "(I)V"⟩
abbrev cX7_issue : ByteArray := prog_1_method_2_code
def yX7_issue : MethodName := ⟨RX7, "issue", "(III)I"⟩
abbrev cX7_retry : ByteArray := prog_1_method_3_code
def yX7_retry : MethodName := ⟨RX7, "retry", "(I)I"⟩
abbrev cX7_deliver : ByteArray := prog_1_method_4_code
def yX7_deliver : MethodName := ⟨RX7, "deliver", "(I)Z"⟩
abbrev cX7_flood : ByteArray := prog_1_method_5_code
def yX7_flood : MethodName := ⟨RX7, "flood", "(I)I"⟩
abbrev cX7_lose : ByteArray := prog_1_method_6_code
def yX7_lose : MethodName := ⟨RX7, "lose", "(I)Z"⟩
abbrev cX7_patience : ByteArray := prog_1_method_7_code
def yX7_patience : MethodName := ⟨RX7, "patience", "(I)Z"⟩
abbrev cX7_lie : ByteArray := prog_1_method_8_code
def yX7_lie : MethodName := ⟨RX7, "lie", "(II)Z"⟩
abbrev cX7_echo : ByteArray := prog_1_method_9_code
def yX7_echo : MethodName := ⟨RX7, "echo", "(II)Z"⟩
abbrev cX7_replica : ByteArray := prog_1_method_10_code
def yX7_replica : MethodName := ⟨RX7, "replica", "(II)I"⟩
abbrev cX7_messages : ByteArray := prog_1_method_11_code
def yX7_messages : MethodName := ⟨RX7, "messages", "()I"⟩
abbrev cX7_message : ByteArray := prog_1_method_12_code
def yX7_message : MethodName := ⟨RX7, "message", "(II)I"⟩
abbrev cX7_request : ByteArray := prog_1_method_13_code
def yX7_request : MethodName := ⟨RX7, "request", "(II)I"⟩
abbrev cX7_view : ByteArray := prog_1_method_14_code
def yX7_view : MethodName := ⟨RX7, "view", "()I"⟩
abbrev cX7_handOver : ByteArray := prog_1_method_15_code
def yX7_handOver : MethodName := ⟨RX7, "handOver", "(I)Z"⟩
abbrev cX7_isReplica : ByteArray := prog_1_method_16_code
def yX7_isReplica : MethodName := ⟨RX7, "isReplica", "(I)Z"⟩
abbrev cX7_primaryOf : ByteArray := prog_1_method_17_code
def yX7_primaryOf : MethodName := ⟨RX7, "primaryOf", "(I)I"⟩
abbrev cX7_askFor : ByteArray := prog_1_method_18_code
def yX7_askFor : MethodName := ⟨RX7, "askFor", "(I)LSpecOrder$Letter;"⟩
def RX8 : String := "SpecOrderModel"
def TX8 : u_T := fun k => match k with
  | 0 => ("SpecOrderModel", "refusal", "I", false)
  | 1 => ("SpecOrderModel", "faulty", "I", false)
  | 2 => ("SpecOrderModel", "requests", "I", false)
  | 3 => ("SpecOrderModel", "op", "[I", false)
  | 4 => ("SpecOrderModel", "key", "[I", false)
  | 5 => ("SpecOrderModel", "amount", "[I", false)
  | 6 => ("SpecOrderModel", "view", "[I", false)
  | 7 => ("SpecOrderModel", "length", "[I", false)
  | 8 => ("SpecOrderModel", "row", "[J", false)
  | 9 => ("SpecOrderModel", "fixed", "[I", false)
  | 10 => ("SpecOrderModel", "changing", "[Z", false)
  | 11 => ("SpecOrderModel", "wanted", "[I", false)
  | 12 => ("SpecOrderModel", "hated", "[I", false)
  | 13 => ("SpecOrderModel", "keptView", "[I", false)
  | 14 => ("SpecOrderModel", "keptLength", "[I", false)
  | 15 => ("SpecOrderModel", "keptRow", "[J", false)
  | 16 => ("SpecOrderModel", "keptFixed", "[I", false)
  | 17 => ("SpecOrderModel", "messages", "I", false)
  | 18 => ("SpecOrderModel", "kind", "[I", false)
  | 19 => ("SpecOrderModel", "sender", "[I", false)
  | 20 => ("SpecOrderModel", "receiver", "[I", false)
  | 21 => ("SpecOrderModel", "ofView", "[I", false)
  | 22 => ("SpecOrderModel", "place", "[I", false)
  | 23 => ("SpecOrderModel", "ofRequest", "[I", false)
  | 24 => ("SpecOrderModel", "digest", "[I", false)
  | 25 => ("SpecOrderModel", "result", "[I", false)
  | 26 => ("SpecOrderModel", "ofFixed", "[I", false)
  | 27 => ("SpecOrderModel", "ofRow", "[J", false)
  | 28 => ("SpecOrderModel", "state", "[I", false)
  | 29 => ("SpecOrderModel", "clientView", "I", false)
  | 30 => ("SpecOrderModel", "replyView", "[I", false)
  | 31 => ("SpecOrderModel", "replyPlace", "[I", false)
  | 32 => ("SpecOrderModel", "replyDigest", "[I", false)
  | 33 => ("SpecOrderModel", "replyResult", "[I", false)
  | 34 => ("SpecOrderModel", "ackView", "[I", false)
  | 35 => ("SpecOrderModel", "ackPlace", "[I", false)
  | 36 => ("SpecOrderModel", "ackDigest", "[I", false)
  | 37 => ("SpecOrderModel", "proved", "[Z", false)
  | 38 => ("SpecOrderModel", "proofView", "[I", false)
  | 39 => ("SpecOrderModel", "proofPlace", "[I", false)
  | 40 => ("SpecOrderModel", "proofDigest", "[I", false)
  | 41 => ("SpecOrderModel", "proofResult", "[I", false)
  | 42 => ("SpecOrderModel", "done", "[Z", false)
  | 43 => ("SpecOrderModel", "doneResult", "[I", false)
  | 44 => ("SpecOrderModel", "donePlace", "[I", false)
  | _ => ("SpecOrderModel", "numbers", "[I", false)
def tyX8 : Nat → FieldType := fun k => match k with
  | 0 => .int
  | 1 => .int
  | 2 => .int
  | 3 => .array .int
  | 4 => .array .int
  | 5 => .array .int
  | 6 => .array .int
  | 7 => .array .int
  | 8 => .array .long
  | 9 => .array .int
  | 10 => .array .boolean
  | 11 => .array .int
  | 12 => .array .int
  | 13 => .array .int
  | 14 => .array .int
  | 15 => .array .long
  | 16 => .array .int
  | 17 => .int
  | 18 => .array .int
  | 19 => .array .int
  | 20 => .array .int
  | 21 => .array .int
  | 22 => .array .int
  | 23 => .array .int
  | 24 => .array .int
  | 25 => .array .int
  | 26 => .array .int
  | 27 => .array .long
  | 28 => .array .int
  | 29 => .int
  | 30 => .array .int
  | 31 => .array .int
  | 32 => .array .int
  | 33 => .array .int
  | 34 => .array .int
  | 35 => .array .int
  | 36 => .array .int
  | 37 => .array .boolean
  | 38 => .array .int
  | 39 => .array .int
  | 40 => .array .int
  | 41 => .array .int
  | 42 => .array .boolean
  | 43 => .array .int
  | 44 => .array .int
  | _ => .array .int
abbrev wsX80 : List Cond := u_ws RX8 TX8 46
theorem nmX8 : ∀ a, a < 46 → ∀ b, b < 46 → a ≠ b → (TX8 a).2.1 ≠ (TX8 b).2.1 := by decide +kernel
theorem tyX8_ok : ∀ k, k < 46 → parseFieldDescriptor (TX8 k).2.2.1 = some (tyX8 k) := by decide +kernel
abbrev cX8_init : ByteArray := prog_10_method_1_code
def yX8_init : MethodName := ⟨RX8, "<init>", "(I)V"⟩
abbrev cX8_thrown : ByteArray := prog_10_method_2_code
def yX8_thrown : MethodName := ⟨RX8, "thrown", "()I"⟩
abbrev cX8_refuse : ByteArray := prog_10_method_3_code
def yX8_refuse : MethodName := ⟨RX8, "refuse", "(I)I"⟩
abbrev cX8_at : ByteArray := prog_10_method_4_code
def yX8_at : MethodName := ⟨RX8, "at", "(JI)I"⟩
abbrev cX8_with : ByteArray := prog_10_method_5_code
def yX8_with : MethodName := ⟨RX8, "with", "(JII)J"⟩
abbrev cX8_begin : ByteArray := prog_10_method_6_code
def yX8_begin : MethodName := ⟨RX8, "begin", "(JI)J"⟩
abbrev cX8_digestOf : ByteArray := prog_10_method_7_code
def yX8_digestOf : MethodName := ⟨RX8, "digestOf", "(JI)I"⟩
abbrev cX8_placeIn : ByteArray := prog_10_method_8_code
def yX8_placeIn : MethodName := ⟨RX8, "placeIn", "(JII)I"⟩
abbrev cX8_work : ByteArray := prog_10_method_9_code
def yX8_work : MethodName := ⟨RX8, "work", "(JI)I"⟩
abbrev cX8_send : ByteArray := prog_10_method_10_code
def yX8_send : MethodName := ⟨RX8, "send", "(IIIIIII)I"⟩
abbrev cX8_sendToAll : ByteArray := prog_10_method_11_code
def yX8_sendToAll : MethodName := ⟨RX8, "sendToAll", "(IIIIII)V"⟩
abbrev cX8_sendRow : ByteArray := prog_10_method_12_code
def yX8_sendRow : MethodName := ⟨RX8, "sendRow", "(IIIIJII)V"⟩
abbrev cX8_reply : ByteArray := prog_10_method_13_code
def yX8_reply : MethodName := ⟨RX8, "reply", "(II)V"⟩
abbrev cX8_order : ByteArray := prog_10_method_14_code
def yX8_order : MethodName := ⟨RX8, "order", "(II)V"⟩
abbrev cX8_isPrimary : ByteArray := prog_10_method_15_code
def yX8_isPrimary : MethodName := ⟨RX8, "isPrimary", "(I)Z"⟩
abbrev cX8_append : ByteArray := prog_10_method_16_code
def yX8_append : MethodName := ⟨RX8, "append", "(II)V"⟩
abbrev cX8_takeAsk : ByteArray := prog_10_method_17_code
def yX8_takeAsk : MethodName := ⟨RX8, "takeAsk", "(III)V"⟩
abbrev cX8_takeOrder : ByteArray := prog_10_method_18_code
def yX8_takeOrder : MethodName := ⟨RX8, "takeOrder", "(IIIIII)Z"⟩
abbrev cX8_takeProof : ByteArray := prog_10_method_19_code
def yX8_takeProof : MethodName := ⟨RX8, "takeProof", "(IIII)V"⟩
abbrev cX8_bits : ByteArray := prog_10_method_20_code
def yX8_bits : MethodName := ⟨RX8, "bits", "(I)I"⟩
abbrev cX8_takeHate : ByteArray := prog_10_method_21_code
def yX8_takeHate : MethodName := ⟨RX8, "takeHate", "(II)V"⟩
abbrev cX8_takeChange : ByteArray := prog_10_method_22_code
def yX8_takeChange : MethodName := ⟨RX8, "takeChange", "(IIIJII)V"⟩
abbrev cX8_safest : ByteArray := prog_10_method_23_code
def yX8_safest : MethodName := ⟨RX8, "safest", "(I)I"⟩
abbrev cX8_goesOn : ByteArray := prog_10_method_24_code
def yX8_goesOn : MethodName := ⟨RX8, "goesOn", "(IIJI)I"⟩
abbrev cX8_nextOf : ByteArray := prog_10_method_25_code
def yX8_nextOf : MethodName := ⟨RX8, "nextOf", "(IJI)I"⟩
abbrev cX8_makeNew : ByteArray := prog_10_method_26_code
def yX8_makeNew : MethodName := ⟨RX8, "makeNew", "(I)V"⟩
abbrev cX8_turn : ByteArray := prog_10_method_27_code
def yX8_turn : MethodName := ⟨RX8, "turn", "(IIJII)V"⟩
abbrev cX8_takeNew : ByteArray := prog_10_method_28_code
def yX8_takeNew : MethodName := ⟨RX8, "takeNew", "(II)V"⟩
abbrev cX8_take : ByteArray := prog_10_method_29_code
def yX8_take : MethodName := ⟨RX8, "take", "(II)V"⟩
abbrev cX8_areAlike : ByteArray := prog_10_method_30_code
def yX8_areAlike : MethodName := ⟨RX8, "areAlike", "(II)Z"⟩
abbrev cX8_alike : ByteArray := prog_10_method_31_code
def yX8_alike : MethodName := ⟨RX8, "alike", "(II)I"⟩
abbrev cX8_finish : ByteArray := prog_10_method_32_code
def yX8_finish : MethodName := ⟨RX8, "finish", "(III)V"⟩
abbrev cX8_look : ByteArray := prog_10_method_33_code
def yX8_look : MethodName := ⟨RX8, "look", "(I)V"⟩
abbrev cX8_takeReply : ByteArray := prog_10_method_34_code
def yX8_takeReply : MethodName := ⟨RX8, "takeReply", "(IIIIII)V"⟩
abbrev cX8_takeAck : ByteArray := prog_10_method_35_code
def yX8_takeAck : MethodName := ⟨RX8, "takeAck", "(I)V"⟩
abbrev cX8_issue : ByteArray := prog_10_method_36_code
def yX8_issue : MethodName := ⟨RX8, "issue", "(III)I"⟩
abbrev cX8_isRequest : ByteArray := prog_10_method_37_code
def yX8_isRequest : MethodName := ⟨RX8, "isRequest", "(I)Z"⟩
abbrev cX8_retry : ByteArray := prog_10_method_38_code
def yX8_retry : MethodName := ⟨RX8, "retry", "(I)I"⟩
abbrev cX8_isUnderWay : ByteArray := prog_10_method_39_code
def yX8_isUnderWay : MethodName := ⟨RX8, "isUnderWay", "(I)Z"⟩
abbrev cX8_deliver : ByteArray := prog_10_method_40_code
def yX8_deliver : MethodName := ⟨RX8, "deliver", "(I)Z"⟩
abbrev cX8_flood : ByteArray := prog_10_method_41_code
def yX8_flood : MethodName := ⟨RX8, "flood", "(I)I"⟩
abbrev cX8_lose : ByteArray := prog_10_method_42_code
def yX8_lose : MethodName := ⟨RX8, "lose", "(I)Z"⟩
abbrev cX8_isReplica : ByteArray := prog_10_method_43_code
def yX8_isReplica : MethodName := ⟨RX8, "isReplica", "(I)Z"⟩
abbrev cX8_refuseThis : ByteArray := prog_10_method_44_code
def yX8_refuseThis : MethodName := ⟨RX8, "refuseThis", "()Z"⟩
abbrev cX8_patience : ByteArray := prog_10_method_45_code
def yX8_patience : MethodName := ⟨RX8, "patience", "(I)Z"⟩
abbrev cX8_lie : ByteArray := prog_10_method_46_code
def yX8_lie : MethodName := ⟨RX8, "lie", "(II)Z"⟩
abbrev cX8_echo : ByteArray := prog_10_method_47_code
def yX8_echo : MethodName := ⟨RX8, "echo", "(II)Z"⟩
abbrev cX8_replica : ByteArray := prog_10_method_48_code
def yX8_replica : MethodName := ⟨RX8, "replica", "(II)I"⟩
abbrev cX8_messages : ByteArray := prog_10_method_49_code
def yX8_messages : MethodName := ⟨RX8, "messages", "()I"⟩
abbrev cX8_message : ByteArray := prog_10_method_50_code
def yX8_message : MethodName := ⟨RX8, "message", "(II)I"⟩
abbrev cX8_replies : ByteArray := prog_10_method_51_code
def yX8_replies : MethodName := ⟨RX8, "replies", "(I)I"⟩
abbrev cX8_request : ByteArray := prog_10_method_52_code
def yX8_request : MethodName := ⟨RX8, "request", "(II)I"⟩
abbrev cX8_view : ByteArray := prog_10_method_53_code
def yX8_view : MethodName := ⟨RX8, "view", "()I"⟩
def RJ6 : String := "java/lang/Integer"
def TJ6 : u_T := fun k => match k with
  | _ => ("", "", "", false)
def tyJ6 : Nat → FieldType := fun k => match k with
  | _ => .int
abbrev wsJ60 : List Cond := u_ws RJ6 TJ6 0
theorem nmJ6 : ∀ a, a < 0 → ∀ b, b < 0 → a ≠ b → (TJ6 a).2.1 ≠ (TJ6 b).2.1 := by decide +kernel
theorem tyJ6_ok : ∀ k, k < 0 → parseFieldDescriptor (TJ6 k).2.2.1 = some (tyJ6 k) := by decide +kernel
abbrev cJ6_bitCount_0f7a4 : ByteArray := prog_14_method_49_code
def yJ6_bitCount_0f7a4 : MethodName := ⟨RJ6, "bitCount", "(I)I"⟩
def RJ9 : String := "java/lang/Math"
def TJ9 : u_T := fun k => match k with
  | _ => ("", "", "", false)
def tyJ9 : Nat → FieldType := fun k => match k with
  | _ => .int
abbrev wsJ90 : List Cond := u_ws RJ9 TJ9 0
theorem nmJ9 : ∀ a, a < 0 → ∀ b, b < 0 → a ≠ b → (TJ9 a).2.1 ≠ (TJ9 b).2.1 := by decide +kernel
theorem tyJ9_ok : ∀ k, k < 0 → parseFieldDescriptor (TJ9 k).2.2.1 = some (tyJ9 k) := by decide +kernel
abbrev cJ9_max_7cf53 : ByteArray := prog_15_method_65_code
def yJ9_max_7cf53 : MethodName := ⟨RJ9, "max", "(II)I"⟩
def RJ0 : String := "java/lang/String"
def TJ0 : u_T := fun k => match k with
  | _ => ("", "", "", false)
def tyJ0 : Nat → FieldType := fun k => match k with
  | _ => .int
abbrev wsJ00 : List Cond := u_ws RJ0 TJ0 0
theorem nmJ0 : ∀ a, a < 0 → ∀ b, b < 0 → a ≠ b → (TJ0 a).2.1 ≠ (TJ0 b).2.1 := by decide +kernel
theorem tyJ0_ok : ∀ k, k < 0 → parseFieldDescriptor (TJ0 k).2.2.1 = some (tyJ0 k) := by decide +kernel
def RJ10 : String := "java/lang/System"
def TJ10 : u_T := fun k => match k with
  | _ => ("", "", "", false)
def tyJ10 : Nat → FieldType := fun k => match k with
  | _ => .int
abbrev wsJ100 : List Cond := u_ws RJ10 TJ10 0
theorem nmJ10 : ∀ a, a < 0 → ∀ b, b < 0 → a ≠ b → (TJ10 a).2.1 ≠ (TJ10 b).2.1 := by decide +kernel
theorem tyJ10_ok : ∀ k, k < 0 → parseFieldDescriptor (TJ10 k).2.2.1 = some (tyJ10 k) := by decide +kernel
def RL : String := "SpecOrderLaw"
abbrev cL_cell : ByteArray := method_2_code
def yL_cell : MethodName := ⟨RL, "cell", "([II)I"⟩
abbrev cL_issue : ByteArray := method_3_code
def yL_issue : MethodName := ⟨RL, "issue", "(LSpecOrder;III[J)I"⟩
abbrev cL_retry : ByteArray := method_4_code
def yL_retry : MethodName := ⟨RL, "retry", "(LSpecOrder;I[J)I"⟩
abbrev cL_flood : ByteArray := method_5_code
def yL_flood : MethodName := ⟨RL, "flood", "(LSpecOrder;I[J)I"⟩
abbrev cL_patience : ByteArray := method_6_code
def yL_patience : MethodName := ⟨RL, "patience", "(LSpecOrder;I[J)I"⟩
abbrev cL_lie : ByteArray := method_7_code
def yL_lie : MethodName := ⟨RL, "lie", "(LSpecOrder;II[J)I"⟩
abbrev cL_echo : ByteArray := method_8_code
def yL_echo : MethodName := ⟨RL, "echo", "(LSpecOrder;II[J)I"⟩
abbrev cL_replica : ByteArray := method_9_code
def yL_replica : MethodName := ⟨RL, "replica", "(LSpecOrder;II[J)I"⟩
abbrev cL_message : ByteArray := method_10_code
def yL_message : MethodName := ⟨RL, "message", "(LSpecOrder;II[J)I"⟩
abbrev cL_request : ByteArray := method_11_code
def yL_request : MethodName := ⟨RL, "request", "(LSpecOrder;II[J)I"⟩
abbrev cL_law : ByteArray := code
def yL_law : MethodName := ⟨RL, "law", "([I)Z"⟩
end
section
/-! The bytecode as tables, for the pure machine: a row: pc, instruction, its length, what it names (by program) -/
abbrev pm_R : Type := Nat × Instr × Nat × List Nat
def tb_X0_init : List pm_R := [(0, .aload_n 0, 1, []), (1, .invokespecial 3, 3, [0, 6]), (4, .aload_n 0, 1, []), (5, .iconst 4, 1, []), (6, .anewarray 9, 3, [3]), (9, .putfield 11, 3, [0, 2, 2]), (12, .aload_n 0, 1, []), (13, .iconst 0, 1, []), (14, .putfield 17, 3, [0, 3, 0]), (17, .aload_n 0, 1, []), (18, .iconst 0, 1, []), (19, .putfield 21, 3, [0, 4, 0]), (22, .aload_n 0, 1, []), (23, .aload_n 1, 1, []), (24, .putfield 24, 3, [0, 0, 2]), (27, .aload_n 0, 1, []), (28, .aload_n 2, 1, []), (29, .putfield 28, 3, [0, 1, 2]), (32, .return_, 1, [])]
def tb_X0_find : List pm_R := [(0, .iload_n 1, 1, []), (1, .ifCond .lt 20, 3, []), (4, .iload_n 1, 1, []), (5, .aload_n 0, 1, []), (6, .getfield 17, 3, [0, 3, 0]), (9, .if_icmp .ge 12, 3, []), (12, .aload_n 0, 1, []), (13, .getfield 24, 3, [0, 0, 0]), (16, .iload_n 1, 1, []), (17, .aaload, 1, []), (18, .goto 4, 3, []), (21, .aconst_null, 1, []), (22, .areturn, 1, [])]
def tb_X0_begin : List pm_R := [(0, .aload_n 0, 1, []), (1, .getfield 17, 3, [0, 3, 0]), (4, .bipush 12, 2, []), (6, .if_icmp .lt 5, 3, []), (9, .iconst (-1), 1, []), (10, .ireturn, 1, []), (11, .aload_n 0, 1, []), (12, .getfield 17, 3, [0, 3, 0]), (15, .istore_n 2, 1, []), (16, .aload_n 0, 1, []), (17, .getfield 24, 3, [0, 0, 0]), (20, .iload_n 2, 1, []), (21, .aload_n 1, 1, []), (22, .aastore, 1, []), (23, .aload_n 0, 1, []), (24, .dup, 1, []), (25, .getfield 17, 3, [0, 3, 0]), (28, .iconst 1, 1, []), (29, .iadd, 1, []), (30, .putfield 17, 3, [0, 3, 0]), (33, .aload_n 0, 1, []), (34, .getfield 28, 3, [0, 1, 0]), (37, .iconst 4, 1, []), (38, .aload_n 0, 1, []), (39, .getfield 21, 3, [0, 4, 0]), (42, .invokestatic 32, 3, [70, 5]), (45, .iload_n 2, 1, []), (46, .invokestatic 36, 3, [71, 5]), (49, .invokevirtual 40, 3, [21, 0]), (52, .iload_n 2, 1, []), (53, .ireturn, 1, [])]
def tb_X0_tryAgain : List pm_R := [(0, .aload_n 2, 1, []), (1, .getfield 46, 3, [6, 5, 1]), (4, .ifCond .eq 5, 3, []), (7, .iconst 0, 1, []), (8, .ireturn, 1, []), (9, .aload_n 2, 1, []), (10, .iconst 3, 1, []), (11, .invokevirtual 52, 3, [49, 0]), (14, .astore_n 3, 1, []), (15, .aload_n 3, 1, []), (16, .ifnonnull 17, 3, []), (19, .aload_n 0, 1, []), (20, .getfield 28, 3, [0, 1, 0]), (23, .iconst 4, 1, []), (24, .iload_n 1, 1, []), (25, .invokestatic 36, 3, [71, 5]), (28, .invokevirtual 55, 3, [22, 0]), (31, .iconst 1, 1, []), (32, .ireturn, 1, []), (33, .aload_n 2, 1, []), (34, .aload_n 3, 1, []), (35, .putfield 59, 3, [6, 4, 1]), (38, .aload_n 0, 1, []), (39, .getfield 28, 3, [0, 1, 0]), (42, .iconst 4, 1, []), (43, .new 9, 3, [2]), (46, .dup, 1, []), (47, .iconst 3, 1, []), (48, .aload_n 3, 1, []), (49, .getfield 63, 3, [2, 1, 1]), (52, .iconst (-1), 1, []), (53, .aload_n 3, 1, []), (54, .getfield 64, 3, [2, 3, 1]), (57, .aload_n 3, 1, []), (58, .getfield 67, 3, [2, 4, 1]), (61, .iconst 0, 1, []), (62, .aconst_null, 1, []), (63, .invokespecial 70, 3, [15, 2]), (66, .invokevirtual 55, 3, [22, 0]), (69, .iconst 2, 1, []), (70, .ireturn, 1, [])]
def tb_X0_take : List pm_R := [(0, .iload_n 1, 1, []), (1, .invokestatic 73, 3, [69, 5]), (4, .ifCond .ne 4, 3, []), (7, .return_, 1, []), (8, .aload_n 2, 1, []), (9, .getfield 77, 3, [2, 0, 1]), (12, .iconst 2, 1, []), (13, .if_icmp .ne 45, 3, []), (16, .aload_n 0, 1, []), (17, .aload_n 0, 1, []), (18, .getfield 21, 3, [0, 4, 0]), (21, .aload_n 2, 1, []), (22, .getfield 63, 3, [2, 1, 1]), (25, .invokestatic 80, 3, [0, 7]), (28, .putfield 21, 3, [0, 4, 0]), (31, .aload_n 0, 1, []), (32, .aload_n 2, 1, []), (33, .getfield 86, 3, [2, 2, 1]), (36, .invokevirtual 89, 3, [1, 0]), (39, .astore_n 3, 1, []), (40, .aload_n 3, 1, []), (41, .ifnull 14, 3, []), (44, .aload_n 3, 1, []), (45, .iload_n 1, 1, []), (46, .aload_n 2, 1, []), (47, .invokevirtual 93, 3, [48, 0]), (50, .aload_n 0, 1, []), (51, .aload_n 3, 1, []), (52, .invokevirtual 96, 3, [5, 0]), (55, .goto 44, 3, []), (58, .aload_n 2, 1, []), (59, .getfield 77, 3, [2, 0, 1]), (62, .iconst 4, 1, []), (63, .if_icmp .ne 36, 3, []), (66, .aload_n 0, 1, []), (67, .getfield 11, 3, [0, 2, 0]), (70, .iload_n 1, 1, []), (71, .aload_n 2, 1, []), (72, .aastore, 1, []), (73, .iconst 0, 1, []), (74, .istore_n 3, 1, []), (75, .iload_n 3, 1, []), (76, .aload_n 0, 1, []), (77, .getfield 17, 3, [0, 3, 0]), (80, .if_icmp .ge 19, 3, []), (83, .aload_n 0, 1, []), (84, .aload_n 0, 1, []), (85, .getfield 24, 3, [0, 0, 0]), (88, .iload_n 3, 1, []), (89, .aaload, 1, []), (90, .invokevirtual 96, 3, [5, 0]), (93, .iinc 3 1, 3, []), (96, .goto (-21), 3, []), (99, .return_, 1, [])]
def tb_X0_lookAt : List pm_R := [(0, .aload_n 1, 1, []), (1, .ifnull 10, 3, []), (4, .aload_n 1, 1, []), (5, .getfield 46, 3, [6, 5, 1]), (8, .ifCond .eq 4, 3, []), (11, .return_, 1, []), (12, .aload_n 1, 1, []), (13, .iconst 4, 1, []), (14, .invokevirtual 52, 3, [49, 0]), (17, .astore_n 2, 1, []), (18, .aload_n 2, 1, []), (19, .ifnull 11, 3, []), (22, .aload_n 1, 1, []), (23, .aload_n 2, 1, []), (24, .invokevirtual 100, 3, [51, 0]), (27, .goto 30, 3, []), (30, .aload_n 1, 1, []), (31, .getfield 59, 3, [6, 4, 1]), (34, .ifnull 23, 3, []), (37, .aload_n 0, 1, []), (38, .aload_n 1, 1, []), (39, .getfield 59, 3, [6, 4, 1]), (42, .invokevirtual 104, 3, [6, 0]), (45, .iconst 3, 1, []), (46, .if_icmp .lt 11, 3, []), (49, .aload_n 1, 1, []), (50, .aload_n 1, 1, []), (51, .getfield 59, 3, [6, 4, 1]), (54, .invokevirtual 100, 3, [51, 0]), (57, .return_, 1, [])]
def tb_X0_countAcks : List pm_R := [(0, .iconst 0, 1, []), (1, .istore_n 2, 1, []), (2, .iconst 0, 1, []), (3, .istore_n 3, 1, []), (4, .iload_n 3, 1, []), (5, .iconst 4, 1, []), (6, .if_icmp .ge 34, 3, []), (9, .aload_n 0, 1, []), (10, .getfield 11, 3, [0, 2, 0]), (13, .iload_n 3, 1, []), (14, .aaload, 1, []), (15, .ifnull 19, 3, []), (18, .aload_n 0, 1, []), (19, .getfield 11, 3, [0, 2, 0]), (22, .iload_n 3, 1, []), (23, .aaload, 1, []), (24, .aload_n 1, 1, []), (25, .invokevirtual 108, 3, [16, 0]), (28, .ifCond .eq 6, 3, []), (31, .iinc 2 1, 3, []), (34, .iinc 3 1, 3, []), (37, .goto (-33), 3, []), (40, .iload_n 2, 1, []), (41, .ireturn, 1, [])]
def tb_X1_init : List pm_R := [(0, .aload_n 0, 1, []), (1, .invokespecial 3, 3, [0, 6]), (4, .aload_n 0, 1, []), (5, .bipush 12, 2, []), (7, .newarray .int, 2, [0]), (9, .putfield 9, 3, [1, 0, 2]), (12, .aload_n 0, 1, []), (13, .iconst 0, 1, []), (14, .putfield 15, 3, [1, 1, 0]), (17, .aload_n 0, 1, []), (18, .iconst 0, 1, []), (19, .putfield 19, 3, [1, 2, 0]), (22, .return_, 1, [])]
def tb_X1_add : List pm_R := [(0, .aload_n 0, 1, []), (1, .getfield 15, 3, [1, 1, 0]), (4, .bipush 12, 2, []), (6, .if_icmp .ge 23, 3, []), (9, .aload_n 0, 1, []), (10, .getfield 9, 3, [1, 0, 0]), (13, .aload_n 0, 1, []), (14, .getfield 15, 3, [1, 1, 0]), (17, .iload_n 1, 1, []), (18, .iastore, 1, []), (19, .aload_n 0, 1, []), (20, .dup, 1, []), (21, .getfield 15, 3, [1, 1, 0]), (24, .iconst 1, 1, []), (25, .iadd, 1, []), (26, .putfield 15, 3, [1, 1, 0]), (29, .return_, 1, [])]
def tb_X1_at : List pm_R := [(0, .iload_n 1, 1, []), (1, .ifCond .lt 20, 3, []), (4, .iload_n 1, 1, []), (5, .aload_n 0, 1, []), (6, .getfield 15, 3, [1, 1, 0]), (9, .if_icmp .ge 12, 3, []), (12, .aload_n 0, 1, []), (13, .getfield 9, 3, [1, 0, 0]), (16, .iload_n 1, 1, []), (17, .iaload, 1, []), (18, .goto 4, 3, []), (21, .iconst (-1), 1, []), (22, .ireturn, 1, [])]
def tb_X1_placeOf : List pm_R := [(0, .iconst 0, 1, []), (1, .istore_n 2, 1, []), (2, .iload_n 2, 1, []), (3, .aload_n 0, 1, []), (4, .getfield 15, 3, [1, 1, 0]), (7, .if_icmp .ge 23, 3, []), (10, .aload_n 0, 1, []), (11, .getfield 9, 3, [1, 0, 0]), (14, .iload_n 2, 1, []), (15, .iaload, 1, []), (16, .iload_n 1, 1, []), (17, .if_icmp .ne 7, 3, []), (20, .iload_n 2, 1, []), (21, .iconst 1, 1, []), (22, .iadd, 1, []), (23, .ireturn, 1, []), (24, .iinc 2 1, 3, []), (27, .goto (-25), 3, []), (30, .iconst 0, 1, []), (31, .ireturn, 1, [])]
def tb_X1_digest : List pm_R := [(0, .bipush 7, 2, []), (2, .istore_n 2, 1, []), (3, .iconst 0, 1, []), (4, .istore_n 3, 1, []), (5, .iload_n 3, 1, []), (6, .iload_n 1, 1, []), (7, .if_icmp .ge 28, 3, []), (10, .iload_n 3, 1, []), (11, .aload_n 0, 1, []), (12, .getfield 15, 3, [1, 1, 0]), (15, .if_icmp .ge 20, 3, []), (18, .iload_n 2, 1, []), (19, .aload_n 0, 1, []), (20, .getfield 9, 3, [1, 0, 0]), (23, .iload_n 3, 1, []), (24, .iaload, 1, []), (25, .invokestatic 22, 3, [14, 4]), (28, .istore_n 2, 1, []), (29, .iinc 3 1, 3, []), (32, .goto (-27), 3, []), (35, .iload_n 2, 1, []), (36, .ireturn, 1, [])]
def tb_X1_beginsWith : List pm_R := [(0, .aload_n 0, 1, []), (1, .getfield 15, 3, [1, 1, 0]), (4, .aload_n 1, 1, []), (5, .getfield 15, 3, [1, 1, 0]), (8, .if_icmp .ge 5, 3, []), (11, .iconst 0, 1, []), (12, .ireturn, 1, []), (13, .iconst 0, 1, []), (14, .istore_n 2, 1, []), (15, .iload_n 2, 1, []), (16, .aload_n 1, 1, []), (17, .getfield 15, 3, [1, 1, 0]), (20, .if_icmp .ge 26, 3, []), (23, .aload_n 0, 1, []), (24, .getfield 9, 3, [1, 0, 0]), (27, .iload_n 2, 1, []), (28, .iaload, 1, []), (29, .aload_n 1, 1, []), (30, .getfield 9, 3, [1, 0, 0]), (33, .iload_n 2, 1, []), (34, .iaload, 1, []), (35, .if_icmp .eq 5, 3, []), (38, .iconst 0, 1, []), (39, .ireturn, 1, []), (40, .iinc 2 1, 3, []), (43, .goto (-28), 3, []), (46, .iconst 1, 1, []), (47, .ireturn, 1, [])]
def tb_X1_copy : List pm_R := [(0, .new 10, 3, [1]), (3, .dup, 1, []), (4, .invokespecial 26, 3, [7, 2]), (7, .astore_n 1, 1, []), (8, .aload_n 0, 1, []), (9, .getfield 9, 3, [1, 0, 0]), (12, .iconst 0, 1, []), (13, .aload_n 1, 1, []), (14, .getfield 9, 3, [1, 0, 0]), (17, .iconst 0, 1, []), (18, .aload_n 0, 1, []), (19, .getfield 15, 3, [1, 1, 0]), (22, .invokestatic 27, 3, [0, 8]), (25, .aload_n 1, 1, []), (26, .aload_n 0, 1, []), (27, .getfield 15, 3, [1, 1, 0]), (30, .putfield 15, 3, [1, 1, 0]), (33, .aload_n 1, 1, []), (34, .aload_n 0, 1, []), (35, .getfield 19, 3, [1, 2, 0]), (38, .putfield 19, 3, [1, 2, 0]), (41, .aload_n 1, 1, []), (42, .areturn, 1, [])]
def tb_X1_digestWith : List pm_R := [(0, .bipush 31, 2, []), (2, .iload_n 0, 1, []), (3, .imul, 1, []), (4, .iload_n 1, 1, []), (5, .iadd, 1, []), (6, .iconst 1, 1, []), (7, .iadd, 1, []), (8, .ireturn, 1, [])]
def tb_X2_init : List pm_R := [(0, .aload_n 0, 1, []), (1, .invokespecial 1, 3, [0, 6]), (4, .aload_n 0, 1, []), (5, .iload_n 1, 1, []), (6, .putfield 7, 3, [2, 0, 2]), (9, .aload_n 0, 1, []), (10, .iload_n 2, 1, []), (11, .putfield 13, 3, [2, 1, 2]), (14, .aload_n 0, 1, []), (15, .iload_n 3, 1, []), (16, .putfield 16, 3, [2, 2, 2]), (19, .aload_n 0, 1, []), (20, .iload 4, 2, []), (22, .putfield 19, 3, [2, 3, 2]), (25, .aload_n 0, 1, []), (26, .iload 5, 2, []), (28, .putfield 22, 3, [2, 4, 2]), (31, .aload_n 0, 1, []), (32, .iload 6, 2, []), (34, .putfield 25, 3, [2, 5, 2]), (37, .aload_n 0, 1, []), (38, .aload 7, 2, []), (40, .putfield 28, 3, [2, 6, 2]), (43, .return_, 1, [])]
def tb_X2_samePoint : List pm_R := [(0, .aload_n 0, 1, []), (1, .getfield 13, 3, [2, 1, 0]), (4, .aload_n 1, 1, []), (5, .getfield 13, 3, [2, 1, 0]), (8, .if_icmp .ne 29, 3, []), (11, .aload_n 0, 1, []), (12, .getfield 19, 3, [2, 3, 0]), (15, .aload_n 1, 1, []), (16, .getfield 19, 3, [2, 3, 0]), (19, .if_icmp .ne 18, 3, []), (22, .aload_n 0, 1, []), (23, .getfield 22, 3, [2, 4, 0]), (26, .aload_n 1, 1, []), (27, .getfield 22, 3, [2, 4, 0]), (30, .if_icmp .ne 7, 3, []), (33, .iconst 1, 1, []), (34, .goto 4, 3, []), (37, .iconst 0, 1, []), (38, .ireturn, 1, [])]
def tb_X2_sameReply : List pm_R := [(0, .aload_n 0, 1, []), (1, .aload_n 1, 1, []), (2, .invokevirtual 32, 3, [16, 0]), (5, .ifCond .eq 29, 3, []), (8, .aload_n 0, 1, []), (9, .getfield 16, 3, [2, 2, 0]), (12, .aload_n 1, 1, []), (13, .getfield 16, 3, [2, 2, 0]), (16, .if_icmp .ne 18, 3, []), (19, .aload_n 0, 1, []), (20, .getfield 25, 3, [2, 5, 0]), (23, .aload_n 1, 1, []), (24, .getfield 25, 3, [2, 5, 0]), (27, .if_icmp .ne 7, 3, []), (30, .iconst 1, 1, []), (31, .goto 4, 3, []), (34, .iconst 0, 1, []), (35, .ireturn, 1, [])]
def tb_X3_init : List pm_R := [(0, .aload_n 0, 1, []), (1, .invokespecial 3, 3, [0, 6]), (4, .aload_n 0, 1, []), (5, .iconst 0, 1, []), (6, .putfield 9, 3, [3, 3, 0]), (9, .aload_n 0, 1, []), (10, .iload_n 1, 1, []), (11, .putfield 15, 3, [3, 0, 2]), (14, .aload_n 0, 1, []), (15, .iload_n 2, 1, []), (16, .putfield 18, 3, [3, 1, 2]), (19, .aload_n 0, 1, []), (20, .aload_n 3, 1, []), (21, .putfield 21, 3, [3, 2, 2]), (24, .return_, 1, [])]
def tb_X3_tell : List pm_R := [(0, .iload_n 1, 1, []), (1, .tableswitch 81 0 5 #[39, 47, 52, 57, 65, 73], 39, []), (40, .aload_n 0, 1, []), (41, .getfield 21, 3, [3, 2, 0]), (44, .getfield 25, 3, [2, 0, 1]), (47, .ireturn, 1, []), (48, .aload_n 0, 1, []), (49, .getfield 15, 3, [3, 0, 0]), (52, .ireturn, 1, []), (53, .aload_n 0, 1, []), (54, .getfield 18, 3, [3, 1, 0]), (57, .ireturn, 1, []), (58, .aload_n 0, 1, []), (59, .getfield 21, 3, [3, 2, 0]), (62, .getfield 30, 3, [2, 1, 1]), (65, .ireturn, 1, []), (66, .aload_n 0, 1, []), (67, .getfield 21, 3, [3, 2, 0]), (70, .getfield 33, 3, [2, 2, 1]), (73, .ireturn, 1, []), (74, .aload_n 0, 1, []), (75, .getfield 21, 3, [3, 2, 0]), (78, .getfield 36, 3, [2, 3, 1]), (81, .ireturn, 1, []), (82, .aload_n 0, 1, []), (83, .getfield 9, 3, [3, 3, 0]), (86, .ireturn, 1, [])]
def tb_X4_init : List pm_R := [(0, .aload_n 0, 1, []), (1, .invokespecial 3, 3, [0, 6]), (4, .aload_n 0, 1, []), (5, .sipush 600, 3, []), (8, .anewarray 9, 3, [4]), (11, .putfield 11, 3, [4, 0, 2]), (14, .aload_n 0, 1, []), (15, .iconst 0, 1, []), (16, .putfield 17, 3, [4, 1, 0]), (19, .return_, 1, [])]
def tb_X4_send : List pm_R := [(0, .aload_n 0, 1, []), (1, .getfield 17, 3, [4, 1, 0]), (4, .sipush 600, 3, []), (7, .if_icmp .ge 32, 3, []), (10, .aload_n 0, 1, []), (11, .getfield 11, 3, [4, 0, 0]), (14, .aload_n 0, 1, []), (15, .getfield 17, 3, [4, 1, 0]), (18, .new 9, 3, [3]), (21, .dup, 1, []), (22, .iload_n 1, 1, []), (23, .iload_n 2, 1, []), (24, .aload_n 3, 1, []), (25, .invokespecial 21, 3, [18, 2]), (28, .aastore, 1, []), (29, .aload_n 0, 1, []), (30, .dup, 1, []), (31, .getfield 17, 3, [4, 1, 0]), (34, .iconst 1, 1, []), (35, .iadd, 1, []), (36, .putfield 17, 3, [4, 1, 0]), (39, .return_, 1, [])]
def tb_X4_sendToAll : List pm_R := [(0, .iconst 0, 1, []), (1, .istore_n 3, 1, []), (2, .iload_n 3, 1, []), (3, .iconst 4, 1, []), (4, .if_icmp .ge 21, 3, []), (7, .iload_n 3, 1, []), (8, .iload_n 1, 1, []), (9, .if_icmp .eq 10, 3, []), (12, .aload_n 0, 1, []), (13, .iload_n 1, 1, []), (14, .iload_n 3, 1, []), (15, .aload_n 2, 1, []), (16, .invokevirtual 24, 3, [21, 0]), (19, .iinc 3 1, 3, []), (22, .goto (-20), 3, []), (25, .return_, 1, [])]
def tb_X4_find : List pm_R := [(0, .iload_n 1, 1, []), (1, .ifCond .lt 20, 3, []), (4, .iload_n 1, 1, []), (5, .aload_n 0, 1, []), (6, .getfield 17, 3, [4, 1, 0]), (9, .if_icmp .ge 12, 3, []), (12, .aload_n 0, 1, []), (13, .getfield 11, 3, [4, 0, 0]), (16, .iload_n 1, 1, []), (17, .aaload, 1, []), (18, .goto 4, 3, []), (21, .aconst_null, 1, []), (22, .areturn, 1, [])]
def tb_X5_init : List pm_R := [(0, .aload_n 0, 1, []), (1, .invokespecial 3, 3, [0, 6]), (4, .aload_n 0, 1, []), (5, .new 9, 3, [1]), (8, .dup, 1, []), (9, .invokespecial 11, 3, [7, 3]), (12, .putfield 12, 3, [5, 3, 2]), (15, .aload_n 0, 1, []), (16, .iconst 4, 1, []), (17, .newarray .int, 2, [0]), (19, .putfield 18, 3, [5, 4, 2]), (22, .aload_n 0, 1, []), (23, .bipush 12, 2, []), (25, .newarray .int, 2, [0]), (27, .putfield 22, 3, [5, 5, 2]), (30, .aload_n 0, 1, []), (31, .iconst 4, 1, []), (32, .anewarray 25, 3, [3]), (35, .putfield 27, 3, [5, 6, 2]), (38, .aload_n 0, 1, []), (39, .iconst 0, 1, []), (40, .putfield 31, 3, [5, 7, 0]), (43, .aload_n 0, 1, []), (44, .iconst 0, 1, []), (45, .putfield 35, 3, [5, 8, 0]), (48, .aload_n 0, 1, []), (49, .iconst 0, 1, []), (50, .putfield 39, 3, [5, 9, 0]), (53, .aload_n 0, 1, []), (54, .iconst 0, 1, []), (55, .putfield 42, 3, [5, 10, 0]), (58, .aload_n 0, 1, []), (59, .iload_n 1, 1, []), (60, .putfield 45, 3, [5, 0, 2]), (63, .aload_n 0, 1, []), (64, .aload_n 2, 1, []), (65, .putfield 48, 3, [5, 1, 2]), (68, .aload_n 0, 1, []), (69, .aload_n 3, 1, []), (70, .putfield 52, 3, [5, 2, 2]), (73, .return_, 1, [])]
def tb_X5_tell : List pm_R := [(0, .iload_n 1, 1, []), (1, .tableswitch 83 0 5 #[39, 44, 52, 60, 73, 78], 39, []), (40, .aload_n 0, 1, []), (41, .getfield 31, 3, [5, 7, 0]), (44, .ireturn, 1, []), (45, .aload_n 0, 1, []), (46, .getfield 12, 3, [5, 3, 0]), (49, .getfield 56, 3, [1, 1, 1]), (52, .ireturn, 1, []), (53, .aload_n 0, 1, []), (54, .getfield 12, 3, [5, 3, 0]), (57, .getfield 59, 3, [1, 2, 1]), (60, .ireturn, 1, []), (61, .aload_n 0, 1, []), (62, .getfield 35, 3, [5, 8, 0]), (65, .ifCond .eq 7, 3, []), (68, .iconst 1, 1, []), (69, .goto 4, 3, []), (72, .iconst 0, 1, []), (73, .ireturn, 1, []), (74, .aload_n 0, 1, []), (75, .getfield 39, 3, [5, 9, 0]), (78, .ireturn, 1, []), (79, .aload_n 0, 1, []), (80, .getfield 42, 3, [5, 10, 0]), (83, .ireturn, 1, []), (84, .aload_n 0, 1, []), (85, .getfield 12, 3, [5, 3, 0]), (88, .aload_n 0, 1, []), (89, .getfield 12, 3, [5, 3, 0]), (92, .getfield 56, 3, [1, 1, 1]), (95, .invokevirtual 62, 3, [11, 0]), (98, .ireturn, 1, [])]
def tb_X5_fittingOrder : List pm_R := [(0, .aload_n 0, 1, []), (1, .getfield 12, 3, [5, 3, 0]), (4, .aload_n 0, 1, []), (5, .getfield 12, 3, [5, 3, 0]), (8, .getfield 56, 3, [1, 1, 1]), (11, .invokevirtual 62, 3, [11, 0]), (14, .iload_n 1, 1, []), (15, .invokestatic 66, 3, [14, 4]), (18, .istore_n 2, 1, []), (19, .new 25, 3, [2]), (22, .dup, 1, []), (23, .iconst 1, 1, []), (24, .aload_n 0, 1, []), (25, .getfield 31, 3, [5, 7, 0]), (28, .iload_n 1, 1, []), (29, .aload_n 0, 1, []), (30, .getfield 12, 3, [5, 3, 0]), (33, .getfield 56, 3, [1, 1, 1]), (36, .iconst 1, 1, []), (37, .iadd, 1, []), (38, .iload_n 2, 1, []), (39, .iconst 0, 1, []), (40, .aconst_null, 1, []), (41, .invokespecial 70, 3, [15, 2]), (44, .areturn, 1, [])]
def tb_X5_take : List pm_R := [(0, .aload_n 2, 1, []), (1, .getfield 73, 3, [2, 0, 1]), (4, .tableswitch 132 0 7 #[48, 60, 132, 69, 132, 77, 89, 98], 48, []), (52, .aload_n 0, 1, []), (53, .iload_n 1, 1, []), (54, .aload_n 2, 1, []), (55, .getfield 76, 3, [2, 2, 1]), (58, .invokevirtual 79, 3, [29, 0]), (61, .goto 75, 3, []), (64, .aload_n 0, 1, []), (65, .iload_n 1, 1, []), (66, .aload_n 2, 1, []), (67, .invokevirtual 83, 3, [30, 0]), (70, .goto 66, 3, []), (73, .aload_n 0, 1, []), (74, .aload_n 2, 1, []), (75, .invokevirtual 87, 3, [31, 0]), (78, .goto 58, 3, []), (81, .aload_n 0, 1, []), (82, .iload_n 1, 1, []), (83, .aload_n 2, 1, []), (84, .getfield 91, 3, [2, 1, 1]), (87, .invokevirtual 92, 3, [32, 0]), (90, .goto 46, 3, []), (93, .aload_n 0, 1, []), (94, .iload_n 1, 1, []), (95, .aload_n 2, 1, []), (96, .invokevirtual 95, 3, [34, 0]), (99, .goto 37, 3, []), (102, .aload_n 2, 1, []), (103, .getfield 98, 3, [2, 6, 1]), (106, .ifnull 30, 3, []), (109, .aload_n 0, 1, []), (110, .iload_n 1, 1, []), (111, .aload_n 2, 1, []), (112, .getfield 91, 3, [2, 1, 1]), (115, .invokevirtual 99, 3, [35, 0]), (118, .ifCond .eq 18, 3, []), (121, .aload_n 0, 1, []), (122, .aload_n 2, 1, []), (123, .getfield 91, 3, [2, 1, 1]), (126, .aload_n 2, 1, []), (127, .getfield 98, 3, [2, 6, 1]), (130, .invokevirtual 103, 3, [42, 0]), (133, .goto 3, 3, []), (136, .aload_n 0, 1, []), (137, .getfield 35, 3, [5, 8, 0]), (140, .ifCond .eq 71, 3, []), (143, .aload_n 0, 1, []), (144, .getfield 31, 3, [5, 7, 0]), (147, .invokestatic 107, 3, [70, 5]), (150, .aload_n 0, 1, []), (151, .getfield 45, 3, [5, 0, 0]), (154, .if_icmp .ne 57, 3, []), (157, .aload_n 0, 1, []), (158, .invokevirtual 110, 3, [36, 0]), (161, .iconst 3, 1, []), (162, .if_icmp .lt 49, 3, []), (165, .aload_n 0, 1, []), (166, .invokevirtual 114, 3, [38, 0]), (169, .astore_n 3, 1, []), (170, .aload_n 0, 1, []), (171, .getfield 52, 3, [5, 2, 0]), (174, .aload_n 0, 1, []), (175, .getfield 45, 3, [5, 0, 0]), (178, .new 25, 3, [2]), (181, .dup, 1, []), (182, .bipush 7, 2, []), (184, .aload_n 0, 1, []), (185, .getfield 31, 3, [5, 7, 0]), (188, .iconst (-1), 1, []), (189, .aload_n 3, 1, []), (190, .getfield 56, 3, [1, 1, 1]), (193, .iconst 0, 1, []), (194, .iconst 0, 1, []), (195, .aload_n 3, 1, []), (196, .invokespecial 70, 3, [15, 2]), (199, .invokevirtual 118, 3, [22, 0]), (202, .aload_n 0, 1, []), (203, .aload_n 0, 1, []), (204, .getfield 31, 3, [5, 7, 0]), (207, .aload_n 3, 1, []), (208, .invokevirtual 103, 3, [42, 0]), (211, .return_, 1, [])]
def tb_X5_endPatience : List pm_R := [(0, .aload_n 0, 1, []), (1, .getfield 35, 3, [5, 8, 0]), (4, .ifCond .ne 12, 3, []), (7, .aload_n 0, 1, []), (8, .getfield 39, 3, [5, 9, 0]), (11, .ifCond .ne 5, 3, []), (14, .iconst 0, 1, []), (15, .ireturn, 1, []), (16, .new 25, 3, [2]), (19, .dup, 1, []), (20, .iconst 5, 1, []), (21, .aload_n 0, 1, []), (22, .getfield 31, 3, [5, 7, 0]), (25, .iconst (-1), 1, []), (26, .iconst 0, 1, []), (27, .iconst 0, 1, []), (28, .iconst 0, 1, []), (29, .aconst_null, 1, []), (30, .invokespecial 70, 3, [15, 2]), (33, .astore_n 1, 1, []), (34, .aload_n 0, 1, []), (35, .getfield 52, 3, [5, 2, 0]), (38, .aload_n 0, 1, []), (39, .getfield 45, 3, [5, 0, 0]), (42, .aload_n 1, 1, []), (43, .invokevirtual 118, 3, [22, 0]), (46, .aload_n 0, 1, []), (47, .aload_n 0, 1, []), (48, .getfield 45, 3, [5, 0, 0]), (51, .aload_n 1, 1, []), (52, .invokevirtual 123, 3, [27, 0]), (55, .iconst 1, 1, []), (56, .ireturn, 1, [])]
def tb_X5_takeAsk : List pm_R := [(0, .aload_n 0, 1, []), (1, .getfield 35, 3, [5, 8, 0]), (4, .ifCond .eq 4, 3, []), (7, .return_, 1, []), (8, .aload_n 0, 1, []), (9, .getfield 31, 3, [5, 7, 0]), (12, .invokestatic 107, 3, [70, 5]), (15, .istore_n 3, 1, []), (16, .aload_n 0, 1, []), (17, .getfield 12, 3, [5, 3, 0]), (20, .iload_n 2, 1, []), (21, .invokevirtual 126, 3, [10, 0]), (24, .istore 4, 2, []), (26, .iload 4, 2, []), (28, .ifCond .le 37, 3, []), (31, .aload_n 0, 1, []), (32, .iload 4, 2, []), (34, .invokevirtual 129, 3, [45, 0]), (37, .iload_n 3, 1, []), (38, .aload_n 0, 1, []), (39, .getfield 45, 3, [5, 0, 0]), (42, .if_icmp .ne 105, 3, []), (45, .aload_n 0, 1, []), (46, .getfield 52, 3, [5, 2, 0]), (49, .aload_n 0, 1, []), (50, .getfield 45, 3, [5, 0, 0]), (53, .aload_n 0, 1, []), (54, .iload 4, 2, []), (56, .invokevirtual 133, 3, [44, 0]), (59, .invokevirtual 118, 3, [22, 0]), (62, .goto 85, 3, []), (65, .iload_n 3, 1, []), (66, .aload_n 0, 1, []), (67, .getfield 45, 3, [5, 0, 0]), (70, .if_icmp .ne 44, 3, []), (73, .aload_n 0, 1, []), (74, .iload_n 2, 1, []), (75, .invokevirtual 137, 3, [43, 0]), (78, .aload_n 0, 1, []), (79, .getfield 52, 3, [5, 2, 0]), (82, .aload_n 0, 1, []), (83, .getfield 45, 3, [5, 0, 0]), (86, .aload_n 0, 1, []), (87, .aload_n 0, 1, []), (88, .getfield 12, 3, [5, 3, 0]), (91, .getfield 56, 3, [1, 1, 1]), (94, .invokevirtual 133, 3, [44, 0]), (97, .invokevirtual 118, 3, [22, 0]), (100, .aload_n 0, 1, []), (101, .aload_n 0, 1, []), (102, .getfield 12, 3, [5, 3, 0]), (105, .getfield 56, 3, [1, 1, 1]), (108, .invokevirtual 129, 3, [45, 0]), (111, .goto 36, 3, []), (114, .aload_n 0, 1, []), (115, .dup, 1, []), (116, .getfield 39, 3, [5, 9, 0]), (119, .iconst 1, 1, []), (120, .iload_n 2, 1, []), (121, .ishl, 1, []), (122, .ior, 1, []), (123, .putfield 39, 3, [5, 9, 0]), (126, .iload_n 3, 1, []), (127, .iload_n 1, 1, []), (128, .if_icmp .eq 19, 3, []), (131, .aload_n 0, 1, []), (132, .getfield 52, 3, [5, 2, 0]), (135, .aload_n 0, 1, []), (136, .getfield 45, 3, [5, 0, 0]), (139, .iload_n 3, 1, []), (140, .iload_n 2, 1, []), (141, .invokestatic 140, 3, [71, 5]), (144, .invokevirtual 143, 3, [21, 0]), (147, .return_, 1, [])]
def tb_X5_takeOrder : List pm_R := [(0, .aload_n 0, 1, []), (1, .getfield 35, 3, [5, 8, 0]), (4, .ifCond .ne 25, 3, []), (7, .iload_n 1, 1, []), (8, .aload_n 0, 1, []), (9, .getfield 31, 3, [5, 7, 0]), (12, .invokestatic 107, 3, [70, 5]), (15, .if_icmp .ne 14, 3, []), (18, .aload_n 2, 1, []), (19, .getfield 91, 3, [2, 1, 1]), (22, .aload_n 0, 1, []), (23, .getfield 31, 3, [5, 7, 0]), (26, .if_icmp .eq 4, 3, []), (29, .return_, 1, []), (30, .aload_n 0, 1, []), (31, .aload_n 2, 1, []), (32, .getfield 76, 3, [2, 2, 1]), (35, .invokevirtual 147, 3, [26, 0]), (38, .astore_n 3, 1, []), (39, .aload_n 2, 1, []), (40, .aload_n 3, 1, []), (41, .invokevirtual 150, 3, [16, 0]), (44, .ifCond .eq 36, 3, []), (47, .aload_n 0, 1, []), (48, .getfield 12, 3, [5, 3, 0]), (51, .aload_n 2, 1, []), (52, .getfield 76, 3, [2, 2, 1]), (55, .invokevirtual 126, 3, [10, 0]), (58, .ifCond .ne 22, 3, []), (61, .aload_n 0, 1, []), (62, .aload_n 2, 1, []), (63, .getfield 76, 3, [2, 2, 1]), (66, .invokevirtual 137, 3, [43, 0]), (69, .aload_n 0, 1, []), (70, .aload_n 0, 1, []), (71, .getfield 12, 3, [5, 3, 0]), (74, .getfield 56, 3, [1, 1, 1]), (77, .invokevirtual 129, 3, [45, 0]), (80, .return_, 1, [])]
def tb_X5_takeProof : List pm_R := [(0, .aload_n 0, 1, []), (1, .getfield 35, 3, [5, 8, 0]), (4, .ifCond .ne 28, 3, []), (7, .aload_n 1, 1, []), (8, .getfield 91, 3, [2, 1, 1]), (11, .aload_n 0, 1, []), (12, .getfield 31, 3, [5, 7, 0]), (15, .if_icmp .ne 17, 3, []), (18, .aload_n 0, 1, []), (19, .getfield 12, 3, [5, 3, 0]), (22, .getfield 56, 3, [1, 1, 1]), (25, .aload_n 1, 1, []), (26, .getfield 154, 3, [2, 3, 1]), (29, .if_icmp .ge 4, 3, []), (32, .return_, 1, []), (33, .aload_n 0, 1, []), (34, .getfield 12, 3, [5, 3, 0]), (37, .aload_n 1, 1, []), (38, .getfield 154, 3, [2, 3, 1]), (41, .invokevirtual 62, 3, [11, 0]), (44, .aload_n 1, 1, []), (45, .getfield 157, 3, [2, 4, 1]), (48, .if_icmp .ne 59, 3, []), (51, .aload_n 0, 1, []), (52, .getfield 12, 3, [5, 3, 0]), (55, .aload_n 0, 1, []), (56, .getfield 12, 3, [5, 3, 0]), (59, .getfield 59, 3, [1, 2, 1]), (62, .aload_n 1, 1, []), (63, .getfield 154, 3, [2, 3, 1]), (66, .invokestatic 159, 3, [0, 7]), (69, .putfield 59, 3, [1, 2, 1]), (72, .aload_n 0, 1, []), (73, .getfield 52, 3, [5, 2, 0]), (76, .aload_n 0, 1, []), (77, .getfield 45, 3, [5, 0, 0]), (80, .iconst 4, 1, []), (81, .new 25, 3, [2]), (84, .dup, 1, []), (85, .iconst 4, 1, []), (86, .aload_n 0, 1, []), (87, .getfield 31, 3, [5, 7, 0]), (90, .iconst (-1), 1, []), (91, .aload_n 1, 1, []), (92, .getfield 154, 3, [2, 3, 1]), (95, .aload_n 1, 1, []), (96, .getfield 157, 3, [2, 4, 1]), (99, .iconst 0, 1, []), (100, .aconst_null, 1, []), (101, .invokespecial 70, 3, [15, 2]), (104, .invokevirtual 143, 3, [21, 0]), (107, .return_, 1, [])]
def tb_X5_takeHate : List pm_R := [(0, .iload_n 2, 1, []), (1, .aload_n 0, 1, []), (2, .getfield 31, 3, [5, 7, 0]), (5, .if_icmp .eq 4, 3, []), (8, .return_, 1, []), (9, .aload_n 0, 1, []), (10, .dup, 1, []), (11, .getfield 42, 3, [5, 10, 0]), (14, .iconst 1, 1, []), (15, .iload_n 1, 1, []), (16, .ishl, 1, []), (17, .ior, 1, []), (18, .putfield 42, 3, [5, 10, 0]), (21, .aload_n 0, 1, []), (22, .getfield 42, 3, [5, 10, 0]), (25, .invokestatic 164, 3, [125, 4]), (28, .iconst 2, 1, []), (29, .if_icmp .lt 7, 3, []), (32, .aload_n 0, 1, []), (33, .invokevirtual 169, 3, [33, 0]), (36, .return_, 1, [])]
def tb_X5_changeView : List pm_R := [(0, .aload_n 0, 1, []), (1, .dup, 1, []), (2, .getfield 31, 3, [5, 7, 0]), (5, .iconst 1, 1, []), (6, .iadd, 1, []), (7, .putfield 31, 3, [5, 7, 0]), (10, .aload_n 0, 1, []), (11, .iconst 0, 1, []), (12, .putfield 42, 3, [5, 10, 0]), (15, .aload_n 0, 1, []), (16, .iconst 1, 1, []), (17, .putfield 35, 3, [5, 8, 0]), (20, .new 25, 3, [2]), (23, .dup, 1, []), (24, .bipush 6, 2, []), (26, .aload_n 0, 1, []), (27, .getfield 31, 3, [5, 7, 0]), (30, .iconst (-1), 1, []), (31, .aload_n 0, 1, []), (32, .getfield 12, 3, [5, 3, 0]), (35, .getfield 56, 3, [1, 1, 1]), (38, .iconst 0, 1, []), (39, .iconst 0, 1, []), (40, .aload_n 0, 1, []), (41, .getfield 12, 3, [5, 3, 0]), (44, .invokevirtual 172, 3, [13, 0]), (47, .invokespecial 70, 3, [15, 2]), (50, .astore_n 1, 1, []), (51, .aload_n 0, 1, []), (52, .getfield 31, 3, [5, 7, 0]), (55, .invokestatic 107, 3, [70, 5]), (58, .aload_n 0, 1, []), (59, .getfield 45, 3, [5, 0, 0]), (62, .if_icmp .ne 15, 3, []), (65, .aload_n 0, 1, []), (66, .aload_n 0, 1, []), (67, .getfield 45, 3, [5, 0, 0]), (70, .aload_n 1, 1, []), (71, .invokevirtual 95, 3, [34, 0]), (74, .goto 22, 3, []), (77, .aload_n 0, 1, []), (78, .getfield 52, 3, [5, 2, 0]), (81, .aload_n 0, 1, []), (82, .getfield 45, 3, [5, 0, 0]), (85, .aload_n 0, 1, []), (86, .getfield 31, 3, [5, 7, 0]), (89, .invokestatic 107, 3, [70, 5]), (92, .aload_n 1, 1, []), (93, .invokevirtual 143, 3, [21, 0]), (96, .return_, 1, [])]
def tb_X5_keepChange : List pm_R := [(0, .aload_n 2, 1, []), (1, .getfield 91, 3, [2, 1, 1]), (4, .invokestatic 107, 3, [70, 5]), (7, .aload_n 0, 1, []), (8, .getfield 45, 3, [5, 0, 0]), (11, .if_icmp .ne 28, 3, []), (14, .aload_n 2, 1, []), (15, .getfield 91, 3, [2, 1, 1]), (18, .aload_n 0, 1, []), (19, .getfield 31, 3, [5, 7, 0]), (22, .if_icmp .lt 17, 3, []), (25, .iload_n 1, 1, []), (26, .invokestatic 175, 3, [69, 5]), (29, .ifCond .eq 10, 3, []), (32, .aload_n 0, 1, []), (33, .getfield 27, 3, [5, 6, 0]), (36, .iload_n 1, 1, []), (37, .aload_n 2, 1, []), (38, .aastore, 1, []), (39, .return_, 1, [])]
def tb_X5_mayTurn : List pm_R := [(0, .iload_n 1, 1, []), (1, .iload_n 2, 1, []), (2, .invokestatic 107, 3, [70, 5]), (5, .if_icmp .ne 30, 3, []), (8, .iload_n 2, 1, []), (9, .aload_n 0, 1, []), (10, .getfield 31, 3, [5, 7, 0]), (13, .if_icmp .gt 18, 3, []), (16, .iload_n 2, 1, []), (17, .aload_n 0, 1, []), (18, .getfield 31, 3, [5, 7, 0]), (21, .if_icmp .ne 14, 3, []), (24, .aload_n 0, 1, []), (25, .getfield 35, 3, [5, 8, 0]), (28, .ifCond .eq 7, 3, []), (31, .iconst 1, 1, []), (32, .goto 4, 3, []), (35, .iconst 0, 1, []), (36, .ireturn, 1, [])]
def tb_X5_countChanges : List pm_R := [(0, .iconst 0, 1, []), (1, .istore_n 1, 1, []), (2, .iconst 0, 1, []), (3, .istore_n 2, 1, []), (4, .iload_n 2, 1, []), (5, .iconst 4, 1, []), (6, .if_icmp .ge 20, 3, []), (9, .aload_n 0, 1, []), (10, .iload_n 2, 1, []), (11, .invokevirtual 179, 3, [37, 0]), (14, .ifnull 6, 3, []), (17, .iinc 1 1, 3, []), (20, .iinc 2 1, 3, []), (23, .goto (-19), 3, []), (26, .iload_n 1, 1, []), (27, .ireturn, 1, [])]
def tb_X5_changedHistory : List pm_R := [(0, .aload_n 0, 1, []), (1, .getfield 27, 3, [5, 6, 0]), (4, .iload_n 1, 1, []), (5, .aaload, 1, []), (6, .astore_n 2, 1, []), (7, .aload_n 2, 1, []), (8, .ifnull 21, 3, []), (11, .aload_n 2, 1, []), (12, .getfield 91, 3, [2, 1, 1]), (15, .aload_n 0, 1, []), (16, .getfield 31, 3, [5, 7, 0]), (19, .if_icmp .ne 10, 3, []), (22, .aload_n 2, 1, []), (23, .getfield 98, 3, [2, 6, 1]), (26, .goto 4, 3, []), (29, .aconst_null, 1, []), (30, .areturn, 1, [])]
def tb_X5_mergeChanges : List pm_R := [(0, .new 9, 3, [1]), (3, .dup, 1, []), (4, .invokespecial 11, 3, [7, 3]), (7, .astore_n 1, 1, []), (8, .aload_n 0, 1, []), (9, .invokevirtual 183, 3, [39, 0]), (12, .astore_n 2, 1, []), (13, .aload_n 2, 1, []), (14, .ifnull 36, 3, []), (17, .aload_n 1, 1, []), (18, .aload_n 2, 1, []), (19, .getfield 59, 3, [1, 2, 1]), (22, .putfield 59, 3, [1, 2, 1]), (25, .iconst 0, 1, []), (26, .istore_n 3, 1, []), (27, .iload_n 3, 1, []), (28, .aload_n 2, 1, []), (29, .getfield 59, 3, [1, 2, 1]), (32, .if_icmp .ge 18, 3, []), (35, .aload_n 1, 1, []), (36, .aload_n 2, 1, []), (37, .iload_n 3, 1, []), (38, .invokevirtual 186, 3, [9, 0]), (41, .invokevirtual 189, 3, [8, 0]), (44, .iinc 3 1, 3, []), (47, .goto (-20), 3, []), (50, .iconst 0, 1, []), (51, .istore_n 3, 1, []), (52, .iload_n 3, 1, []), (53, .bipush 12, 2, []), (55, .if_icmp .ge 31, 3, []), (58, .aload_n 0, 1, []), (59, .aload_n 1, 1, []), (60, .invokevirtual 192, 3, [40, 0]), (63, .istore 4, 2, []), (65, .iload 4, 2, []), (67, .iconst (-1), 1, []), (68, .if_icmp .ne 6, 3, []), (71, .goto 15, 3, []), (74, .aload_n 1, 1, []), (75, .iload 4, 2, []), (77, .invokevirtual 189, 3, [8, 0]), (80, .iinc 3 1, 3, []), (83, .goto (-31), 3, []), (86, .aload_n 1, 1, []), (87, .areturn, 1, [])]
def tb_X5_mostFixed : List pm_R := [(0, .aconst_null, 1, []), (1, .astore_n 1, 1, []), (2, .iconst 0, 1, []), (3, .istore_n 2, 1, []), (4, .iload_n 2, 1, []), (5, .iconst 4, 1, []), (6, .if_icmp .ge 36, 3, []), (9, .aload_n 0, 1, []), (10, .iload_n 2, 1, []), (11, .invokevirtual 179, 3, [37, 0]), (14, .astore_n 3, 1, []), (15, .aload_n 3, 1, []), (16, .ifnull 20, 3, []), (19, .aload_n 1, 1, []), (20, .ifnull 14, 3, []), (23, .aload_n 3, 1, []), (24, .getfield 59, 3, [1, 2, 1]), (27, .aload_n 1, 1, []), (28, .getfield 59, 3, [1, 2, 1]), (31, .if_icmp .le 5, 3, []), (34, .aload_n 3, 1, []), (35, .astore_n 1, 1, []), (36, .iinc 2 1, 3, []), (39, .goto (-35), 3, []), (42, .aload_n 1, 1, []), (43, .areturn, 1, [])]
def tb_X5_agreedNext : List pm_R := [(0, .iconst 0, 1, []), (1, .istore_n 2, 1, []), (2, .iload_n 2, 1, []), (3, .iconst 4, 1, []), (4, .if_icmp .ge 51, 3, []), (7, .aload_n 0, 1, []), (8, .aload_n 1, 1, []), (9, .iload_n 2, 1, []), (10, .invokevirtual 196, 3, [41, 0]), (13, .istore_n 3, 1, []), (14, .iload_n 2, 1, []), (15, .iconst 1, 1, []), (16, .iadd, 1, []), (17, .istore 4, 2, []), (19, .iload 4, 2, []), (21, .iconst 4, 1, []), (22, .if_icmp .ge 27, 3, []), (25, .iload_n 3, 1, []), (26, .iconst (-1), 1, []), (27, .if_icmp .eq 22, 3, []), (30, .aload_n 0, 1, []), (31, .aload_n 1, 1, []), (32, .iload 4, 2, []), (34, .invokevirtual 196, 3, [41, 0]), (37, .iload_n 3, 1, []), (38, .if_icmp .ne 5, 3, []), (41, .iload_n 3, 1, []), (42, .ireturn, 1, []), (43, .iinc 4 1, 3, []), (46, .goto (-27), 3, []), (49, .iinc 2 1, 3, []), (52, .goto (-50), 3, []), (55, .iconst (-1), 1, []), (56, .ireturn, 1, [])]
def tb_X5_nextAfter : List pm_R := [(0, .aload_n 0, 1, []), (1, .iload_n 2, 1, []), (2, .invokevirtual 179, 3, [37, 0]), (5, .astore_n 3, 1, []), (6, .aload_n 3, 1, []), (7, .ifnull 22, 3, []), (10, .aload_n 3, 1, []), (11, .aload_n 1, 1, []), (12, .invokevirtual 200, 3, [12, 0]), (15, .ifCond .eq 14, 3, []), (18, .aload_n 3, 1, []), (19, .aload_n 1, 1, []), (20, .getfield 56, 3, [1, 1, 1]), (23, .invokevirtual 186, 3, [9, 0]), (26, .goto 4, 3, []), (29, .iconst (-1), 1, []), (30, .ireturn, 1, [])]
def tb_X5_turnTo : List pm_R := [(0, .aload_n 0, 1, []), (1, .iload_n 1, 1, []), (2, .putfield 31, 3, [5, 7, 0]), (5, .aload_n 0, 1, []), (6, .iconst 0, 1, []), (7, .putfield 35, 3, [5, 8, 0]), (10, .aload_n 0, 1, []), (11, .iconst 0, 1, []), (12, .putfield 42, 3, [5, 10, 0]), (15, .aload_n 0, 1, []), (16, .getfield 12, 3, [5, 3, 0]), (19, .iconst 0, 1, []), (20, .putfield 56, 3, [1, 1, 1]), (23, .aload_n 0, 1, []), (24, .getfield 12, 3, [5, 3, 0]), (27, .aload_n 2, 1, []), (28, .getfield 59, 3, [1, 2, 1]), (31, .putfield 59, 3, [1, 2, 1]), (34, .iconst 0, 1, []), (35, .istore_n 3, 1, []), (36, .iload_n 3, 1, []), (37, .iconst 4, 1, []), (38, .if_icmp .ge 16, 3, []), (41, .aload_n 0, 1, []), (42, .getfield 18, 3, [5, 4, 0]), (45, .iload_n 3, 1, []), (46, .iconst 0, 1, []), (47, .iastore, 1, []), (48, .iinc 3 1, 3, []), (51, .goto (-15), 3, []), (54, .iconst 0, 1, []), (55, .istore_n 3, 1, []), (56, .iload_n 3, 1, []), (57, .aload_n 2, 1, []), (58, .getfield 56, 3, [1, 1, 1]), (61, .if_icmp .ge 18, 3, []), (64, .aload_n 0, 1, []), (65, .aload_n 2, 1, []), (66, .iload_n 3, 1, []), (67, .invokevirtual 186, 3, [9, 0]), (70, .invokevirtual 137, 3, [43, 0]), (73, .iinc 3 1, 3, []), (76, .goto (-20), 3, []), (79, .iconst 1, 1, []), (80, .istore_n 3, 1, []), (81, .iload_n 3, 1, []), (82, .aload_n 0, 1, []), (83, .getfield 12, 3, [5, 3, 0]), (86, .getfield 56, 3, [1, 1, 1]), (89, .if_icmp .gt 14, 3, []), (92, .aload_n 0, 1, []), (93, .iload_n 3, 1, []), (94, .invokevirtual 129, 3, [45, 0]), (97, .iinc 3 1, 3, []), (100, .goto (-19), 3, []), (103, .return_, 1, [])]
def tb_X5_doNext : List pm_R := [(0, .iload_n 1, 1, []), (1, .ifCond .lt 18, 3, []), (4, .iload_n 1, 1, []), (5, .bipush 12, 2, []), (7, .if_icmp .ge 12, 3, []), (10, .aload_n 0, 1, []), (11, .getfield 48, 3, [5, 1, 0]), (14, .iload_n 1, 1, []), (15, .aaload, 1, []), (16, .goto 4, 3, []), (19, .aconst_null, 1, []), (20, .astore_n 2, 1, []), (21, .aload_n 2, 1, []), (22, .ifnull 57, 3, []), (25, .aload_n 0, 1, []), (26, .getfield 12, 3, [5, 3, 0]), (29, .getfield 56, 3, [1, 1, 1]), (32, .bipush 12, 2, []), (34, .if_icmp .ge 45, 3, []), (37, .aload_n 0, 1, []), (38, .getfield 22, 3, [5, 5, 0]), (41, .aload_n 0, 1, []), (42, .getfield 12, 3, [5, 3, 0]), (45, .getfield 56, 3, [1, 1, 1]), (48, .aload_n 2, 1, []), (49, .aload_n 0, 1, []), (50, .getfield 18, 3, [5, 4, 0]), (53, .invokevirtual 204, 3, [47, 0]), (56, .iastore, 1, []), (57, .aload_n 0, 1, []), (58, .getfield 12, 3, [5, 3, 0]), (61, .iload_n 1, 1, []), (62, .invokevirtual 189, 3, [8, 0]), (65, .aload_n 0, 1, []), (66, .dup, 1, []), (67, .getfield 39, 3, [5, 9, 0]), (70, .iconst 1, 1, []), (71, .iload_n 1, 1, []), (72, .ishl, 1, []), (73, .iconst (-1), 1, []), (74, .ixor, 1, []), (75, .iand, 1, []), (76, .putfield 39, 3, [5, 9, 0]), (79, .return_, 1, [])]
def tb_X5_orderOf : List pm_R := [(0, .new 25, 3, [2]), (3, .dup, 1, []), (4, .iconst 1, 1, []), (5, .aload_n 0, 1, []), (6, .getfield 31, 3, [5, 7, 0]), (9, .aload_n 0, 1, []), (10, .getfield 12, 3, [5, 3, 0]), (13, .iload_n 1, 1, []), (14, .iconst 1, 1, []), (15, .isub, 1, []), (16, .invokevirtual 186, 3, [9, 0]), (19, .iload_n 1, 1, []), (20, .aload_n 0, 1, []), (21, .getfield 12, 3, [5, 3, 0]), (24, .iload_n 1, 1, []), (25, .invokevirtual 62, 3, [11, 0]), (28, .iconst 0, 1, []), (29, .aconst_null, 1, []), (30, .invokespecial 70, 3, [15, 2]), (33, .areturn, 1, [])]
def tb_X5_reply : List pm_R := [(0, .iload_n 1, 1, []), (1, .iconst 1, 1, []), (2, .if_icmp .lt 14, 3, []), (5, .iload_n 1, 1, []), (6, .aload_n 0, 1, []), (7, .getfield 12, 3, [5, 3, 0]), (10, .getfield 56, 3, [1, 1, 1]), (13, .if_icmp .le 4, 3, []), (16, .return_, 1, []), (17, .aload_n 0, 1, []), (18, .getfield 12, 3, [5, 3, 0]), (21, .iload_n 1, 1, []), (22, .iconst 1, 1, []), (23, .isub, 1, []), (24, .invokevirtual 186, 3, [9, 0]), (27, .istore_n 2, 1, []), (28, .aload_n 0, 1, []), (29, .getfield 22, 3, [5, 5, 0]), (32, .iload_n 1, 1, []), (33, .iconst 1, 1, []), (34, .isub, 1, []), (35, .iaload, 1, []), (36, .istore_n 3, 1, []), (37, .aload_n 0, 1, []), (38, .getfield 52, 3, [5, 2, 0]), (41, .aload_n 0, 1, []), (42, .getfield 45, 3, [5, 0, 0]), (45, .iconst 4, 1, []), (46, .new 25, 3, [2]), (49, .dup, 1, []), (50, .iconst 2, 1, []), (51, .aload_n 0, 1, []), (52, .getfield 31, 3, [5, 7, 0]), (55, .iload_n 2, 1, []), (56, .iload_n 1, 1, []), (57, .aload_n 0, 1, []), (58, .getfield 12, 3, [5, 3, 0]), (61, .iload_n 1, 1, []), (62, .invokevirtual 62, 3, [11, 0]), (65, .iload_n 3, 1, []), (66, .aconst_null, 1, []), (67, .invokespecial 70, 3, [15, 2]), (70, .invokevirtual 143, 3, [21, 0]), (73, .return_, 1, [])]
def tb_X6_init : List pm_R := [(0, .aload_n 0, 1, []), (1, .invokespecial 3, 3, [0, 6]), (4, .aload_n 0, 1, []), (5, .iconst 4, 1, []), (6, .anewarray 9, 3, [3]), (9, .putfield 11, 3, [6, 3, 2]), (12, .aload_n 0, 1, []), (13, .aconst_null, 1, []), (14, .putfield 17, 3, [6, 4, 0]), (17, .aload_n 0, 1, []), (18, .iconst 0, 1, []), (19, .putfield 21, 3, [6, 5, 0]), (22, .aload_n 0, 1, []), (23, .iconst 0, 1, []), (24, .putfield 25, 3, [6, 6, 0]), (27, .aload_n 0, 1, []), (28, .iconst 0, 1, []), (29, .putfield 29, 3, [6, 7, 0]), (32, .aload_n 0, 1, []), (33, .iload_n 1, 1, []), (34, .putfield 32, 3, [6, 0, 2]), (37, .aload_n 0, 1, []), (38, .iload_n 2, 1, []), (39, .putfield 35, 3, [6, 1, 2]), (42, .aload_n 0, 1, []), (43, .iload_n 3, 1, []), (44, .putfield 38, 3, [6, 2, 2]), (47, .return_, 1, [])]
def tb_X6_doOn : List pm_R := [(0, .aload_n 1, 1, []), (1, .aload_n 0, 1, []), (2, .getfield 35, 3, [6, 1, 0]), (5, .iaload, 1, []), (6, .istore_n 2, 1, []), (7, .aload_n 0, 1, []), (8, .getfield 32, 3, [6, 0, 0]), (11, .ifCond .ne 15, 3, []), (14, .aload_n 1, 1, []), (15, .aload_n 0, 1, []), (16, .getfield 35, 3, [6, 1, 0]), (19, .aload_n 0, 1, []), (20, .getfield 38, 3, [6, 2, 0]), (23, .iastore, 1, []), (24, .iload_n 2, 1, []), (25, .ireturn, 1, []), (26, .aload_n 0, 1, []), (27, .getfield 32, 3, [6, 0, 0]), (30, .iconst 1, 1, []), (31, .if_icmp .ne 15, 3, []), (34, .aload_n 1, 1, []), (35, .aload_n 0, 1, []), (36, .getfield 35, 3, [6, 1, 0]), (39, .iload_n 2, 1, []), (40, .aload_n 0, 1, []), (41, .getfield 38, 3, [6, 2, 0]), (44, .iadd, 1, []), (45, .iastore, 1, []), (46, .aload_n 1, 1, []), (47, .aload_n 0, 1, []), (48, .getfield 35, 3, [6, 1, 0]), (51, .iaload, 1, []), (52, .ireturn, 1, [])]
def tb_X6_keep : List pm_R := [(0, .aload_n 0, 1, []), (1, .getfield 11, 3, [6, 3, 0]), (4, .iload_n 1, 1, []), (5, .aaload, 1, []), (6, .astore_n 3, 1, []), (7, .aload_n 3, 1, []), (8, .ifnull 14, 3, []), (11, .aload_n 3, 1, []), (12, .getfield 41, 3, [2, 1, 1]), (15, .aload_n 2, 1, []), (16, .getfield 41, 3, [2, 1, 1]), (19, .if_icmp .gt 10, 3, []), (22, .aload_n 0, 1, []), (23, .getfield 11, 3, [6, 3, 0]), (26, .iload_n 1, 1, []), (27, .aload_n 2, 1, []), (28, .aastore, 1, []), (29, .return_, 1, [])]
def tb_X6_agreedBy : List pm_R := [(0, .iconst 0, 1, []), (1, .istore_n 2, 1, []), (2, .iload_n 2, 1, []), (3, .iconst 4, 1, []), (4, .if_icmp .ge 39, 3, []), (7, .aload_n 0, 1, []), (8, .getfield 11, 3, [6, 3, 0]), (11, .iload_n 2, 1, []), (12, .aaload, 1, []), (13, .ifnull 24, 3, []), (16, .aload_n 0, 1, []), (17, .aload_n 0, 1, []), (18, .getfield 11, 3, [6, 3, 0]), (21, .iload_n 2, 1, []), (22, .aaload, 1, []), (23, .invokevirtual 44, 3, [50, 0]), (26, .iload_n 1, 1, []), (27, .if_icmp .lt 10, 3, []), (30, .aload_n 0, 1, []), (31, .getfield 11, 3, [6, 3, 0]), (34, .iload_n 2, 1, []), (35, .aaload, 1, []), (36, .areturn, 1, []), (37, .iinc 2 1, 3, []), (40, .goto (-38), 3, []), (43, .aconst_null, 1, []), (44, .areturn, 1, [])]
def tb_X6_countLike : List pm_R := [(0, .iconst 0, 1, []), (1, .istore_n 2, 1, []), (2, .iconst 0, 1, []), (3, .istore_n 3, 1, []), (4, .iload_n 3, 1, []), (5, .iconst 4, 1, []), (6, .if_icmp .ge 34, 3, []), (9, .aload_n 0, 1, []), (10, .getfield 11, 3, [6, 3, 0]), (13, .iload_n 3, 1, []), (14, .aaload, 1, []), (15, .ifnull 19, 3, []), (18, .aload_n 0, 1, []), (19, .getfield 11, 3, [6, 3, 0]), (22, .iload_n 3, 1, []), (23, .aaload, 1, []), (24, .aload_n 1, 1, []), (25, .invokevirtual 48, 3, [17, 0]), (28, .ifCond .eq 6, 3, []), (31, .iinc 2 1, 3, []), (34, .iinc 3 1, 3, []), (37, .goto (-33), 3, []), (40, .iload_n 2, 1, []), (41, .ireturn, 1, [])]
def tb_X6_finish : List pm_R := [(0, .aload_n 0, 1, []), (1, .iconst 1, 1, []), (2, .putfield 21, 3, [6, 5, 0]), (5, .aload_n 0, 1, []), (6, .aload_n 1, 1, []), (7, .getfield 52, 3, [2, 5, 1]), (10, .putfield 25, 3, [6, 6, 0]), (13, .aload_n 0, 1, []), (14, .aload_n 1, 1, []), (15, .getfield 53, 3, [2, 3, 1]), (18, .putfield 29, 3, [6, 7, 0]), (21, .return_, 1, [])]
def tb_X6_tell : List pm_R := [(0, .iload_n 1, 1, []), (1, .tableswitch 59 0 3 #[31, 44, 49, 54], 31, []), (32, .aload_n 0, 1, []), (33, .getfield 21, 3, [6, 5, 0]), (36, .ifCond .eq 7, 3, []), (39, .iconst 2, 1, []), (40, .goto 4, 3, []), (43, .iconst 1, 1, []), (44, .ireturn, 1, []), (45, .aload_n 0, 1, []), (46, .getfield 25, 3, [6, 6, 0]), (49, .ireturn, 1, []), (50, .aload_n 0, 1, []), (51, .getfield 29, 3, [6, 7, 0]), (54, .ireturn, 1, []), (55, .aload_n 0, 1, []), (56, .invokevirtual 54, 3, [53, 0]), (59, .ireturn, 1, []), (60, .aload_n 0, 1, []), (61, .getfield 17, 3, [6, 4, 0]), (64, .ifnull 7, 3, []), (67, .iconst 1, 1, []), (68, .goto 4, 3, []), (71, .iconst 0, 1, []), (72, .ireturn, 1, [])]
def tb_X6_countReplies : List pm_R := [(0, .iconst 0, 1, []), (1, .istore_n 1, 1, []), (2, .iconst 0, 1, []), (3, .istore_n 2, 1, []), (4, .iload_n 2, 1, []), (5, .iconst 4, 1, []), (6, .if_icmp .ge 21, 3, []), (9, .aload_n 0, 1, []), (10, .getfield 11, 3, [6, 3, 0]), (13, .iload_n 2, 1, []), (14, .aaload, 1, []), (15, .ifnull 6, 3, []), (18, .iinc 1 1, 3, []), (21, .iinc 2 1, 3, []), (24, .goto (-20), 3, []), (27, .iload_n 1, 1, []), (28, .ireturn, 1, [])]
def tb_X7_init : List pm_R := [(0, .aload_n 0, 1, []), (1, .invokespecial 1, 3, [0, 6]), (4, .bipush 12, 2, []), (6, .anewarray 9, 3, [6]), (9, .astore_n 2, 1, []), (10, .new 11, 3, [4]), (13, .dup, 1, []), (14, .invokespecial 13, 3, [20, 3]), (17, .astore_n 3, 1, []), (18, .aload_n 0, 1, []), (19, .iload_n 1, 1, []), (20, .invokestatic 14, 3, [69, 4]), (23, .ifCond .eq 7, 3, []), (26, .iload_n 1, 1, []), (27, .goto 4, 3, []), (30, .iconst (-1), 1, []), (31, .putfield 18, 3, [7, 0, 2]), (34, .aload_n 0, 1, []), (35, .aload_n 3, 1, []), (36, .putfield 22, 3, [7, 1, 2]), (39, .aload_n 0, 1, []), (40, .new 26, 3, [0]), (43, .dup, 1, []), (44, .aload_n 2, 1, []), (45, .aload_n 3, 1, []), (46, .invokespecial 28, 3, [0, 2]), (49, .putfield 31, 3, [7, 2, 2]), (52, .aload_n 0, 1, []), (53, .iconst 4, 1, []), (54, .anewarray 35, 3, [5]), (57, .putfield 37, 3, [7, 3, 2]), (60, .iconst 0, 1, []), (61, .istore 4, 2, []), (63, .iload 4, 2, []), (65, .iconst 4, 1, []), (66, .if_icmp .ge 27, 3, []), (69, .aload_n 0, 1, []), (70, .getfield 37, 3, [7, 3, 0]), (73, .iload 4, 2, []), (75, .new 35, 3, [5]), (78, .dup, 1, []), (79, .iload 4, 2, []), (81, .aload_n 2, 1, []), (82, .aload_n 3, 1, []), (83, .invokespecial 41, 3, [24, 2]), (86, .aastore, 1, []), (87, .iinc 4 1, 3, []), (90, .goto (-27), 3, []), (93, .return_, 1, [])]
def tb_X7_issue : List pm_R := [(0, .iload_n 1, 1, []), (1, .ifCond .lt 17, 3, []), (4, .iload_n 1, 1, []), (5, .iconst 2, 1, []), (6, .if_icmp .gt 12, 3, []), (9, .iload_n 2, 1, []), (10, .ifCond .lt 8, 3, []), (13, .iload_n 2, 1, []), (14, .iconst 4, 1, []), (15, .if_icmp .lt 13, 3, []), (18, .new 44, 3, [101]), (28, .aload_n 0, 1, []), (29, .getfield 31, 3, [7, 2, 0]), (32, .getfield 51, 3, [0, 3, 1]), (35, .bipush 12, 2, []), (37, .if_icmp .lt 13, 3, []), (40, .new 54, 3, [102]), (50, .aload_n 0, 1, []), (51, .getfield 31, 3, [7, 2, 0]), (54, .new 9, 3, [6]), (57, .dup, 1, []), (58, .iload_n 1, 1, []), (59, .iload_n 2, 1, []), (60, .iload_n 3, 1, []), (61, .invokespecial 59, 3, [46, 2]), (64, .invokevirtual 62, 3, [2, 0]), (67, .ireturn, 1, [])]
def tb_X7_retry : List pm_R := [(0, .aload_n 0, 1, []), (1, .getfield 31, 3, [7, 2, 0]), (4, .iload_n 1, 1, []), (5, .invokevirtual 66, 3, [1, 0]), (8, .astore_n 2, 1, []), (9, .aload_n 2, 1, []), (10, .ifnonnull 13, 3, []), (13, .new 70, 3, [103]), (23, .aload_n 0, 1, []), (24, .getfield 31, 3, [7, 2, 0]), (27, .iload_n 1, 1, []), (28, .aload_n 2, 1, []), (29, .invokevirtual 75, 3, [3, 0]), (32, .ireturn, 1, [])]
def tb_X7_deliver : List pm_R := [(0, .aload_n 0, 1, []), (1, .iload_n 1, 1, []), (2, .invokevirtual 79, 3, [68, 0]), (5, .ireturn, 1, [])]
def tb_X7_flood : List pm_R := [(0, .iload_n 1, 1, []), (1, .ifCond .ge 13, 3, []), (4, .new 44, 3, [101]), (14, .iconst 0, 1, []), (15, .istore_n 2, 1, []), (16, .iload_n 1, 1, []), (17, .istore_n 3, 1, []), (18, .iload_n 3, 1, []), (19, .sipush 600, 3, []), (22, .if_icmp .ge 31, 3, []), (25, .iload_n 3, 1, []), (26, .aload_n 0, 1, []), (27, .getfield 22, 3, [7, 1, 0]), (30, .getfield 84, 3, [4, 1, 1]), (33, .if_icmp .ge 20, 3, []), (36, .aload_n 0, 1, []), (37, .iload_n 3, 1, []), (38, .invokevirtual 79, 3, [68, 0]), (41, .ifCond .eq 6, 3, []), (44, .iinc 2 1, 3, []), (47, .iinc 3 1, 3, []), (50, .goto (-32), 3, []), (53, .iload_n 2, 1, []), (54, .ireturn, 1, [])]
def tb_X7_lose : List pm_R := [(0, .aload_n 0, 1, []), (1, .getfield 22, 3, [7, 1, 0]), (4, .iload_n 1, 1, []), (5, .invokevirtual 85, 3, [23, 0]), (8, .astore_n 2, 1, []), (9, .aload_n 2, 1, []), (10, .ifnull 10, 3, []), (13, .aload_n 2, 1, []), (14, .getfield 88, 3, [3, 3, 1]), (17, .ifCond .eq 5, 3, []), (20, .iconst 0, 1, []), (21, .ireturn, 1, []), (22, .aload_n 2, 1, []), (23, .iconst 2, 1, []), (24, .putfield 88, 3, [3, 3, 1]), (27, .iconst 1, 1, []), (28, .ireturn, 1, [])]
def tb_X7_patience : List pm_R := [(0, .iload_n 1, 1, []), (1, .invokestatic 14, 3, [69, 4]), (4, .ifCond .ne 13, 3, []), (7, .new 44, 3, [101]), (17, .iload_n 1, 1, []), (18, .aload_n 0, 1, []), (19, .getfield 18, 3, [7, 0, 0]), (22, .if_icmp .eq 19, 3, []), (25, .aload_n 0, 1, []), (26, .getfield 37, 3, [7, 3, 0]), (29, .iload_n 1, 1, []), (30, .aaload, 1, []), (31, .invokevirtual 95, 3, [28, 0]), (34, .ifCond .eq 7, 3, []), (37, .iconst 1, 1, []), (38, .goto 4, 3, []), (41, .iconst 0, 1, []), (42, .ireturn, 1, [])]
def tb_X7_lie : List pm_R := [(0, .iload_n 1, 1, []), (1, .invokestatic 14, 3, [69, 4]), (4, .ifCond .eq 22, 3, []), (7, .iload_n 1, 1, []), (8, .aload_n 0, 1, []), (9, .getfield 18, 3, [7, 0, 0]), (12, .if_icmp .eq 14, 3, []), (15, .aload_n 0, 1, []), (16, .getfield 31, 3, [7, 2, 0]), (19, .iload_n 2, 1, []), (20, .invokevirtual 66, 3, [1, 0]), (23, .ifnonnull 13, 3, []), (26, .new 44, 3, [101]), (36, .aload_n 0, 1, []), (37, .getfield 37, 3, [7, 3, 0]), (40, .iload_n 1, 1, []), (41, .aaload, 1, []), (42, .astore_n 3, 1, []), (43, .aload_n 0, 1, []), (44, .getfield 18, 3, [7, 0, 0]), (47, .iconst (-1), 1, []), (48, .if_icmp .eq 17, 3, []), (51, .aload_n 3, 1, []), (52, .getfield 101, 3, [5, 7, 1]), (55, .invokestatic 104, 3, [70, 4]), (58, .aload_n 0, 1, []), (59, .getfield 18, 3, [7, 0, 0]), (62, .if_icmp .eq 5, 3, []), (65, .iconst 0, 1, []), (66, .ireturn, 1, []), (67, .aload_n 3, 1, []), (68, .getfield 108, 3, [5, 3, 1]), (71, .getfield 112, 3, [1, 1, 1]), (74, .istore 4, 2, []), (76, .aload_n 3, 1, []), (77, .aload_n 0, 1, []), (78, .getfield 18, 3, [7, 0, 0]), (81, .aload_n 3, 1, []), (82, .iload_n 2, 1, []), (83, .invokevirtual 117, 3, [26, 0]), (86, .invokevirtual 121, 3, [27, 0]), (89, .aload_n 3, 1, []), (90, .getfield 108, 3, [5, 3, 1]), (93, .getfield 112, 3, [1, 1, 1]), (96, .iload 4, 2, []), (98, .if_icmp .le 7, 3, []), (101, .iconst 1, 1, []), (102, .goto 4, 3, []), (105, .iconst 0, 1, []), (106, .ireturn, 1, [])]
def tb_X7_echo : List pm_R := [(0, .aload_n 0, 1, []), (1, .getfield 31, 3, [7, 2, 0]), (4, .iload_n 2, 1, []), (5, .invokevirtual 66, 3, [1, 0]), (8, .astore_n 3, 1, []), (9, .iload_n 1, 1, []), (10, .invokestatic 14, 3, [69, 4]), (13, .ifCond .eq 15, 3, []), (16, .iload_n 1, 1, []), (17, .aload_n 0, 1, []), (18, .getfield 18, 3, [7, 0, 0]), (21, .if_icmp .eq 7, 3, []), (24, .aload_n 3, 1, []), (25, .ifnonnull 13, 3, []), (28, .new 44, 3, [101]), (38, .aload_n 3, 1, []), (39, .getfield 125, 3, [6, 3, 1]), (42, .iload_n 1, 1, []), (43, .aaload, 1, []), (44, .astore 4, 2, []), (46, .aload_n 0, 1, []), (47, .getfield 18, 3, [7, 0, 0]), (50, .iconst (-1), 1, []), (51, .if_icmp .eq 8, 3, []), (54, .aload 4, 2, []), (56, .ifnonnull 5, 3, []), (59, .iconst 0, 1, []), (60, .ireturn, 1, []), (61, .aload_n 0, 1, []), (62, .getfield 31, 3, [7, 2, 0]), (65, .aload_n 0, 1, []), (66, .getfield 18, 3, [7, 0, 0]), (69, .aload 4, 2, []), (71, .invokevirtual 129, 3, [4, 0]), (74, .iconst 1, 1, []), (75, .ireturn, 1, [])]
def tb_X7_replica : List pm_R := [(0, .iload_n 2, 1, []), (1, .ifCond .lt 13, 3, []), (4, .iload_n 2, 1, []), (5, .bipush 6, 2, []), (7, .if_icmp .gt 7, 3, []), (10, .iconst 1, 1, []), (11, .goto 4, 3, []), (14, .iconst 0, 1, []), (15, .istore_n 3, 1, []), (16, .iload_n 2, 1, []), (17, .bipush 10, 2, []), (19, .if_icmp .lt 13, 3, []), (22, .iload_n 2, 1, []), (23, .bipush 22, 2, []), (25, .if_icmp .ge 7, 3, []), (28, .iconst 1, 1, []), (29, .goto 4, 3, []), (32, .iconst 0, 1, []), (33, .istore 4, 2, []), (35, .iload_n 2, 1, []), (36, .bipush 30, 2, []), (38, .if_icmp .lt 13, 3, []), (41, .iload_n 2, 1, []), (42, .bipush 34, 2, []), (44, .if_icmp .ge 7, 3, []), (47, .iconst 1, 1, []), (48, .goto 4, 3, []), (51, .iconst 0, 1, []), (52, .istore 5, 2, []), (54, .iload_n 1, 1, []), (55, .invokestatic 14, 3, [69, 4]), (58, .ifCond .eq 17, 3, []), (61, .iload_n 3, 1, []), (62, .ifCond .ne 23, 3, []), (65, .iload 4, 2, []), (67, .ifCond .ne 18, 3, []), (70, .iload 5, 2, []), (72, .ifCond .ne 13, 3, []), (75, .new 44, 3, [101]), (85, .aload_n 0, 1, []), (86, .getfield 37, 3, [7, 3, 0]), (89, .iload_n 1, 1, []), (90, .aaload, 1, []), (91, .astore 6, 2, []), (93, .iload 5, 2, []), (95, .ifCond .eq 14, 3, []), (98, .aload 6, 2, []), (100, .getfield 132, 3, [5, 4, 1]), (103, .iload_n 2, 1, []), (104, .bipush 30, 2, []), (106, .isub, 1, []), (107, .iaload, 1, []), (108, .ireturn, 1, []), (109, .iload 4, 2, []), (111, .ifCond .eq 18, 3, []), (114, .aload 6, 2, []), (116, .getfield 108, 3, [5, 3, 1]), (119, .iload_n 2, 1, []), (120, .bipush 10, 2, []), (122, .isub, 1, []), (123, .invokevirtual 136, 3, [9, 0]), (126, .goto 9, 3, []), (129, .aload 6, 2, []), (131, .iload_n 2, 1, []), (132, .invokevirtual 139, 3, [25, 0]), (135, .ireturn, 1, [])]
def tb_X7_messages : List pm_R := [(0, .aload_n 0, 1, []), (1, .getfield 22, 3, [7, 1, 0]), (4, .getfield 84, 3, [4, 1, 1]), (7, .ireturn, 1, [])]
def tb_X7_message : List pm_R := [(0, .aload_n 0, 1, []), (1, .getfield 22, 3, [7, 1, 0]), (4, .iload_n 1, 1, []), (5, .invokevirtual 85, 3, [23, 0]), (8, .astore_n 3, 1, []), (9, .aload_n 3, 1, []), (10, .ifnull 13, 3, []), (13, .iload_n 2, 1, []), (14, .ifCond .lt 9, 3, []), (17, .iload_n 2, 1, []), (18, .bipush 6, 2, []), (20, .if_icmp .le 13, 3, []), (23, .new 70, 3, [103]), (33, .aload_n 3, 1, []), (34, .iload_n 2, 1, []), (35, .invokevirtual 144, 3, [19, 0]), (38, .ireturn, 1, [])]
def tb_X7_request : List pm_R := [(0, .aload_n 0, 1, []), (1, .getfield 31, 3, [7, 2, 0]), (4, .iload_n 1, 1, []), (5, .invokevirtual 66, 3, [1, 0]), (8, .astore_n 3, 1, []), (9, .aload_n 3, 1, []), (10, .ifnull 12, 3, []), (13, .iload_n 2, 1, []), (14, .ifCond .lt 8, 3, []), (17, .iload_n 2, 1, []), (18, .iconst 4, 1, []), (19, .if_icmp .le 13, 3, []), (22, .new 70, 3, [103]), (32, .aload_n 3, 1, []), (33, .iload_n 2, 1, []), (34, .invokevirtual 147, 3, [52, 0]), (37, .ireturn, 1, [])]
def tb_X7_view : List pm_R := [(0, .aload_n 0, 1, []), (1, .getfield 31, 3, [7, 2, 0]), (4, .getfield 148, 3, [0, 4, 1]), (7, .ireturn, 1, [])]
def tb_X7_handOver : List pm_R := [(0, .aload_n 0, 1, []), (1, .getfield 22, 3, [7, 1, 0]), (4, .iload_n 1, 1, []), (5, .invokevirtual 85, 3, [23, 0]), (8, .astore_n 2, 1, []), (9, .aload_n 2, 1, []), (10, .ifnull 10, 3, []), (13, .aload_n 2, 1, []), (14, .getfield 88, 3, [3, 3, 1]), (17, .ifCond .eq 5, 3, []), (20, .iconst 0, 1, []), (21, .ireturn, 1, []), (22, .aload_n 2, 1, []), (23, .iconst 1, 1, []), (24, .putfield 88, 3, [3, 3, 1]), (27, .aload_n 2, 1, []), (28, .getfield 149, 3, [3, 1, 1]), (31, .iconst 4, 1, []), (32, .if_icmp .ne 21, 3, []), (35, .aload_n 0, 1, []), (36, .getfield 31, 3, [7, 2, 0]), (39, .aload_n 2, 1, []), (40, .getfield 152, 3, [3, 0, 1]), (43, .aload_n 2, 1, []), (44, .getfield 155, 3, [3, 2, 1]), (47, .invokevirtual 129, 3, [4, 0]), (50, .goto 44, 3, []), (53, .aload_n 2, 1, []), (54, .getfield 149, 3, [3, 1, 1]), (57, .invokestatic 14, 3, [69, 4]), (60, .ifCond .eq 34, 3, []), (63, .aload_n 2, 1, []), (64, .getfield 149, 3, [3, 1, 1]), (67, .aload_n 0, 1, []), (68, .getfield 18, 3, [7, 0, 0]), (71, .if_icmp .eq 23, 3, []), (74, .aload_n 0, 1, []), (75, .getfield 37, 3, [7, 3, 0]), (78, .aload_n 2, 1, []), (79, .getfield 149, 3, [3, 1, 1]), (82, .aaload, 1, []), (83, .aload_n 2, 1, []), (84, .getfield 152, 3, [3, 0, 1]), (87, .aload_n 2, 1, []), (88, .getfield 155, 3, [3, 2, 1]), (91, .invokevirtual 121, 3, [27, 0]), (94, .iconst 1, 1, []), (95, .ireturn, 1, [])]
def tb_X7_isReplica : List pm_R := [(0, .iload_n 0, 1, []), (1, .ifCond .lt 12, 3, []), (4, .iload_n 0, 1, []), (5, .iconst 4, 1, []), (6, .if_icmp .ge 7, 3, []), (9, .iconst 1, 1, []), (10, .goto 4, 3, []), (13, .iconst 0, 1, []), (14, .ireturn, 1, [])]
def tb_X7_primaryOf : List pm_R := [(0, .iload_n 0, 1, []), (1, .iconst 4, 1, []), (2, .irem, 1, []), (3, .ireturn, 1, [])]
def tb_X7_askFor : List pm_R := [(0, .new 159, 3, [2]), (3, .dup, 1, []), (4, .iconst 0, 1, []), (5, .iconst 0, 1, []), (6, .iload_n 0, 1, []), (7, .iconst 0, 1, []), (8, .iconst 0, 1, []), (9, .iconst 0, 1, []), (10, .aconst_null, 1, []), (11, .invokespecial 161, 3, [15, 2]), (14, .areturn, 1, [])]
def tb_X8_init : List pm_R := [(0, .aload_n 0, 1, []), (1, .invokespecial 1, 3, [0, 6]), (4, .aload_n 0, 1, []), (5, .bipush 12, 2, []), (7, .newarray .int, 2, [0]), (9, .putfield 7, 3, [8, 3, 0]), (12, .aload_n 0, 1, []), (13, .bipush 12, 2, []), (15, .newarray .int, 2, [0]), (17, .putfield 13, 3, [8, 4, 0]), (20, .aload_n 0, 1, []), (21, .bipush 12, 2, []), (23, .newarray .int, 2, [0]), (25, .putfield 16, 3, [8, 5, 0]), (28, .aload_n 0, 1, []), (29, .iconst 4, 1, []), (30, .newarray .int, 2, [0]), (32, .putfield 19, 3, [8, 6, 0]), (35, .aload_n 0, 1, []), (36, .iconst 4, 1, []), (37, .newarray .int, 2, [0]), (39, .putfield 22, 3, [8, 7, 0]), (42, .aload_n 0, 1, []), (43, .iconst 4, 1, []), (44, .newarray .long, 2, [1]), (46, .putfield 25, 3, [8, 8, 0]), (49, .aload_n 0, 1, []), (50, .iconst 4, 1, []), (51, .newarray .int, 2, [0]), (53, .putfield 29, 3, [8, 9, 0]), (56, .aload_n 0, 1, []), (57, .iconst 4, 1, []), (58, .newarray .boolean, 2, [2]), (60, .putfield 32, 3, [8, 10, 0]), (63, .aload_n 0, 1, []), (64, .iconst 4, 1, []), (65, .newarray .int, 2, [0]), (67, .putfield 36, 3, [8, 11, 0]), (70, .aload_n 0, 1, []), (71, .iconst 4, 1, []), (72, .newarray .int, 2, [0]), (74, .putfield 39, 3, [8, 12, 0]), (77, .aload_n 0, 1, []), (78, .bipush 16, 2, []), (80, .newarray .int, 2, [0]), (82, .putfield 42, 3, [8, 13, 0]), (85, .aload_n 0, 1, []), (86, .bipush 16, 2, []), (88, .newarray .int, 2, [0]), (90, .putfield 45, 3, [8, 14, 0]), (93, .aload_n 0, 1, []), (94, .bipush 16, 2, []), (96, .newarray .long, 2, [1]), (98, .putfield 48, 3, [8, 15, 0]), (101, .aload_n 0, 1, []), (102, .bipush 16, 2, []), (104, .newarray .int, 2, [0]), (106, .putfield 51, 3, [8, 16, 0]), (109, .aload_n 0, 1, []), (110, .sipush 600, 3, []), (113, .newarray .int, 2, [0]), (115, .putfield 54, 3, [8, 18, 0]), (118, .aload_n 0, 1, []), (119, .sipush 600, 3, []), (122, .newarray .int, 2, [0]), (124, .putfield 57, 3, [8, 19, 0]), (127, .aload_n 0, 1, []), (128, .sipush 600, 3, []), (131, .newarray .int, 2, [0]), (133, .putfield 60, 3, [8, 20, 0]), (136, .aload_n 0, 1, []), (137, .sipush 600, 3, []), (140, .newarray .int, 2, [0]), (142, .putfield 63, 3, [8, 21, 0]), (145, .aload_n 0, 1, []), (146, .sipush 600, 3, []), (149, .newarray .int, 2, [0]), (151, .putfield 66, 3, [8, 22, 0]), (154, .aload_n 0, 1, []), (155, .sipush 600, 3, []), (158, .newarray .int, 2, [0]), (160, .putfield 69, 3, [8, 23, 0]), (163, .aload_n 0, 1, []), (164, .sipush 600, 3, []), (167, .newarray .int, 2, [0]), (169, .putfield 72, 3, [8, 24, 0]), (172, .aload_n 0, 1, []), (173, .sipush 600, 3, []), (176, .newarray .int, 2, [0]), (178, .putfield 75, 3, [8, 25, 0]), (181, .aload_n 0, 1, []), (182, .sipush 600, 3, []), (185, .newarray .int, 2, [0]), (187, .putfield 78, 3, [8, 26, 0]), (190, .aload_n 0, 1, []), (191, .sipush 600, 3, []), (194, .newarray .long, 2, [1]), (196, .putfield 81, 3, [8, 27, 0]), (199, .aload_n 0, 1, []), (200, .sipush 600, 3, []), (203, .newarray .int, 2, [0]), (205, .putfield 84, 3, [8, 28, 0]), (208, .aload_n 0, 1, []), (209, .bipush 48, 2, []), (211, .newarray .int, 2, [0]), (213, .putfield 87, 3, [8, 30, 0]), (216, .aload_n 0, 1, []), (217, .bipush 48, 2, []), (219, .newarray .int, 2, [0]), (221, .putfield 90, 3, [8, 31, 0]), (224, .aload_n 0, 1, []), (225, .bipush 48, 2, []), (227, .newarray .int, 2, [0]), (229, .putfield 93, 3, [8, 32, 0]), (232, .aload_n 0, 1, []), (233, .bipush 48, 2, []), (235, .newarray .int, 2, [0]), (237, .putfield 96, 3, [8, 33, 0]), (240, .aload_n 0, 1, []), (241, .iconst 4, 1, []), (242, .newarray .int, 2, [0]), (244, .putfield 99, 3, [8, 34, 0]), (247, .aload_n 0, 1, []), (248, .iconst 4, 1, []), (249, .newarray .int, 2, [0]), (251, .putfield 102, 3, [8, 35, 0]), (254, .aload_n 0, 1, []), (255, .iconst 4, 1, []), (256, .newarray .int, 2, [0]), (258, .putfield 105, 3, [8, 36, 0]), (261, .aload_n 0, 1, []), (262, .bipush 12, 2, []), (264, .newarray .boolean, 2, [2]), (266, .putfield 108, 3, [8, 37, 0]), (269, .aload_n 0, 1, []), (270, .bipush 12, 2, []), (272, .newarray .int, 2, [0]), (274, .putfield 111, 3, [8, 38, 0]), (277, .aload_n 0, 1, []), (278, .bipush 12, 2, []), (280, .newarray .int, 2, [0]), (282, .putfield 114, 3, [8, 39, 0]), (285, .aload_n 0, 1, []), (286, .bipush 12, 2, []), (288, .newarray .int, 2, [0]), (290, .putfield 117, 3, [8, 40, 0]), (293, .aload_n 0, 1, []), (294, .bipush 12, 2, []), (296, .newarray .int, 2, [0]), (298, .putfield 120, 3, [8, 41, 0]), (301, .aload_n 0, 1, []), (302, .bipush 12, 2, []), (304, .newarray .boolean, 2, [2]), (306, .putfield 123, 3, [8, 42, 0]), (309, .aload_n 0, 1, []), (310, .bipush 12, 2, []), (312, .newarray .int, 2, [0]), (314, .putfield 126, 3, [8, 43, 0]), (317, .aload_n 0, 1, []), (318, .bipush 12, 2, []), (320, .newarray .int, 2, [0]), (322, .putfield 129, 3, [8, 44, 0]), (325, .aload_n 0, 1, []), (326, .iconst 4, 1, []), (327, .newarray .int, 2, [0]), (329, .putfield 132, 3, [8, 45, 0]), (332, .aload_n 0, 1, []), (333, .iload_n 1, 1, []), (334, .ifCond .lt 12, 3, []), (337, .iload_n 1, 1, []), (338, .iconst 3, 1, []), (339, .if_icmp .gt 7, 3, []), (342, .iload_n 1, 1, []), (343, .goto 4, 3, []), (346, .iconst (-1), 1, []), (347, .putfield 135, 3, [8, 1, 0]), (350, .iconst 0, 1, []), (351, .istore_n 2, 1, []), (352, .iload_n 2, 1, []), (353, .bipush 16, 2, []), (355, .if_icmp .ge 16, 3, []), (358, .aload_n 0, 1, []), (359, .getfield 42, 3, [8, 13, 0]), (362, .iload_n 2, 1, []), (363, .iconst (-1), 1, []), (364, .iastore, 1, []), (365, .iinc 2 1, 3, []), (368, .goto (-16), 3, []), (371, .iconst 0, 1, []), (372, .istore_n 2, 1, []), (373, .iload_n 2, 1, []), (374, .bipush 48, 2, []), (376, .if_icmp .ge 16, 3, []), (379, .aload_n 0, 1, []), (380, .getfield 87, 3, [8, 30, 0]), (383, .iload_n 2, 1, []), (384, .iconst (-1), 1, []), (385, .iastore, 1, []), (386, .iinc 2 1, 3, []), (389, .goto (-16), 3, []), (392, .iconst 0, 1, []), (393, .istore_n 2, 1, []), (394, .iload_n 2, 1, []), (395, .iconst 4, 1, []), (396, .if_icmp .ge 16, 3, []), (399, .aload_n 0, 1, []), (400, .getfield 99, 3, [8, 34, 0]), (403, .iload_n 2, 1, []), (404, .iconst (-1), 1, []), (405, .iastore, 1, []), (406, .iinc 2 1, 3, []), (409, .goto (-15), 3, []), (412, .return_, 1, [])]
def tb_X8_thrown : List pm_R := [(0, .aload_n 0, 1, []), (1, .getfield 139, 3, [8, 0, 0]), (4, .ireturn, 1, [])]
def tb_X8_refuse : List pm_R := [(0, .aload_n 0, 1, []), (1, .iload_n 1, 1, []), (2, .putfield 139, 3, [8, 0, 0]), (5, .iconst 0, 1, []), (6, .ireturn, 1, [])]
def tb_X8_at : List pm_R := [(0, .lload_n 0, 1, []), (1, .iconst 4, 1, []), (2, .iload_n 2, 1, []), (3, .imul, 1, []), (4, .lshr, 1, []), (5, .ldc2_w 142, 3, [15]), (8, .land, 1, []), (9, .l2i, 1, []), (10, .ireturn, 1, [])]
def tb_X8_with : List pm_R := [(0, .lload_n 0, 1, []), (1, .lconst 1, 1, []), (2, .iconst 4, 1, []), (3, .iload_n 2, 1, []), (4, .imul, 1, []), (5, .lshl, 1, []), (6, .lconst 1, 1, []), (7, .lsub, 1, []), (8, .land, 1, []), (9, .iload_n 3, 1, []), (10, .i2l, 1, []), (11, .iconst 4, 1, []), (12, .iload_n 2, 1, []), (13, .imul, 1, []), (14, .lshl, 1, []), (15, .lor, 1, []), (16, .lreturn, 1, [])]
def tb_X8_begin : List pm_R := [(0, .lload_n 0, 1, []), (1, .lconst 1, 1, []), (2, .iconst 4, 1, []), (3, .iload_n 2, 1, []), (4, .imul, 1, []), (5, .lshl, 1, []), (6, .lconst 1, 1, []), (7, .lsub, 1, []), (8, .land, 1, []), (9, .lreturn, 1, [])]
def tb_X8_digestOf : List pm_R := [(0, .bipush 7, 2, []), (2, .istore_n 3, 1, []), (3, .iconst 0, 1, []), (4, .istore 4, 2, []), (6, .iload 4, 2, []), (8, .iload_n 2, 1, []), (9, .if_icmp .ge 23, 3, []), (12, .bipush 31, 2, []), (14, .iload_n 3, 1, []), (15, .imul, 1, []), (16, .lload_n 0, 1, []), (17, .iload 4, 2, []), (19, .invokestatic 144, 3, [75, 4]), (22, .iadd, 1, []), (23, .iconst 1, 1, []), (24, .iadd, 1, []), (25, .istore_n 3, 1, []), (26, .iinc 4 1, 3, []), (29, .goto (-23), 3, []), (32, .iload_n 3, 1, []), (33, .ireturn, 1, [])]
def tb_X8_placeIn : List pm_R := [(0, .iconst 0, 1, []), (1, .istore 4, 2, []), (3, .iconst 0, 1, []), (4, .istore 5, 2, []), (6, .iload 5, 2, []), (8, .iload_n 2, 1, []), (9, .if_icmp .ge 30, 3, []), (12, .lload_n 0, 1, []), (13, .iload 5, 2, []), (15, .invokestatic 144, 3, [75, 4]), (18, .iload_n 3, 1, []), (19, .if_icmp .ne 10, 3, []), (22, .iload 5, 2, []), (24, .iconst 1, 1, []), (25, .iadd, 1, []), (26, .goto 5, 3, []), (29, .iload 4, 2, []), (31, .istore 4, 2, []), (33, .iinc 5 1, 3, []), (36, .goto (-30), 3, []), (39, .iload 4, 2, []), (41, .ireturn, 1, [])]
def tb_X8_work : List pm_R := [(0, .iconst 0, 1, []), (1, .istore 4, 2, []), (3, .iload 4, 2, []), (5, .iconst 4, 1, []), (6, .if_icmp .ge 17, 3, []), (9, .aload_n 0, 1, []), (10, .getfield 132, 3, [8, 45, 0]), (13, .iload 4, 2, []), (15, .iconst 0, 1, []), (16, .iastore, 1, []), (17, .iinc 4 1, 3, []), (20, .goto (-17), 3, []), (23, .iconst 0, 1, []), (24, .istore 4, 2, []), (26, .iconst 0, 1, []), (27, .istore 5, 2, []), (29, .iload 5, 2, []), (31, .iload_n 3, 1, []), (32, .if_icmp .ge 122, 3, []), (35, .lload_n 1, 1, []), (36, .iload 5, 2, []), (38, .invokestatic 144, 3, [75, 4]), (41, .istore 6, 2, []), (43, .aload_n 0, 1, []), (44, .getfield 132, 3, [8, 45, 0]), (47, .aload_n 0, 1, []), (48, .getfield 13, 3, [8, 4, 0]), (51, .iload 6, 2, []), (53, .iaload, 1, []), (54, .iaload, 1, []), (55, .istore 7, 2, []), (57, .aload_n 0, 1, []), (58, .getfield 7, 3, [8, 3, 0]), (61, .iload 6, 2, []), (63, .iaload, 1, []), (64, .ifCond .ne 22, 3, []), (67, .aload_n 0, 1, []), (68, .getfield 132, 3, [8, 45, 0]), (71, .aload_n 0, 1, []), (72, .getfield 13, 3, [8, 4, 0]), (75, .iload 6, 2, []), (77, .iaload, 1, []), (78, .aload_n 0, 1, []), (79, .getfield 16, 3, [8, 5, 0]), (82, .iload 6, 2, []), (84, .iaload, 1, []), (85, .iastore, 1, []), (86, .aload_n 0, 1, []), (87, .getfield 7, 3, [8, 3, 0]), (90, .iload 6, 2, []), (92, .iaload, 1, []), (93, .iconst 1, 1, []), (94, .if_icmp .ne 25, 3, []), (97, .aload_n 0, 1, []), (98, .getfield 132, 3, [8, 45, 0]), (101, .aload_n 0, 1, []), (102, .getfield 13, 3, [8, 4, 0]), (105, .iload 6, 2, []), (107, .iaload, 1, []), (108, .iload 7, 2, []), (110, .aload_n 0, 1, []), (111, .getfield 16, 3, [8, 5, 0]), (114, .iload 6, 2, []), (116, .iaload, 1, []), (117, .iadd, 1, []), (118, .iastore, 1, []), (119, .aload_n 0, 1, []), (120, .getfield 7, 3, [8, 3, 0]), (123, .iload 6, 2, []), (125, .iaload, 1, []), (126, .ifCond .ne 8, 3, []), (129, .iload 7, 2, []), (131, .goto 15, 3, []), (134, .aload_n 0, 1, []), (135, .getfield 132, 3, [8, 45, 0]), (138, .aload_n 0, 1, []), (139, .getfield 13, 3, [8, 4, 0]), (142, .iload 6, 2, []), (144, .iaload, 1, []), (145, .iaload, 1, []), (146, .istore 4, 2, []), (148, .iinc 5 1, 3, []), (151, .goto (-122), 3, []), (154, .iload 4, 2, []), (156, .ireturn, 1, [])]
def tb_X8_send : List pm_R := [(0, .aload_n 0, 1, []), (1, .getfield 148, 3, [8, 17, 0]), (4, .sipush 600, 3, []), (7, .if_icmp .ne 5, 3, []), (10, .iconst (-1), 1, []), (11, .ireturn, 1, []), (12, .aload_n 0, 1, []), (13, .getfield 148, 3, [8, 17, 0]), (16, .istore 8, 2, []), (18, .aload_n 0, 1, []), (19, .getfield 54, 3, [8, 18, 0]), (22, .iload 8, 2, []), (24, .iload_n 1, 1, []), (25, .iastore, 1, []), (26, .aload_n 0, 1, []), (27, .getfield 57, 3, [8, 19, 0]), (30, .iload 8, 2, []), (32, .iload_n 2, 1, []), (33, .iastore, 1, []), (34, .aload_n 0, 1, []), (35, .getfield 60, 3, [8, 20, 0]), (38, .iload 8, 2, []), (40, .iload_n 3, 1, []), (41, .iastore, 1, []), (42, .aload_n 0, 1, []), (43, .getfield 63, 3, [8, 21, 0]), (46, .iload 8, 2, []), (48, .iload 4, 2, []), (50, .iastore, 1, []), (51, .aload_n 0, 1, []), (52, .getfield 69, 3, [8, 23, 0]), (55, .iload 8, 2, []), (57, .iload 5, 2, []), (59, .iastore, 1, []), (60, .aload_n 0, 1, []), (61, .getfield 66, 3, [8, 22, 0]), (64, .iload 8, 2, []), (66, .iload 6, 2, []), (68, .iastore, 1, []), (69, .aload_n 0, 1, []), (70, .getfield 72, 3, [8, 24, 0]), (73, .iload 8, 2, []), (75, .iload 7, 2, []), (77, .iastore, 1, []), (78, .aload_n 0, 1, []), (79, .dup, 1, []), (80, .getfield 148, 3, [8, 17, 0]), (83, .iconst 1, 1, []), (84, .iadd, 1, []), (85, .putfield 148, 3, [8, 17, 0]), (88, .iload 8, 2, []), (90, .ireturn, 1, [])]
def tb_X8_sendToAll : List pm_R := [(0, .iconst 0, 1, []), (1, .istore 7, 2, []), (3, .iload 7, 2, []), (5, .iconst 4, 1, []), (6, .if_icmp .ge 36, 3, []), (9, .iload 7, 2, []), (11, .iload_n 2, 1, []), (12, .if_icmp .ne 7, 3, []), (15, .iconst (-1), 1, []), (16, .goto 18, 3, []), (19, .aload_n 0, 1, []), (20, .iload_n 1, 1, []), (21, .iload_n 2, 1, []), (22, .iload 7, 2, []), (24, .iload_n 3, 1, []), (25, .iload 4, 2, []), (27, .iload 5, 2, []), (29, .iload 6, 2, []), (31, .invokevirtual 151, 3, [81, 0]), (34, .istore 8, 2, []), (36, .iinc 7 1, 3, []), (39, .goto (-36), 3, []), (42, .return_, 1, [])]
def tb_X8_sendRow : List pm_R := [(0, .aload_n 0, 1, []), (1, .iload_n 1, 1, []), (2, .iload_n 2, 1, []), (3, .iload_n 3, 1, []), (4, .iload 4, 2, []), (6, .iconst (-1), 1, []), (7, .iload 7, 2, []), (9, .iconst 0, 1, []), (10, .invokevirtual 151, 3, [81, 0]), (13, .istore 9, 2, []), (15, .iload 9, 2, []), (17, .ifCond .ge 4, 3, []), (20, .return_, 1, []), (21, .aload_n 0, 1, []), (22, .getfield 81, 3, [8, 27, 0]), (25, .iload 9, 2, []), (27, .lload 5, 2, []), (29, .lastore, 1, []), (30, .aload_n 0, 1, []), (31, .getfield 78, 3, [8, 26, 0]), (34, .iload 9, 2, []), (36, .iload 8, 2, []), (38, .iastore, 1, []), (39, .return_, 1, [])]
def tb_X8_reply : List pm_R := [(0, .aload_n 0, 1, []), (1, .iconst 2, 1, []), (2, .iload_n 1, 1, []), (3, .iconst 4, 1, []), (4, .aload_n 0, 1, []), (5, .getfield 19, 3, [8, 6, 0]), (8, .iload_n 1, 1, []), (9, .iaload, 1, []), (10, .aload_n 0, 1, []), (11, .getfield 25, 3, [8, 8, 0]), (14, .iload_n 1, 1, []), (15, .laload, 1, []), (16, .iload_n 2, 1, []), (17, .iconst 1, 1, []), (18, .isub, 1, []), (19, .invokestatic 144, 3, [75, 4]), (22, .iload_n 2, 1, []), (23, .aload_n 0, 1, []), (24, .getfield 25, 3, [8, 8, 0]), (27, .iload_n 1, 1, []), (28, .laload, 1, []), (29, .iload_n 2, 1, []), (30, .invokestatic 155, 3, [78, 4]), (33, .invokevirtual 151, 3, [81, 0]), (36, .istore_n 3, 1, []), (37, .iload_n 3, 1, []), (38, .ifCond .lt 20, 3, []), (41, .aload_n 0, 1, []), (42, .getfield 75, 3, [8, 25, 0]), (45, .iload_n 3, 1, []), (46, .aload_n 0, 1, []), (47, .aload_n 0, 1, []), (48, .getfield 25, 3, [8, 8, 0]), (51, .iload_n 1, 1, []), (52, .laload, 1, []), (53, .iload_n 2, 1, []), (54, .invokevirtual 158, 3, [80, 0]), (57, .iastore, 1, []), (58, .return_, 1, [])]
def tb_X8_order : List pm_R := [(0, .aload_n 0, 1, []), (1, .iconst 1, 1, []), (2, .iload_n 1, 1, []), (3, .aload_n 0, 1, []), (4, .getfield 19, 3, [8, 6, 0]), (7, .iload_n 1, 1, []), (8, .iaload, 1, []), (9, .aload_n 0, 1, []), (10, .getfield 25, 3, [8, 8, 0]), (13, .iload_n 1, 1, []), (14, .laload, 1, []), (15, .iload_n 2, 1, []), (16, .iconst 1, 1, []), (17, .isub, 1, []), (18, .invokestatic 144, 3, [75, 4]), (21, .iload_n 2, 1, []), (22, .aload_n 0, 1, []), (23, .getfield 25, 3, [8, 8, 0]), (26, .iload_n 1, 1, []), (27, .laload, 1, []), (28, .iload_n 2, 1, []), (29, .invokestatic 155, 3, [78, 4]), (32, .invokevirtual 161, 3, [82, 0]), (35, .return_, 1, [])]
def tb_X8_isPrimary : List pm_R := [(0, .aload_n 0, 1, []), (1, .getfield 19, 3, [8, 6, 0]), (4, .iload_n 1, 1, []), (5, .iaload, 1, []), (6, .iconst 4, 1, []), (7, .irem, 1, []), (8, .iload_n 1, 1, []), (9, .if_icmp .ne 7, 3, []), (12, .iconst 1, 1, []), (13, .goto 4, 3, []), (16, .iconst 0, 1, []), (17, .ireturn, 1, [])]
def tb_X8_append : List pm_R := [(0, .aload_n 0, 1, []), (1, .getfield 25, 3, [8, 8, 0]), (4, .iload_n 1, 1, []), (5, .aload_n 0, 1, []), (6, .getfield 25, 3, [8, 8, 0]), (9, .iload_n 1, 1, []), (10, .laload, 1, []), (11, .aload_n 0, 1, []), (12, .getfield 22, 3, [8, 7, 0]), (15, .iload_n 1, 1, []), (16, .iaload, 1, []), (17, .iload_n 2, 1, []), (18, .invokestatic 165, 3, [76, 4]), (21, .lastore, 1, []), (22, .aload_n 0, 1, []), (23, .getfield 22, 3, [8, 7, 0]), (26, .iload_n 1, 1, []), (27, .dup2, 1, []), (28, .iaload, 1, []), (29, .iconst 1, 1, []), (30, .iadd, 1, []), (31, .iastore, 1, []), (32, .aload_n 0, 1, []), (33, .getfield 36, 3, [8, 11, 0]), (36, .iload_n 1, 1, []), (37, .dup2, 1, []), (38, .iaload, 1, []), (39, .iconst 1, 1, []), (40, .iload_n 2, 1, []), (41, .ishl, 1, []), (42, .iconst (-1), 1, []), (43, .ixor, 1, []), (44, .iand, 1, []), (45, .iastore, 1, []), (46, .return_, 1, [])]
def tb_X8_takeAsk : List pm_R := [(0, .aload_n 0, 1, []), (1, .getfield 25, 3, [8, 8, 0]), (4, .iload_n 1, 1, []), (5, .laload, 1, []), (6, .aload_n 0, 1, []), (7, .getfield 22, 3, [8, 7, 0]), (10, .iload_n 1, 1, []), (11, .iaload, 1, []), (12, .iload_n 2, 1, []), (13, .invokestatic 169, 3, [79, 4]), (16, .istore 4, 2, []), (18, .iload 4, 2, []), (20, .ifCond .le 28, 3, []), (23, .aload_n 0, 1, []), (24, .iload_n 1, 1, []), (25, .iload 4, 2, []), (27, .invokevirtual 173, 3, [84, 0]), (30, .aload_n 0, 1, []), (31, .iload_n 1, 1, []), (32, .invokevirtual 177, 3, [86, 0]), (35, .ifCond .eq 100, 3, []), (38, .aload_n 0, 1, []), (39, .iload_n 1, 1, []), (40, .iload 4, 2, []), (42, .invokevirtual 181, 3, [85, 0]), (45, .goto 90, 3, []), (48, .aload_n 0, 1, []), (49, .iload_n 1, 1, []), (50, .invokevirtual 177, 3, [86, 0]), (53, .ifCond .eq 34, 3, []), (56, .aload_n 0, 1, []), (57, .iload_n 1, 1, []), (58, .iload_n 2, 1, []), (59, .invokevirtual 184, 3, [87, 0]), (62, .aload_n 0, 1, []), (63, .iload_n 1, 1, []), (64, .aload_n 0, 1, []), (65, .getfield 22, 3, [8, 7, 0]), (68, .iload_n 1, 1, []), (69, .iaload, 1, []), (70, .invokevirtual 181, 3, [85, 0]), (73, .aload_n 0, 1, []), (74, .iload_n 1, 1, []), (75, .aload_n 0, 1, []), (76, .getfield 22, 3, [8, 7, 0]), (79, .iload_n 1, 1, []), (80, .iaload, 1, []), (81, .invokevirtual 173, 3, [84, 0]), (84, .goto 51, 3, []), (87, .aload_n 0, 1, []), (88, .getfield 36, 3, [8, 11, 0]), (91, .iload_n 1, 1, []), (92, .dup2, 1, []), (93, .iaload, 1, []), (94, .iconst 1, 1, []), (95, .iload_n 2, 1, []), (96, .ishl, 1, []), (97, .ior, 1, []), (98, .iastore, 1, []), (99, .aload_n 0, 1, []), (100, .getfield 19, 3, [8, 6, 0]), (103, .iload_n 1, 1, []), (104, .iaload, 1, []), (105, .iconst 4, 1, []), (106, .irem, 1, []), (107, .iload_n 3, 1, []), (108, .if_icmp .ne 7, 3, []), (111, .iconst (-1), 1, []), (112, .goto 21, 3, []), (115, .aload_n 0, 1, []), (116, .iconst 0, 1, []), (117, .iload_n 1, 1, []), (118, .aload_n 0, 1, []), (119, .getfield 19, 3, [8, 6, 0]), (122, .iload_n 1, 1, []), (123, .iaload, 1, []), (124, .iconst 4, 1, []), (125, .irem, 1, []), (126, .iconst 0, 1, []), (127, .iload_n 2, 1, []), (128, .iconst 0, 1, []), (129, .iconst 0, 1, []), (130, .invokevirtual 151, 3, [81, 0]), (133, .istore 5, 2, []), (135, .return_, 1, [])]
def tb_X8_takeOrder : List pm_R := [(0, .aload_n 0, 1, []), (1, .getfield 32, 3, [8, 10, 0]), (4, .iload_n 1, 1, []), (5, .baload, 1, []), (6, .ifCond .ne 53, 3, []), (9, .iload_n 3, 1, []), (10, .aload_n 0, 1, []), (11, .getfield 19, 3, [8, 6, 0]), (14, .iload_n 1, 1, []), (15, .iaload, 1, []), (16, .if_icmp .ne 43, 3, []), (19, .iload_n 2, 1, []), (20, .iload_n 3, 1, []), (21, .iconst 4, 1, []), (22, .irem, 1, []), (23, .if_icmp .ne 36, 3, []), (26, .iload 4, 2, []), (28, .aload_n 0, 1, []), (29, .getfield 22, 3, [8, 7, 0]), (32, .iload_n 1, 1, []), (33, .iaload, 1, []), (34, .iconst 1, 1, []), (35, .iadd, 1, []), (36, .if_icmp .ne 23, 3, []), (39, .aload_n 0, 1, []), (40, .getfield 25, 3, [8, 8, 0]), (43, .iload_n 1, 1, []), (44, .laload, 1, []), (45, .aload_n 0, 1, []), (46, .getfield 22, 3, [8, 7, 0]), (49, .iload_n 1, 1, []), (50, .iaload, 1, []), (51, .iload 5, 2, []), (53, .invokestatic 169, 3, [79, 4]), (56, .ifCond .le 5, 3, []), (59, .iconst 0, 1, []), (60, .ireturn, 1, []), (61, .iload 6, 2, []), (63, .bipush 31, 2, []), (65, .aload_n 0, 1, []), (66, .getfield 25, 3, [8, 8, 0]), (69, .iload_n 1, 1, []), (70, .laload, 1, []), (71, .aload_n 0, 1, []), (72, .getfield 22, 3, [8, 7, 0]), (75, .iload_n 1, 1, []), (76, .iaload, 1, []), (77, .invokestatic 155, 3, [78, 4]), (80, .imul, 1, []), (81, .iload 5, 2, []), (83, .iadd, 1, []), (84, .iconst 1, 1, []), (85, .iadd, 1, []), (86, .if_icmp .eq 5, 3, []), (89, .iconst 0, 1, []), (90, .ireturn, 1, []), (91, .aload_n 0, 1, []), (92, .iload_n 1, 1, []), (93, .iload 5, 2, []), (95, .invokevirtual 184, 3, [87, 0]), (98, .aload_n 0, 1, []), (99, .iload_n 1, 1, []), (100, .iload 4, 2, []), (102, .invokevirtual 173, 3, [84, 0]), (105, .iconst 1, 1, []), (106, .ireturn, 1, [])]
def tb_X8_takeProof : List pm_R := [(0, .iload_n 2, 1, []), (1, .aload_n 0, 1, []), (2, .getfield 19, 3, [8, 6, 0]), (5, .iload_n 1, 1, []), (6, .iaload, 1, []), (7, .if_icmp .ne 28, 3, []), (10, .iload_n 3, 1, []), (11, .aload_n 0, 1, []), (12, .getfield 22, 3, [8, 7, 0]), (15, .iload_n 1, 1, []), (16, .iaload, 1, []), (17, .if_icmp .gt 18, 3, []), (20, .iload 4, 2, []), (22, .aload_n 0, 1, []), (23, .getfield 25, 3, [8, 8, 0]), (26, .iload_n 1, 1, []), (27, .laload, 1, []), (28, .iload_n 3, 1, []), (29, .invokestatic 155, 3, [78, 4]), (32, .if_icmp .eq 4, 3, []), (35, .return_, 1, []), (36, .aload_n 0, 1, []), (37, .getfield 29, 3, [8, 9, 0]), (40, .iload_n 1, 1, []), (41, .iload_n 3, 1, []), (42, .aload_n 0, 1, []), (43, .getfield 29, 3, [8, 9, 0]), (46, .iload_n 1, 1, []), (47, .iaload, 1, []), (48, .if_icmp .le 7, 3, []), (51, .iload_n 3, 1, []), (52, .goto 9, 3, []), (55, .aload_n 0, 1, []), (56, .getfield 29, 3, [8, 9, 0]), (59, .iload_n 1, 1, []), (60, .iaload, 1, []), (61, .iastore, 1, []), (62, .aload_n 0, 1, []), (63, .iconst 4, 1, []), (64, .iload_n 1, 1, []), (65, .iconst 4, 1, []), (66, .iload_n 2, 1, []), (67, .iconst (-1), 1, []), (68, .iload_n 3, 1, []), (69, .iload 4, 2, []), (71, .invokevirtual 151, 3, [81, 0]), (74, .istore 5, 2, []), (76, .return_, 1, [])]
def tb_X8_bits : List pm_R := [(0, .iconst 0, 1, []), (1, .istore_n 1, 1, []), (2, .iconst 0, 1, []), (3, .istore_n 2, 1, []), (4, .iload_n 2, 1, []), (5, .iconst 4, 1, []), (6, .if_icmp .ge 17, 3, []), (9, .iload_n 1, 1, []), (10, .iload_n 0, 1, []), (11, .iload_n 2, 1, []), (12, .ishr, 1, []), (13, .iconst 1, 1, []), (14, .iand, 1, []), (15, .iadd, 1, []), (16, .istore_n 1, 1, []), (17, .iinc 2 1, 3, []), (20, .goto (-16), 3, []), (23, .iload_n 1, 1, []), (24, .ireturn, 1, [])]
def tb_X8_takeHate : List pm_R := [(0, .aload_n 0, 1, []), (1, .getfield 39, 3, [8, 12, 0]), (4, .iload_n 1, 1, []), (5, .dup2, 1, []), (6, .iaload, 1, []), (7, .iconst 1, 1, []), (8, .iload_n 2, 1, []), (9, .ishl, 1, []), (10, .ior, 1, []), (11, .iastore, 1, []), (12, .aload_n 0, 1, []), (13, .getfield 39, 3, [8, 12, 0]), (16, .iload_n 1, 1, []), (17, .iaload, 1, []), (18, .invokestatic 187, 3, [91, 4]), (21, .iconst 2, 1, []), (22, .if_icmp .ge 4, 3, []), (25, .return_, 1, []), (26, .aload_n 0, 1, []), (27, .getfield 19, 3, [8, 6, 0]), (30, .iload_n 1, 1, []), (31, .dup2, 1, []), (32, .iaload, 1, []), (33, .iconst 1, 1, []), (34, .iadd, 1, []), (35, .iastore, 1, []), (36, .aload_n 0, 1, []), (37, .getfield 39, 3, [8, 12, 0]), (40, .iload_n 1, 1, []), (41, .iconst 0, 1, []), (42, .iastore, 1, []), (43, .aload_n 0, 1, []), (44, .getfield 32, 3, [8, 10, 0]), (47, .iload_n 1, 1, []), (48, .iconst 1, 1, []), (49, .bastore, 1, []), (50, .aload_n 0, 1, []), (51, .getfield 19, 3, [8, 6, 0]), (54, .iload_n 1, 1, []), (55, .iaload, 1, []), (56, .iconst 4, 1, []), (57, .irem, 1, []), (58, .istore_n 3, 1, []), (59, .iload_n 3, 1, []), (60, .iload_n 1, 1, []), (61, .if_icmp .ne 36, 3, []), (64, .aload_n 0, 1, []), (65, .iload_n 1, 1, []), (66, .iload_n 1, 1, []), (67, .aload_n 0, 1, []), (68, .getfield 19, 3, [8, 6, 0]), (71, .iload_n 1, 1, []), (72, .iaload, 1, []), (73, .aload_n 0, 1, []), (74, .getfield 25, 3, [8, 8, 0]), (77, .iload_n 1, 1, []), (78, .laload, 1, []), (79, .aload_n 0, 1, []), (80, .getfield 22, 3, [8, 7, 0]), (83, .iload_n 1, 1, []), (84, .iaload, 1, []), (85, .aload_n 0, 1, []), (86, .getfield 29, 3, [8, 9, 0]), (89, .iload_n 1, 1, []), (90, .iaload, 1, []), (91, .invokevirtual 191, 3, [93, 0]), (94, .goto 35, 3, []), (97, .aload_n 0, 1, []), (98, .bipush 6, 2, []), (100, .iload_n 1, 1, []), (101, .iload_n 3, 1, []), (102, .aload_n 0, 1, []), (103, .getfield 19, 3, [8, 6, 0]), (106, .iload_n 1, 1, []), (107, .iaload, 1, []), (108, .aload_n 0, 1, []), (109, .getfield 25, 3, [8, 8, 0]), (112, .iload_n 1, 1, []), (113, .laload, 1, []), (114, .aload_n 0, 1, []), (115, .getfield 22, 3, [8, 7, 0]), (118, .iload_n 1, 1, []), (119, .iaload, 1, []), (120, .aload_n 0, 1, []), (121, .getfield 29, 3, [8, 9, 0]), (124, .iload_n 1, 1, []), (125, .iaload, 1, []), (126, .invokevirtual 195, 3, [83, 0]), (129, .return_, 1, [])]
def tb_X8_takeChange : List pm_R := [(0, .iload_n 3, 1, []), (1, .iconst 4, 1, []), (2, .irem, 1, []), (3, .iload_n 1, 1, []), (4, .if_icmp .ne 13, 3, []), (7, .iload_n 3, 1, []), (8, .aload_n 0, 1, []), (9, .getfield 19, 3, [8, 6, 0]), (12, .iload_n 1, 1, []), (13, .iaload, 1, []), (14, .if_icmp .ge 4, 3, []), (17, .return_, 1, []), (18, .iconst 4, 1, []), (19, .iload_n 1, 1, []), (20, .imul, 1, []), (21, .iload_n 2, 1, []), (22, .iadd, 1, []), (23, .istore 8, 2, []), (25, .aload_n 0, 1, []), (26, .getfield 42, 3, [8, 13, 0]), (29, .iload 8, 2, []), (31, .iload_n 3, 1, []), (32, .iastore, 1, []), (33, .aload_n 0, 1, []), (34, .getfield 48, 3, [8, 15, 0]), (37, .iload 8, 2, []), (39, .lload 4, 2, []), (41, .lastore, 1, []), (42, .aload_n 0, 1, []), (43, .getfield 45, 3, [8, 14, 0]), (46, .iload 8, 2, []), (48, .iload 6, 2, []), (50, .iastore, 1, []), (51, .aload_n 0, 1, []), (52, .getfield 51, 3, [8, 16, 0]), (55, .iload 8, 2, []), (57, .iload 7, 2, []), (59, .iastore, 1, []), (60, .iconst 0, 1, []), (61, .istore 9, 2, []), (63, .iconst 0, 1, []), (64, .istore 10, 2, []), (66, .iload 10, 2, []), (68, .iconst 4, 1, []), (69, .if_icmp .ge 34, 3, []), (72, .iload 9, 2, []), (74, .aload_n 0, 1, []), (75, .getfield 42, 3, [8, 13, 0]), (78, .iconst 4, 1, []), (79, .iload_n 1, 1, []), (80, .imul, 1, []), (81, .iload 10, 2, []), (83, .iadd, 1, []), (84, .iaload, 1, []), (85, .iload_n 3, 1, []), (86, .if_icmp .ne 7, 3, []), (89, .iconst 1, 1, []), (90, .goto 4, 3, []), (93, .iconst 0, 1, []), (94, .iadd, 1, []), (95, .istore 9, 2, []), (97, .iinc 10 1, 3, []), (100, .goto (-34), 3, []), (103, .aload_n 0, 1, []), (104, .getfield 32, 3, [8, 10, 0]), (107, .iload_n 1, 1, []), (108, .baload, 1, []), (109, .ifCond .eq 24, 3, []), (112, .aload_n 0, 1, []), (113, .getfield 19, 3, [8, 6, 0]), (116, .iload_n 1, 1, []), (117, .iaload, 1, []), (118, .iload_n 3, 1, []), (119, .if_icmp .ne 14, 3, []), (122, .iload 9, 2, []), (124, .iconst 3, 1, []), (125, .if_icmp .lt 8, 3, []), (128, .aload_n 0, 1, []), (129, .iload_n 1, 1, []), (130, .invokevirtual 199, 3, [97, 0]), (133, .return_, 1, [])]
def tb_X8_safest : List pm_R := [(0, .iconst (-1), 1, []), (1, .istore_n 2, 1, []), (2, .iconst 0, 1, []), (3, .istore_n 3, 1, []), (4, .iload_n 3, 1, []), (5, .iconst 4, 1, []), (6, .if_icmp .ge 73, 3, []), (9, .aload_n 0, 1, []), (10, .getfield 42, 3, [8, 13, 0]), (13, .iconst 4, 1, []), (14, .iload_n 1, 1, []), (15, .imul, 1, []), (16, .iload_n 3, 1, []), (17, .iadd, 1, []), (18, .iaload, 1, []), (19, .aload_n 0, 1, []), (20, .getfield 19, 3, [8, 6, 0]), (23, .iload_n 1, 1, []), (24, .iaload, 1, []), (25, .if_icmp .ne 7, 3, []), (28, .iconst 1, 1, []), (29, .goto 4, 3, []), (32, .iconst 0, 1, []), (33, .istore 4, 2, []), (35, .iload 4, 2, []), (37, .ifCond .eq 34, 3, []), (40, .iload_n 2, 1, []), (41, .ifCond .lt 26, 3, []), (44, .aload_n 0, 1, []), (45, .getfield 51, 3, [8, 16, 0]), (48, .iconst 4, 1, []), (49, .iload_n 1, 1, []), (50, .imul, 1, []), (51, .iload_n 3, 1, []), (52, .iadd, 1, []), (53, .iaload, 1, []), (54, .aload_n 0, 1, []), (55, .getfield 51, 3, [8, 16, 0]), (58, .iconst 4, 1, []), (59, .iload_n 1, 1, []), (60, .imul, 1, []), (61, .iload_n 2, 1, []), (62, .iadd, 1, []), (63, .iaload, 1, []), (64, .if_icmp .le 7, 3, []), (67, .iload_n 3, 1, []), (68, .goto 4, 3, []), (71, .iload_n 2, 1, []), (72, .istore_n 2, 1, []), (73, .iinc 3 1, 3, []), (76, .goto (-72), 3, []), (79, .iload_n 2, 1, []), (80, .ireturn, 1, [])]
def tb_X8_goesOn : List pm_R := [(0, .iconst 4, 1, []), (1, .iload_n 1, 1, []), (2, .imul, 1, []), (3, .iload_n 2, 1, []), (4, .iadd, 1, []), (5, .istore 6, 2, []), (7, .aload_n 0, 1, []), (8, .getfield 42, 3, [8, 13, 0]), (11, .iload 6, 2, []), (13, .iaload, 1, []), (14, .aload_n 0, 1, []), (15, .getfield 19, 3, [8, 6, 0]), (18, .iload_n 1, 1, []), (19, .iaload, 1, []), (20, .if_icmp .ne 36, 3, []), (23, .aload_n 0, 1, []), (24, .getfield 45, 3, [8, 14, 0]), (27, .iload 6, 2, []), (29, .iaload, 1, []), (30, .iload 5, 2, []), (32, .if_icmp .le 24, 3, []), (35, .aload_n 0, 1, []), (36, .getfield 48, 3, [8, 15, 0]), (39, .iload 6, 2, []), (41, .laload, 1, []), (42, .iload 5, 2, []), (44, .invokestatic 203, 3, [77, 4]), (47, .lload_n 3, 1, []), (48, .lcmp, 1, []), (49, .ifCond .ne 7, 3, []), (52, .iconst 1, 1, []), (53, .goto 4, 3, []), (56, .iconst 0, 1, []), (57, .istore 7, 2, []), (59, .iload 7, 2, []), (61, .ifCond .eq 18, 3, []), (64, .aload_n 0, 1, []), (65, .getfield 48, 3, [8, 15, 0]), (68, .iload 6, 2, []), (70, .laload, 1, []), (71, .iload 5, 2, []), (73, .invokestatic 144, 3, [75, 4]), (76, .goto 4, 3, []), (79, .iconst (-1), 1, []), (80, .ireturn, 1, [])]
def tb_X8_nextOf : List pm_R := [(0, .iconst (-1), 1, []), (1, .istore 5, 2, []), (3, .iconst 3, 1, []), (4, .istore 6, 2, []), (6, .iload 6, 2, []), (8, .ifCond .lt 84, 3, []), (11, .aload_n 0, 1, []), (12, .iload_n 1, 1, []), (13, .iload 6, 2, []), (15, .lload_n 2, 1, []), (16, .iload 4, 2, []), (18, .invokevirtual 207, 3, [95, 0]), (21, .istore 7, 2, []), (23, .iconst 0, 1, []), (24, .istore 8, 2, []), (26, .iconst 0, 1, []), (27, .istore 9, 2, []), (29, .iload 9, 2, []), (31, .iconst 4, 1, []), (32, .if_icmp .ge 39, 3, []), (35, .iload 8, 2, []), (37, .iload 7, 2, []), (39, .ifCond .lt 22, 3, []), (42, .aload_n 0, 1, []), (43, .iload_n 1, 1, []), (44, .iload 9, 2, []), (46, .lload_n 2, 1, []), (47, .iload 4, 2, []), (49, .invokevirtual 207, 3, [95, 0]), (52, .iload 7, 2, []), (54, .if_icmp .ne 7, 3, []), (57, .iconst 1, 1, []), (58, .goto 4, 3, []), (61, .iconst 0, 1, []), (62, .iadd, 1, []), (63, .istore 8, 2, []), (65, .iinc 9 1, 3, []), (68, .goto (-39), 3, []), (71, .iload 8, 2, []), (73, .iconst 2, 1, []), (74, .if_icmp .lt 8, 3, []), (77, .iload 7, 2, []), (79, .goto 5, 3, []), (82, .iload 5, 2, []), (84, .istore 5, 2, []), (86, .iinc 6 (-1), 3, []), (89, .goto (-83), 3, []), (92, .iload 5, 2, []), (94, .ireturn, 1, [])]
def tb_X8_makeNew : List pm_R := [(0, .iconst 4, 1, []), (1, .iload_n 1, 1, []), (2, .imul, 1, []), (3, .aload_n 0, 1, []), (4, .iload_n 1, 1, []), (5, .invokevirtual 211, 3, [94, 0]), (8, .iadd, 1, []), (9, .istore_n 2, 1, []), (10, .aload_n 0, 1, []), (11, .getfield 51, 3, [8, 16, 0]), (14, .iload_n 2, 1, []), (15, .iaload, 1, []), (16, .istore_n 3, 1, []), (17, .iload_n 3, 1, []), (18, .istore 4, 2, []), (20, .aload_n 0, 1, []), (21, .getfield 48, 3, [8, 15, 0]), (24, .iload_n 2, 1, []), (25, .laload, 1, []), (26, .iload 4, 2, []), (28, .invokestatic 203, 3, [77, 4]), (31, .lstore 5, 2, []), (33, .aload_n 0, 1, []), (34, .iload_n 1, 1, []), (35, .lload 5, 2, []), (37, .iload 4, 2, []), (39, .invokevirtual 214, 3, [96, 0]), (42, .istore 7, 2, []), (44, .iload 7, 2, []), (46, .ifCond .lt 31, 3, []), (49, .lload 5, 2, []), (51, .iload 4, 2, []), (53, .iload 7, 2, []), (55, .invokestatic 165, 3, [76, 4]), (58, .lstore 5, 2, []), (60, .iinc 4 1, 3, []), (63, .aload_n 0, 1, []), (64, .iload_n 1, 1, []), (65, .lload 5, 2, []), (67, .iload 4, 2, []), (69, .invokevirtual 214, 3, [96, 0]), (72, .istore 7, 2, []), (74, .goto (-30), 3, []), (77, .iconst 0, 1, []), (78, .istore 8, 2, []), (80, .iload 8, 2, []), (82, .iconst 4, 1, []), (83, .if_icmp .ge 35, 3, []), (86, .iload 8, 2, []), (88, .iload_n 1, 1, []), (89, .if_icmp .eq 23, 3, []), (92, .aload_n 0, 1, []), (93, .bipush 7, 2, []), (95, .iload_n 1, 1, []), (96, .iload 8, 2, []), (98, .aload_n 0, 1, []), (99, .getfield 19, 3, [8, 6, 0]), (102, .iload_n 1, 1, []), (103, .iaload, 1, []), (104, .lload 5, 2, []), (106, .iload 4, 2, []), (108, .iload_n 3, 1, []), (109, .invokevirtual 195, 3, [83, 0]), (112, .iinc 8 1, 3, []), (115, .goto (-35), 3, []), (118, .aload_n 0, 1, []), (119, .iload_n 1, 1, []), (120, .aload_n 0, 1, []), (121, .getfield 19, 3, [8, 6, 0]), (124, .iload_n 1, 1, []), (125, .iaload, 1, []), (126, .lload 5, 2, []), (128, .iload 4, 2, []), (130, .iload_n 3, 1, []), (131, .invokevirtual 218, 3, [98, 0]), (134, .return_, 1, [])]
def tb_X8_turn : List pm_R := [(0, .aload_n 0, 1, []), (1, .getfield 19, 3, [8, 6, 0]), (4, .iload_n 1, 1, []), (5, .iload_n 2, 1, []), (6, .iastore, 1, []), (7, .aload_n 0, 1, []), (8, .getfield 25, 3, [8, 8, 0]), (11, .iload_n 1, 1, []), (12, .lload_n 3, 1, []), (13, .lastore, 1, []), (14, .aload_n 0, 1, []), (15, .getfield 22, 3, [8, 7, 0]), (18, .iload_n 1, 1, []), (19, .iload 5, 2, []), (21, .iastore, 1, []), (22, .aload_n 0, 1, []), (23, .getfield 29, 3, [8, 9, 0]), (26, .iload_n 1, 1, []), (27, .iload 6, 2, []), (29, .iastore, 1, []), (30, .aload_n 0, 1, []), (31, .getfield 32, 3, [8, 10, 0]), (34, .iload_n 1, 1, []), (35, .iconst 0, 1, []), (36, .bastore, 1, []), (37, .aload_n 0, 1, []), (38, .getfield 39, 3, [8, 12, 0]), (41, .iload_n 1, 1, []), (42, .iconst 0, 1, []), (43, .iastore, 1, []), (44, .iconst 0, 1, []), (45, .istore 7, 2, []), (47, .iload 7, 2, []), (49, .iload 5, 2, []), (51, .if_icmp .ge 28, 3, []), (54, .aload_n 0, 1, []), (55, .getfield 36, 3, [8, 11, 0]), (58, .iload_n 1, 1, []), (59, .dup2, 1, []), (60, .iaload, 1, []), (61, .iconst 1, 1, []), (62, .lload_n 3, 1, []), (63, .iload 7, 2, []), (65, .invokestatic 144, 3, [75, 4]), (68, .ishl, 1, []), (69, .iconst (-1), 1, []), (70, .ixor, 1, []), (71, .iand, 1, []), (72, .iastore, 1, []), (73, .iinc 7 1, 3, []), (76, .goto (-29), 3, []), (79, .iconst 1, 1, []), (80, .istore 7, 2, []), (82, .iload 7, 2, []), (84, .iload 5, 2, []), (86, .if_icmp .gt 16, 3, []), (89, .aload_n 0, 1, []), (90, .iload_n 1, 1, []), (91, .iload 7, 2, []), (93, .invokevirtual 173, 3, [84, 0]), (96, .iinc 7 1, 3, []), (99, .goto (-17), 3, []), (102, .return_, 1, [])]
def tb_X8_takeNew : List pm_R := [(0, .aload_n 0, 1, []), (1, .getfield 63, 3, [8, 21, 0]), (4, .iload_n 2, 1, []), (5, .iaload, 1, []), (6, .istore_n 3, 1, []), (7, .aload_n 0, 1, []), (8, .getfield 57, 3, [8, 19, 0]), (11, .iload_n 2, 1, []), (12, .iaload, 1, []), (13, .iload_n 3, 1, []), (14, .iconst 4, 1, []), (15, .irem, 1, []), (16, .if_icmp .ne 36, 3, []), (19, .iload_n 3, 1, []), (20, .aload_n 0, 1, []), (21, .getfield 19, 3, [8, 6, 0]), (24, .iload_n 1, 1, []), (25, .iaload, 1, []), (26, .if_icmp .gt 22, 3, []), (29, .iload_n 3, 1, []), (30, .aload_n 0, 1, []), (31, .getfield 19, 3, [8, 6, 0]), (34, .iload_n 1, 1, []), (35, .iaload, 1, []), (36, .if_icmp .ne 16, 3, []), (39, .aload_n 0, 1, []), (40, .getfield 32, 3, [8, 10, 0]), (43, .iload_n 1, 1, []), (44, .baload, 1, []), (45, .ifCond .eq 7, 3, []), (48, .iconst 1, 1, []), (49, .goto 4, 3, []), (52, .iconst 0, 1, []), (53, .istore 4, 2, []), (55, .iload 4, 2, []), (57, .ifCond .eq 27, 3, []), (60, .aload_n 0, 1, []), (61, .iload_n 1, 1, []), (62, .iload_n 3, 1, []), (63, .aload_n 0, 1, []), (64, .getfield 81, 3, [8, 27, 0]), (67, .iload_n 2, 1, []), (68, .laload, 1, []), (69, .aload_n 0, 1, []), (70, .getfield 66, 3, [8, 22, 0]), (73, .iload_n 2, 1, []), (74, .iaload, 1, []), (75, .aload_n 0, 1, []), (76, .getfield 78, 3, [8, 26, 0]), (79, .iload_n 2, 1, []), (80, .iaload, 1, []), (81, .invokevirtual 218, 3, [98, 0]), (84, .return_, 1, [])]
def tb_X8_take : List pm_R := [(0, .aload_n 0, 1, []), (1, .getfield 54, 3, [8, 18, 0]), (4, .iload_n 2, 1, []), (5, .iaload, 1, []), (6, .tableswitch 212 0 6 #[42, 71, 212, 110, 212, 145, 174], 42, []), (48, .aload_n 0, 1, []), (49, .getfield 32, 3, [8, 10, 0]), (52, .iload_n 1, 1, []), (53, .baload, 1, []), (54, .ifCond .ne 170, 3, []), (57, .aload_n 0, 1, []), (58, .iload_n 1, 1, []), (59, .aload_n 0, 1, []), (60, .getfield 69, 3, [8, 23, 0]), (63, .iload_n 2, 1, []), (64, .iaload, 1, []), (65, .aload_n 0, 1, []), (66, .getfield 57, 3, [8, 19, 0]), (69, .iload_n 2, 1, []), (70, .iaload, 1, []), (71, .invokevirtual 222, 3, [88, 0]), (74, .goto 150, 3, []), (77, .aload_n 0, 1, []), (78, .iload_n 1, 1, []), (79, .aload_n 0, 1, []), (80, .getfield 57, 3, [8, 19, 0]), (83, .iload_n 2, 1, []), (84, .iaload, 1, []), (85, .aload_n 0, 1, []), (86, .getfield 63, 3, [8, 21, 0]), (89, .iload_n 2, 1, []), (90, .iaload, 1, []), (91, .aload_n 0, 1, []), (92, .getfield 66, 3, [8, 22, 0]), (95, .iload_n 2, 1, []), (96, .iaload, 1, []), (97, .aload_n 0, 1, []), (98, .getfield 69, 3, [8, 23, 0]), (101, .iload_n 2, 1, []), (102, .iaload, 1, []), (103, .aload_n 0, 1, []), (104, .getfield 72, 3, [8, 24, 0]), (107, .iload_n 2, 1, []), (108, .iaload, 1, []), (109, .invokevirtual 226, 3, [89, 0]), (112, .pop, 1, []), (113, .goto 111, 3, []), (116, .aload_n 0, 1, []), (117, .getfield 32, 3, [8, 10, 0]), (120, .iload_n 1, 1, []), (121, .baload, 1, []), (122, .ifCond .ne 102, 3, []), (125, .aload_n 0, 1, []), (126, .iload_n 1, 1, []), (127, .aload_n 0, 1, []), (128, .getfield 63, 3, [8, 21, 0]), (131, .iload_n 2, 1, []), (132, .iaload, 1, []), (133, .aload_n 0, 1, []), (134, .getfield 66, 3, [8, 22, 0]), (137, .iload_n 2, 1, []), (138, .iaload, 1, []), (139, .aload_n 0, 1, []), (140, .getfield 72, 3, [8, 24, 0]), (143, .iload_n 2, 1, []), (144, .iaload, 1, []), (145, .invokevirtual 230, 3, [90, 0]), (148, .goto 76, 3, []), (151, .aload_n 0, 1, []), (152, .getfield 63, 3, [8, 21, 0]), (155, .iload_n 2, 1, []), (156, .iaload, 1, []), (157, .aload_n 0, 1, []), (158, .getfield 19, 3, [8, 6, 0]), (161, .iload_n 1, 1, []), (162, .iaload, 1, []), (163, .if_icmp .ne 61, 3, []), (166, .aload_n 0, 1, []), (167, .iload_n 1, 1, []), (168, .aload_n 0, 1, []), (169, .getfield 57, 3, [8, 19, 0]), (172, .iload_n 2, 1, []), (173, .iaload, 1, []), (174, .invokevirtual 234, 3, [92, 0]), (177, .goto 47, 3, []), (180, .aload_n 0, 1, []), (181, .iload_n 1, 1, []), (182, .aload_n 0, 1, []), (183, .getfield 57, 3, [8, 19, 0]), (186, .iload_n 2, 1, []), (187, .iaload, 1, []), (188, .aload_n 0, 1, []), (189, .getfield 63, 3, [8, 21, 0]), (192, .iload_n 2, 1, []), (193, .iaload, 1, []), (194, .aload_n 0, 1, []), (195, .getfield 81, 3, [8, 27, 0]), (198, .iload_n 2, 1, []), (199, .laload, 1, []), (200, .aload_n 0, 1, []), (201, .getfield 66, 3, [8, 22, 0]), (204, .iload_n 2, 1, []), (205, .iaload, 1, []), (206, .aload_n 0, 1, []), (207, .getfield 78, 3, [8, 26, 0]), (210, .iload_n 2, 1, []), (211, .iaload, 1, []), (212, .invokevirtual 191, 3, [93, 0]), (215, .goto 9, 3, []), (218, .aload_n 0, 1, []), (219, .iload_n 1, 1, []), (220, .iload_n 2, 1, []), (221, .invokevirtual 237, 3, [99, 0]), (224, .return_, 1, [])]
def tb_X8_areAlike : List pm_R := [(0, .aload_n 0, 1, []), (1, .getfield 87, 3, [8, 30, 0]), (4, .iload_n 1, 1, []), (5, .iaload, 1, []), (6, .ifCond .lt 67, 3, []), (9, .aload_n 0, 1, []), (10, .getfield 87, 3, [8, 30, 0]), (13, .iload_n 1, 1, []), (14, .iaload, 1, []), (15, .aload_n 0, 1, []), (16, .getfield 87, 3, [8, 30, 0]), (19, .iload_n 2, 1, []), (20, .iaload, 1, []), (21, .if_icmp .ne 52, 3, []), (24, .aload_n 0, 1, []), (25, .getfield 90, 3, [8, 31, 0]), (28, .iload_n 1, 1, []), (29, .iaload, 1, []), (30, .aload_n 0, 1, []), (31, .getfield 90, 3, [8, 31, 0]), (34, .iload_n 2, 1, []), (35, .iaload, 1, []), (36, .if_icmp .ne 37, 3, []), (39, .aload_n 0, 1, []), (40, .getfield 93, 3, [8, 32, 0]), (43, .iload_n 1, 1, []), (44, .iaload, 1, []), (45, .aload_n 0, 1, []), (46, .getfield 93, 3, [8, 32, 0]), (49, .iload_n 2, 1, []), (50, .iaload, 1, []), (51, .if_icmp .ne 22, 3, []), (54, .aload_n 0, 1, []), (55, .getfield 96, 3, [8, 33, 0]), (58, .iload_n 1, 1, []), (59, .iaload, 1, []), (60, .aload_n 0, 1, []), (61, .getfield 96, 3, [8, 33, 0]), (64, .iload_n 2, 1, []), (65, .iaload, 1, []), (66, .if_icmp .ne 7, 3, []), (69, .iconst 1, 1, []), (70, .goto 4, 3, []), (73, .iconst 0, 1, []), (74, .ireturn, 1, [])]
def tb_X8_alike : List pm_R := [(0, .iconst 0, 1, []), (1, .istore_n 3, 1, []), (2, .iconst 0, 1, []), (3, .istore 4, 2, []), (5, .iload 4, 2, []), (7, .iconst 4, 1, []), (8, .if_icmp .ge 35, 3, []), (11, .iload_n 3, 1, []), (12, .aload_n 0, 1, []), (13, .iconst 4, 1, []), (14, .iload_n 1, 1, []), (15, .imul, 1, []), (16, .iload_n 2, 1, []), (17, .iadd, 1, []), (18, .iconst 4, 1, []), (19, .iload_n 1, 1, []), (20, .imul, 1, []), (21, .iload 4, 2, []), (23, .iadd, 1, []), (24, .invokevirtual 240, 3, [101, 0]), (27, .ifCond .eq 7, 3, []), (30, .iconst 1, 1, []), (31, .goto 4, 3, []), (34, .iconst 0, 1, []), (35, .iadd, 1, []), (36, .istore_n 3, 1, []), (37, .iinc 4 1, 3, []), (40, .goto (-35), 3, []), (43, .iload_n 3, 1, []), (44, .ireturn, 1, [])]
def tb_X8_finish : List pm_R := [(0, .aload_n 0, 1, []), (1, .getfield 123, 3, [8, 42, 0]), (4, .iload_n 1, 1, []), (5, .iconst 1, 1, []), (6, .bastore, 1, []), (7, .aload_n 0, 1, []), (8, .getfield 126, 3, [8, 43, 0]), (11, .iload_n 1, 1, []), (12, .iload_n 2, 1, []), (13, .iastore, 1, []), (14, .aload_n 0, 1, []), (15, .getfield 129, 3, [8, 44, 0]), (18, .iload_n 1, 1, []), (19, .iload_n 3, 1, []), (20, .iastore, 1, []), (21, .return_, 1, [])]
def tb_X8_look : List pm_R := [(0, .aload_n 0, 1, []), (1, .getfield 123, 3, [8, 42, 0]), (4, .iload_n 1, 1, []), (5, .baload, 1, []), (6, .ifCond .eq 4, 3, []), (9, .return_, 1, []), (10, .aload_n 0, 1, []), (11, .iload_n 1, 1, []), (12, .iconst 0, 1, []), (13, .invokevirtual 244, 3, [102, 0]), (16, .iconst 4, 1, []), (17, .if_icmp .ne 25, 3, []), (20, .aload_n 0, 1, []), (21, .iload_n 1, 1, []), (22, .aload_n 0, 1, []), (23, .getfield 96, 3, [8, 33, 0]), (26, .iconst 4, 1, []), (27, .iload_n 1, 1, []), (28, .imul, 1, []), (29, .iaload, 1, []), (30, .aload_n 0, 1, []), (31, .getfield 90, 3, [8, 31, 0]), (34, .iconst 4, 1, []), (35, .iload_n 1, 1, []), (36, .imul, 1, []), (37, .iaload, 1, []), (38, .invokevirtual 248, 3, [103, 0]), (41, .return_, 1, []), (42, .iconst 0, 1, []), (43, .istore_n 2, 1, []), (44, .iconst 0, 1, []), (45, .istore_n 3, 1, []), (46, .iload_n 3, 1, []), (47, .iconst 4, 1, []), (48, .if_icmp .ge 71, 3, []), (51, .iload_n 2, 1, []), (52, .aload_n 0, 1, []), (53, .getfield 108, 3, [8, 37, 0]), (56, .iload_n 1, 1, []), (57, .baload, 1, []), (58, .ifCond .eq 52, 3, []), (61, .aload_n 0, 1, []), (62, .getfield 99, 3, [8, 34, 0]), (65, .iload_n 3, 1, []), (66, .iaload, 1, []), (67, .aload_n 0, 1, []), (68, .getfield 111, 3, [8, 38, 0]), (71, .iload_n 1, 1, []), (72, .iaload, 1, []), (73, .if_icmp .ne 37, 3, []), (76, .aload_n 0, 1, []), (77, .getfield 102, 3, [8, 35, 0]), (80, .iload_n 3, 1, []), (81, .iaload, 1, []), (82, .aload_n 0, 1, []), (83, .getfield 114, 3, [8, 39, 0]), (86, .iload_n 1, 1, []), (87, .iaload, 1, []), (88, .if_icmp .ne 22, 3, []), (91, .aload_n 0, 1, []), (92, .getfield 105, 3, [8, 36, 0]), (95, .iload_n 3, 1, []), (96, .iaload, 1, []), (97, .aload_n 0, 1, []), (98, .getfield 117, 3, [8, 40, 0]), (101, .iload_n 1, 1, []), (102, .iaload, 1, []), (103, .if_icmp .ne 7, 3, []), (106, .iconst 1, 1, []), (107, .goto 4, 3, []), (110, .iconst 0, 1, []), (111, .iadd, 1, []), (112, .istore_n 2, 1, []), (113, .iinc 3 1, 3, []), (116, .goto (-70), 3, []), (119, .iload_n 2, 1, []), (120, .iconst 3, 1, []), (121, .if_icmp .lt 20, 3, []), (124, .aload_n 0, 1, []), (125, .iload_n 1, 1, []), (126, .aload_n 0, 1, []), (127, .getfield 120, 3, [8, 41, 0]), (130, .iload_n 1, 1, []), (131, .iaload, 1, []), (132, .aload_n 0, 1, []), (133, .getfield 114, 3, [8, 39, 0]), (136, .iload_n 1, 1, []), (137, .iaload, 1, []), (138, .invokevirtual 248, 3, [103, 0]), (141, .return_, 1, [])]
def tb_X8_takeReply : List pm_R := [(0, .aload_n 0, 1, []), (1, .iload_n 3, 1, []), (2, .aload_n 0, 1, []), (3, .getfield 251, 3, [8, 29, 0]), (6, .if_icmp .le 7, 3, []), (9, .iload_n 3, 1, []), (10, .goto 7, 3, []), (13, .aload_n 0, 1, []), (14, .getfield 251, 3, [8, 29, 0]), (17, .putfield 251, 3, [8, 29, 0]), (20, .iconst 4, 1, []), (21, .iload_n 2, 1, []), (22, .imul, 1, []), (23, .iload_n 1, 1, []), (24, .iadd, 1, []), (25, .istore 7, 2, []), (27, .aload_n 0, 1, []), (28, .getfield 87, 3, [8, 30, 0]), (31, .iload 7, 2, []), (33, .iaload, 1, []), (34, .iload_n 3, 1, []), (35, .if_icmp .gt 38, 3, []), (38, .aload_n 0, 1, []), (39, .getfield 87, 3, [8, 30, 0]), (42, .iload 7, 2, []), (44, .iload_n 3, 1, []), (45, .iastore, 1, []), (46, .aload_n 0, 1, []), (47, .getfield 90, 3, [8, 31, 0]), (50, .iload 7, 2, []), (52, .iload 4, 2, []), (54, .iastore, 1, []), (55, .aload_n 0, 1, []), (56, .getfield 93, 3, [8, 32, 0]), (59, .iload 7, 2, []), (61, .iload 5, 2, []), (63, .iastore, 1, []), (64, .aload_n 0, 1, []), (65, .getfield 96, 3, [8, 33, 0]), (68, .iload 7, 2, []), (70, .iload 6, 2, []), (72, .iastore, 1, []), (73, .aload_n 0, 1, []), (74, .iload_n 2, 1, []), (75, .invokevirtual 254, 3, [104, 0]), (78, .return_, 1, [])]
def tb_X8_takeAck : List pm_R := [(0, .aload_n 0, 1, []), (1, .getfield 57, 3, [8, 19, 0]), (4, .iload_n 1, 1, []), (5, .iaload, 1, []), (6, .istore_n 2, 1, []), (7, .aload_n 0, 1, []), (8, .getfield 99, 3, [8, 34, 0]), (11, .iload_n 2, 1, []), (12, .aload_n 0, 1, []), (13, .getfield 63, 3, [8, 21, 0]), (16, .iload_n 1, 1, []), (17, .iaload, 1, []), (18, .iastore, 1, []), (19, .aload_n 0, 1, []), (20, .getfield 102, 3, [8, 35, 0]), (23, .iload_n 2, 1, []), (24, .aload_n 0, 1, []), (25, .getfield 66, 3, [8, 22, 0]), (28, .iload_n 1, 1, []), (29, .iaload, 1, []), (30, .iastore, 1, []), (31, .aload_n 0, 1, []), (32, .getfield 105, 3, [8, 36, 0]), (35, .iload_n 2, 1, []), (36, .aload_n 0, 1, []), (37, .getfield 72, 3, [8, 24, 0]), (40, .iload_n 1, 1, []), (41, .iaload, 1, []), (42, .iastore, 1, []), (43, .iconst 0, 1, []), (44, .istore_n 3, 1, []), (45, .iload_n 3, 1, []), (46, .aload_n 0, 1, []), (47, .getfield 257, 3, [8, 2, 0]), (50, .if_icmp .ge 14, 3, []), (53, .aload_n 0, 1, []), (54, .iload_n 3, 1, []), (55, .invokevirtual 254, 3, [104, 0]), (58, .iinc 3 1, 3, []), (61, .goto (-16), 3, []), (64, .return_, 1, [])]
def tb_X8_issue : List pm_R := [(0, .aload_n 0, 1, []), (1, .iconst 0, 1, []), (2, .putfield 139, 3, [8, 0, 0]), (5, .iload_n 1, 1, []), (6, .ifCond .lt 17, 3, []), (9, .iload_n 1, 1, []), (10, .iconst 2, 1, []), (11, .if_icmp .gt 12, 3, []), (14, .iload_n 2, 1, []), (15, .ifCond .lt 8, 3, []), (18, .iload_n 2, 1, []), (19, .iconst 3, 1, []), (20, .if_icmp .le 9, 3, []), (23, .aload_n 0, 1, []), (24, .iconst 1, 1, []), (25, .invokevirtual 260, 3, [74, 0]), (28, .ireturn, 1, []), (29, .aload_n 0, 1, []), (30, .getfield 257, 3, [8, 2, 0]), (33, .bipush 12, 2, []), (35, .if_icmp .ne 9, 3, []), (38, .aload_n 0, 1, []), (39, .iconst 2, 1, []), (40, .invokevirtual 260, 3, [74, 0]), (43, .ireturn, 1, []), (44, .aload_n 0, 1, []), (45, .getfield 7, 3, [8, 3, 0]), (48, .aload_n 0, 1, []), (49, .getfield 257, 3, [8, 2, 0]), (52, .iload_n 1, 1, []), (53, .iastore, 1, []), (54, .aload_n 0, 1, []), (55, .getfield 13, 3, [8, 4, 0]), (58, .aload_n 0, 1, []), (59, .getfield 257, 3, [8, 2, 0]), (62, .iload_n 2, 1, []), (63, .iastore, 1, []), (64, .aload_n 0, 1, []), (65, .getfield 16, 3, [8, 5, 0]), (68, .aload_n 0, 1, []), (69, .getfield 257, 3, [8, 2, 0]), (72, .iload_n 3, 1, []), (73, .iastore, 1, []), (74, .aload_n 0, 1, []), (75, .dup, 1, []), (76, .getfield 257, 3, [8, 2, 0]), (79, .iconst 1, 1, []), (80, .iadd, 1, []), (81, .putfield 257, 3, [8, 2, 0]), (84, .aload_n 0, 1, []), (85, .iconst 0, 1, []), (86, .iconst 4, 1, []), (87, .aload_n 0, 1, []), (88, .getfield 251, 3, [8, 29, 0]), (91, .iconst 4, 1, []), (92, .irem, 1, []), (93, .iconst 0, 1, []), (94, .aload_n 0, 1, []), (95, .getfield 257, 3, [8, 2, 0]), (98, .iconst 1, 1, []), (99, .isub, 1, []), (100, .iconst 0, 1, []), (101, .iconst 0, 1, []), (102, .invokevirtual 151, 3, [81, 0]), (105, .istore 4, 2, []), (107, .aload_n 0, 1, []), (108, .getfield 257, 3, [8, 2, 0]), (111, .iconst 1, 1, []), (112, .isub, 1, []), (113, .ireturn, 1, [])]
def tb_X8_isRequest : List pm_R := [(0, .iload_n 1, 1, []), (1, .ifCond .lt 15, 3, []), (4, .iload_n 1, 1, []), (5, .aload_n 0, 1, []), (6, .getfield 257, 3, [8, 2, 0]), (9, .if_icmp .ge 7, 3, []), (12, .iconst 1, 1, []), (13, .goto 4, 3, []), (16, .iconst 0, 1, []), (17, .ireturn, 1, [])]
def tb_X8_retry : List pm_R := [(0, .aload_n 0, 1, []), (1, .iconst 0, 1, []), (2, .putfield 139, 3, [8, 0, 0]), (5, .aload_n 0, 1, []), (6, .iload_n 1, 1, []), (7, .invokevirtual 263, 3, [108, 0]), (10, .ifCond .ne 9, 3, []), (13, .aload_n 0, 1, []), (14, .iconst 1, 1, []), (15, .invokevirtual 260, 3, [74, 0]), (18, .ireturn, 1, []), (19, .aload_n 0, 1, []), (20, .getfield 123, 3, [8, 42, 0]), (23, .iload_n 1, 1, []), (24, .baload, 1, []), (25, .ifCond .eq 5, 3, []), (28, .iconst 0, 1, []), (29, .ireturn, 1, []), (30, .iconst 0, 1, []), (31, .istore_n 2, 1, []), (32, .iload_n 2, 1, []), (33, .iconst 4, 1, []), (34, .if_icmp .ge 19, 3, []), (37, .aload_n 0, 1, []), (38, .iload_n 1, 1, []), (39, .iload_n 2, 1, []), (40, .invokevirtual 244, 3, [102, 0]), (43, .iconst 3, 1, []), (44, .if_icmp .ge 9, 3, []), (47, .iinc 2 1, 3, []), (50, .goto (-18), 3, []), (53, .iload_n 2, 1, []), (54, .iconst 4, 1, []), (55, .if_icmp .ne 15, 3, []), (58, .aload_n 0, 1, []), (59, .iconst 0, 1, []), (60, .iconst 4, 1, []), (61, .iconst 0, 1, []), (62, .iload_n 1, 1, []), (63, .iconst 0, 1, []), (64, .iconst 0, 1, []), (65, .invokevirtual 161, 3, [82, 0]), (68, .iconst 1, 1, []), (69, .ireturn, 1, []), (70, .iconst 4, 1, []), (71, .iload_n 1, 1, []), (72, .imul, 1, []), (73, .iload_n 2, 1, []), (74, .iadd, 1, []), (75, .istore_n 3, 1, []), (76, .aload_n 0, 1, []), (77, .getfield 108, 3, [8, 37, 0]), (80, .iload_n 1, 1, []), (81, .iconst 1, 1, []), (82, .bastore, 1, []), (83, .aload_n 0, 1, []), (84, .getfield 111, 3, [8, 38, 0]), (87, .iload_n 1, 1, []), (88, .aload_n 0, 1, []), (89, .getfield 87, 3, [8, 30, 0]), (92, .iload_n 3, 1, []), (93, .iaload, 1, []), (94, .iastore, 1, []), (95, .aload_n 0, 1, []), (96, .getfield 114, 3, [8, 39, 0]), (99, .iload_n 1, 1, []), (100, .aload_n 0, 1, []), (101, .getfield 90, 3, [8, 31, 0]), (104, .iload_n 3, 1, []), (105, .iaload, 1, []), (106, .iastore, 1, []), (107, .aload_n 0, 1, []), (108, .getfield 117, 3, [8, 40, 0]), (111, .iload_n 1, 1, []), (112, .aload_n 0, 1, []), (113, .getfield 93, 3, [8, 32, 0]), (116, .iload_n 3, 1, []), (117, .iaload, 1, []), (118, .iastore, 1, []), (119, .aload_n 0, 1, []), (120, .getfield 120, 3, [8, 41, 0]), (123, .iload_n 1, 1, []), (124, .aload_n 0, 1, []), (125, .getfield 96, 3, [8, 33, 0]), (128, .iload_n 3, 1, []), (129, .iaload, 1, []), (130, .iastore, 1, []), (131, .aload_n 0, 1, []), (132, .iconst 3, 1, []), (133, .iconst 4, 1, []), (134, .aload_n 0, 1, []), (135, .getfield 87, 3, [8, 30, 0]), (138, .iload_n 3, 1, []), (139, .iaload, 1, []), (140, .iconst (-1), 1, []), (141, .aload_n 0, 1, []), (142, .getfield 90, 3, [8, 31, 0]), (145, .iload_n 3, 1, []), (146, .iaload, 1, []), (147, .aload_n 0, 1, []), (148, .getfield 93, 3, [8, 32, 0]), (151, .iload_n 3, 1, []), (152, .iaload, 1, []), (153, .invokevirtual 161, 3, [82, 0]), (156, .iconst 2, 1, []), (157, .ireturn, 1, [])]
def tb_X8_isUnderWay : List pm_R := [(0, .iload_n 1, 1, []), (1, .ifCond .lt 24, 3, []), (4, .iload_n 1, 1, []), (5, .aload_n 0, 1, []), (6, .getfield 148, 3, [8, 17, 0]), (9, .if_icmp .ge 16, 3, []), (12, .aload_n 0, 1, []), (13, .getfield 84, 3, [8, 28, 0]), (16, .iload_n 1, 1, []), (17, .iaload, 1, []), (18, .ifCond .ne 7, 3, []), (21, .iconst 1, 1, []), (22, .goto 4, 3, []), (25, .iconst 0, 1, []), (26, .ireturn, 1, [])]
def tb_X8_deliver : List pm_R := [(0, .aload_n 0, 1, []), (1, .iconst 0, 1, []), (2, .putfield 139, 3, [8, 0, 0]), (5, .aload_n 0, 1, []), (6, .iload_n 1, 1, []), (7, .invokevirtual 266, 3, [110, 0]), (10, .ifCond .ne 5, 3, []), (13, .iconst 0, 1, []), (14, .ireturn, 1, []), (15, .aload_n 0, 1, []), (16, .getfield 84, 3, [8, 28, 0]), (19, .iload_n 1, 1, []), (20, .iconst 1, 1, []), (21, .iastore, 1, []), (22, .aload_n 0, 1, []), (23, .getfield 60, 3, [8, 20, 0]), (26, .iload_n 1, 1, []), (27, .iaload, 1, []), (28, .iconst 4, 1, []), (29, .if_icmp .ne 64, 3, []), (32, .aload_n 0, 1, []), (33, .getfield 54, 3, [8, 18, 0]), (36, .iload_n 1, 1, []), (37, .iaload, 1, []), (38, .iconst 2, 1, []), (39, .if_icmp .ne 46, 3, []), (42, .aload_n 0, 1, []), (43, .aload_n 0, 1, []), (44, .getfield 57, 3, [8, 19, 0]), (47, .iload_n 1, 1, []), (48, .iaload, 1, []), (49, .aload_n 0, 1, []), (50, .getfield 69, 3, [8, 23, 0]), (53, .iload_n 1, 1, []), (54, .iaload, 1, []), (55, .aload_n 0, 1, []), (56, .getfield 63, 3, [8, 21, 0]), (59, .iload_n 1, 1, []), (60, .iaload, 1, []), (61, .aload_n 0, 1, []), (62, .getfield 66, 3, [8, 22, 0]), (65, .iload_n 1, 1, []), (66, .iaload, 1, []), (67, .aload_n 0, 1, []), (68, .getfield 72, 3, [8, 24, 0]), (71, .iload_n 1, 1, []), (72, .iaload, 1, []), (73, .aload_n 0, 1, []), (74, .getfield 75, 3, [8, 25, 0]), (77, .iload_n 1, 1, []), (78, .iaload, 1, []), (79, .invokevirtual 269, 3, [105, 0]), (82, .goto 35, 3, []), (85, .aload_n 0, 1, []), (86, .iload_n 1, 1, []), (87, .invokevirtual 272, 3, [106, 0]), (90, .goto 27, 3, []), (93, .aload_n 0, 1, []), (94, .getfield 60, 3, [8, 20, 0]), (97, .iload_n 1, 1, []), (98, .iaload, 1, []), (99, .aload_n 0, 1, []), (100, .getfield 135, 3, [8, 1, 0]), (103, .if_icmp .eq 14, 3, []), (106, .aload_n 0, 1, []), (107, .aload_n 0, 1, []), (108, .getfield 60, 3, [8, 20, 0]), (111, .iload_n 1, 1, []), (112, .iaload, 1, []), (113, .iload_n 1, 1, []), (114, .invokevirtual 275, 3, [100, 0]), (117, .iconst 1, 1, []), (118, .ireturn, 1, [])]
def tb_X8_flood : List pm_R := [(0, .aload_n 0, 1, []), (1, .iconst 0, 1, []), (2, .putfield 139, 3, [8, 0, 0]), (5, .iload_n 1, 1, []), (6, .ifCond .ge 9, 3, []), (9, .aload_n 0, 1, []), (10, .iconst 1, 1, []), (11, .invokevirtual 260, 3, [74, 0]), (14, .ireturn, 1, []), (15, .iconst 0, 1, []), (16, .istore_n 2, 1, []), (17, .iload_n 1, 1, []), (18, .istore_n 3, 1, []), (19, .iload_n 3, 1, []), (20, .aload_n 0, 1, []), (21, .getfield 148, 3, [8, 17, 0]), (24, .if_icmp .ge 25, 3, []), (27, .iload_n 2, 1, []), (28, .aload_n 0, 1, []), (29, .iload_n 3, 1, []), (30, .invokevirtual 278, 3, [111, 0]), (33, .ifCond .eq 7, 3, []), (36, .iconst 1, 1, []), (37, .goto 4, 3, []), (40, .iconst 0, 1, []), (41, .iadd, 1, []), (42, .istore_n 2, 1, []), (43, .iinc 3 1, 3, []), (46, .goto (-27), 3, []), (49, .iload_n 2, 1, []), (50, .ireturn, 1, [])]
def tb_X8_lose : List pm_R := [(0, .aload_n 0, 1, []), (1, .iconst 0, 1, []), (2, .putfield 139, 3, [8, 0, 0]), (5, .aload_n 0, 1, []), (6, .iload_n 1, 1, []), (7, .invokevirtual 266, 3, [110, 0]), (10, .ifCond .ne 5, 3, []), (13, .iconst 0, 1, []), (14, .ireturn, 1, []), (15, .aload_n 0, 1, []), (16, .getfield 84, 3, [8, 28, 0]), (19, .iload_n 1, 1, []), (20, .iconst 2, 1, []), (21, .iastore, 1, []), (22, .iconst 1, 1, []), (23, .ireturn, 1, [])]
def tb_X8_isReplica : List pm_R := [(0, .iload_n 0, 1, []), (1, .ifCond .lt 12, 3, []), (4, .iload_n 0, 1, []), (5, .iconst 3, 1, []), (6, .if_icmp .gt 7, 3, []), (9, .iconst 1, 1, []), (10, .goto 4, 3, []), (13, .iconst 0, 1, []), (14, .ireturn, 1, [])]
def tb_X8_refuseThis : List pm_R := [(0, .aload_n 0, 1, []), (1, .iconst 1, 1, []), (2, .putfield 139, 3, [8, 0, 0]), (5, .iconst 0, 1, []), (6, .ireturn, 1, [])]
def tb_X8_patience : List pm_R := [(0, .aload_n 0, 1, []), (1, .iconst 0, 1, []), (2, .putfield 139, 3, [8, 0, 0]), (5, .iload_n 1, 1, []), (6, .invokestatic 281, 3, [114, 4]), (9, .ifCond .ne 8, 3, []), (12, .aload_n 0, 1, []), (13, .invokevirtual 284, 3, [115, 0]), (16, .ireturn, 1, []), (17, .iload_n 1, 1, []), (18, .aload_n 0, 1, []), (19, .getfield 135, 3, [8, 1, 0]), (22, .if_icmp .eq 21, 3, []), (25, .aload_n 0, 1, []), (26, .getfield 32, 3, [8, 10, 0]), (29, .iload_n 1, 1, []), (30, .baload, 1, []), (31, .ifCond .ne 14, 3, []), (34, .aload_n 0, 1, []), (35, .getfield 36, 3, [8, 11, 0]), (38, .iload_n 1, 1, []), (39, .iaload, 1, []), (40, .ifCond .ne 5, 3, []), (43, .iconst 0, 1, []), (44, .ireturn, 1, []), (45, .aload_n 0, 1, []), (46, .iconst 5, 1, []), (47, .iload_n 1, 1, []), (48, .aload_n 0, 1, []), (49, .getfield 19, 3, [8, 6, 0]), (52, .iload_n 1, 1, []), (53, .iaload, 1, []), (54, .iconst (-1), 1, []), (55, .iconst 0, 1, []), (56, .iconst 0, 1, []), (57, .invokevirtual 161, 3, [82, 0]), (60, .aload_n 0, 1, []), (61, .iload_n 1, 1, []), (62, .iload_n 1, 1, []), (63, .invokevirtual 234, 3, [92, 0]), (66, .iconst 1, 1, []), (67, .ireturn, 1, [])]
def tb_X8_lie : List pm_R := [(0, .aload_n 0, 1, []), (1, .iconst 0, 1, []), (2, .putfield 139, 3, [8, 0, 0]), (5, .iload_n 1, 1, []), (6, .invokestatic 281, 3, [114, 4]), (9, .ifCond .eq 19, 3, []), (12, .aload_n 0, 1, []), (13, .iload_n 2, 1, []), (14, .invokevirtual 263, 3, [108, 0]), (17, .ifCond .eq 11, 3, []), (20, .iload_n 1, 1, []), (21, .aload_n 0, 1, []), (22, .getfield 135, 3, [8, 1, 0]), (25, .if_icmp .ne 8, 3, []), (28, .aload_n 0, 1, []), (29, .invokevirtual 284, 3, [115, 0]), (32, .ireturn, 1, []), (33, .aload_n 0, 1, []), (34, .getfield 135, 3, [8, 1, 0]), (37, .ifCond .lt 18, 3, []), (40, .aload_n 0, 1, []), (41, .getfield 19, 3, [8, 6, 0]), (44, .iload_n 1, 1, []), (45, .iaload, 1, []), (46, .iconst 4, 1, []), (47, .irem, 1, []), (48, .aload_n 0, 1, []), (49, .getfield 135, 3, [8, 1, 0]), (52, .if_icmp .eq 5, 3, []), (55, .iconst 0, 1, []), (56, .ireturn, 1, []), (57, .aload_n 0, 1, []), (58, .iload_n 1, 1, []), (59, .aload_n 0, 1, []), (60, .getfield 135, 3, [8, 1, 0]), (63, .aload_n 0, 1, []), (64, .getfield 19, 3, [8, 6, 0]), (67, .iload_n 1, 1, []), (68, .iaload, 1, []), (69, .aload_n 0, 1, []), (70, .getfield 22, 3, [8, 7, 0]), (73, .iload_n 1, 1, []), (74, .iaload, 1, []), (75, .iconst 1, 1, []), (76, .iadd, 1, []), (77, .iload_n 2, 1, []), (78, .bipush 31, 2, []), (80, .aload_n 0, 1, []), (81, .getfield 25, 3, [8, 8, 0]), (84, .iload_n 1, 1, []), (85, .laload, 1, []), (86, .aload_n 0, 1, []), (87, .getfield 22, 3, [8, 7, 0]), (90, .iload_n 1, 1, []), (91, .iaload, 1, []), (92, .invokestatic 155, 3, [78, 4]), (95, .imul, 1, []), (96, .iload_n 2, 1, []), (97, .iadd, 1, []), (98, .iconst 1, 1, []), (99, .iadd, 1, []), (100, .invokevirtual 226, 3, [89, 0]), (103, .ireturn, 1, [])]
def tb_X8_echo : List pm_R := [(0, .aload_n 0, 1, []), (1, .iconst 0, 1, []), (2, .putfield 139, 3, [8, 0, 0]), (5, .iload_n 1, 1, []), (6, .invokestatic 281, 3, [114, 4]), (9, .ifCond .eq 19, 3, []), (12, .aload_n 0, 1, []), (13, .iload_n 2, 1, []), (14, .invokevirtual 263, 3, [108, 0]), (17, .ifCond .eq 11, 3, []), (20, .iload_n 1, 1, []), (21, .aload_n 0, 1, []), (22, .getfield 135, 3, [8, 1, 0]), (25, .if_icmp .ne 8, 3, []), (28, .aload_n 0, 1, []), (29, .invokevirtual 284, 3, [115, 0]), (32, .ireturn, 1, []), (33, .iconst 4, 1, []), (34, .iload_n 2, 1, []), (35, .imul, 1, []), (36, .iload_n 1, 1, []), (37, .iadd, 1, []), (38, .istore_n 3, 1, []), (39, .aload_n 0, 1, []), (40, .getfield 135, 3, [8, 1, 0]), (43, .ifCond .lt 12, 3, []), (46, .aload_n 0, 1, []), (47, .getfield 87, 3, [8, 30, 0]), (50, .iload_n 3, 1, []), (51, .iaload, 1, []), (52, .ifCond .ge 5, 3, []), (55, .iconst 0, 1, []), (56, .ireturn, 1, []), (57, .aload_n 0, 1, []), (58, .aload_n 0, 1, []), (59, .getfield 135, 3, [8, 1, 0]), (62, .iload_n 2, 1, []), (63, .aload_n 0, 1, []), (64, .getfield 87, 3, [8, 30, 0]), (67, .iload_n 3, 1, []), (68, .iaload, 1, []), (69, .aload_n 0, 1, []), (70, .getfield 90, 3, [8, 31, 0]), (73, .iload_n 3, 1, []), (74, .iaload, 1, []), (75, .aload_n 0, 1, []), (76, .getfield 93, 3, [8, 32, 0]), (79, .iload_n 3, 1, []), (80, .iaload, 1, []), (81, .aload_n 0, 1, []), (82, .getfield 96, 3, [8, 33, 0]), (85, .iload_n 3, 1, []), (86, .iaload, 1, []), (87, .invokevirtual 269, 3, [105, 0]), (90, .iconst 1, 1, []), (91, .ireturn, 1, [])]
def tb_X8_replica : List pm_R := [(0, .aload_n 0, 1, []), (1, .iconst 0, 1, []), (2, .putfield 139, 3, [8, 0, 0]), (5, .iload_n 1, 1, []), (6, .invokestatic 281, 3, [114, 4]), (9, .ifCond .ne 9, 3, []), (12, .aload_n 0, 1, []), (13, .iconst 1, 1, []), (14, .invokevirtual 260, 3, [74, 0]), (17, .ireturn, 1, []), (18, .iload_n 2, 1, []), (19, .bipush 10, 2, []), (21, .if_icmp .lt 40, 3, []), (24, .iload_n 2, 1, []), (25, .bipush 21, 2, []), (27, .if_icmp .gt 34, 3, []), (30, .iload_n 2, 1, []), (31, .bipush 10, 2, []), (33, .isub, 1, []), (34, .aload_n 0, 1, []), (35, .getfield 22, 3, [8, 7, 0]), (38, .iload_n 1, 1, []), (39, .iaload, 1, []), (40, .if_icmp .ge 19, 3, []), (43, .aload_n 0, 1, []), (44, .getfield 25, 3, [8, 8, 0]), (47, .iload_n 1, 1, []), (48, .laload, 1, []), (49, .iload_n 2, 1, []), (50, .bipush 10, 2, []), (52, .isub, 1, []), (53, .invokestatic 144, 3, [75, 4]), (56, .goto 4, 3, []), (59, .iconst (-1), 1, []), (60, .ireturn, 1, []), (61, .iload_n 2, 1, []), (62, .bipush 30, 2, []), (64, .if_icmp .lt 36, 3, []), (67, .iload_n 2, 1, []), (68, .bipush 33, 2, []), (70, .if_icmp .gt 30, 3, []), (73, .aload_n 0, 1, []), (74, .aload_n 0, 1, []), (75, .getfield 25, 3, [8, 8, 0]), (78, .iload_n 1, 1, []), (79, .laload, 1, []), (80, .aload_n 0, 1, []), (81, .getfield 22, 3, [8, 7, 0]), (84, .iload_n 1, 1, []), (85, .iaload, 1, []), (86, .invokevirtual 158, 3, [80, 0]), (89, .pop, 1, []), (90, .aload_n 0, 1, []), (91, .getfield 132, 3, [8, 45, 0]), (94, .iload_n 2, 1, []), (95, .bipush 30, 2, []), (97, .isub, 1, []), (98, .iaload, 1, []), (99, .ireturn, 1, []), (100, .iload_n 2, 1, []), (101, .tableswitch 109 0 6 #[43, 50, 57, 64, 79, 86, 93], 43, []), (144, .aload_n 0, 1, []), (145, .getfield 19, 3, [8, 6, 0]), (148, .iload_n 1, 1, []), (149, .iaload, 1, []), (150, .ireturn, 1, []), (151, .aload_n 0, 1, []), (152, .getfield 22, 3, [8, 7, 0]), (155, .iload_n 1, 1, []), (156, .iaload, 1, []), (157, .ireturn, 1, []), (158, .aload_n 0, 1, []), (159, .getfield 29, 3, [8, 9, 0]), (162, .iload_n 1, 1, []), (163, .iaload, 1, []), (164, .ireturn, 1, []), (165, .aload_n 0, 1, []), (166, .getfield 32, 3, [8, 10, 0]), (169, .iload_n 1, 1, []), (170, .baload, 1, []), (171, .ifCond .eq 7, 3, []), (174, .iconst 1, 1, []), (175, .goto 4, 3, []), (178, .iconst 0, 1, []), (179, .ireturn, 1, []), (180, .aload_n 0, 1, []), (181, .getfield 36, 3, [8, 11, 0]), (184, .iload_n 1, 1, []), (185, .iaload, 1, []), (186, .ireturn, 1, []), (187, .aload_n 0, 1, []), (188, .getfield 39, 3, [8, 12, 0]), (191, .iload_n 1, 1, []), (192, .iaload, 1, []), (193, .ireturn, 1, []), (194, .aload_n 0, 1, []), (195, .getfield 25, 3, [8, 8, 0]), (198, .iload_n 1, 1, []), (199, .laload, 1, []), (200, .aload_n 0, 1, []), (201, .getfield 22, 3, [8, 7, 0]), (204, .iload_n 1, 1, []), (205, .iaload, 1, []), (206, .invokestatic 155, 3, [78, 4]), (209, .ireturn, 1, []), (210, .aload_n 0, 1, []), (211, .iconst 1, 1, []), (212, .invokevirtual 260, 3, [74, 0]), (215, .ireturn, 1, [])]
def tb_X8_messages : List pm_R := [(0, .aload_n 0, 1, []), (1, .iconst 0, 1, []), (2, .putfield 139, 3, [8, 0, 0]), (5, .aload_n 0, 1, []), (6, .getfield 148, 3, [8, 17, 0]), (9, .ireturn, 1, [])]
def tb_X8_message : List pm_R := [(0, .aload_n 0, 1, []), (1, .iconst 0, 1, []), (2, .putfield 139, 3, [8, 0, 0]), (5, .iload_n 1, 1, []), (6, .ifCond .lt 11, 3, []), (9, .iload_n 1, 1, []), (10, .aload_n 0, 1, []), (11, .getfield 148, 3, [8, 17, 0]), (14, .if_icmp .lt 9, 3, []), (17, .aload_n 0, 1, []), (18, .iconst 1, 1, []), (19, .invokevirtual 260, 3, [74, 0]), (22, .ireturn, 1, []), (23, .iload_n 2, 1, []), (24, .tableswitch 93 0 6 #[44, 51, 58, 65, 72, 79, 86], 44, []), (68, .aload_n 0, 1, []), (69, .getfield 54, 3, [8, 18, 0]), (72, .iload_n 1, 1, []), (73, .iaload, 1, []), (74, .ireturn, 1, []), (75, .aload_n 0, 1, []), (76, .getfield 57, 3, [8, 19, 0]), (79, .iload_n 1, 1, []), (80, .iaload, 1, []), (81, .ireturn, 1, []), (82, .aload_n 0, 1, []), (83, .getfield 60, 3, [8, 20, 0]), (86, .iload_n 1, 1, []), (87, .iaload, 1, []), (88, .ireturn, 1, []), (89, .aload_n 0, 1, []), (90, .getfield 63, 3, [8, 21, 0]), (93, .iload_n 1, 1, []), (94, .iaload, 1, []), (95, .ireturn, 1, []), (96, .aload_n 0, 1, []), (97, .getfield 69, 3, [8, 23, 0]), (100, .iload_n 1, 1, []), (101, .iaload, 1, []), (102, .ireturn, 1, []), (103, .aload_n 0, 1, []), (104, .getfield 66, 3, [8, 22, 0]), (107, .iload_n 1, 1, []), (108, .iaload, 1, []), (109, .ireturn, 1, []), (110, .aload_n 0, 1, []), (111, .getfield 84, 3, [8, 28, 0]), (114, .iload_n 1, 1, []), (115, .iaload, 1, []), (116, .ireturn, 1, []), (117, .aload_n 0, 1, []), (118, .iconst 1, 1, []), (119, .invokevirtual 260, 3, [74, 0]), (122, .ireturn, 1, [])]
def tb_X8_replies : List pm_R := [(0, .iconst 0, 1, []), (1, .istore_n 2, 1, []), (2, .iconst 0, 1, []), (3, .istore_n 3, 1, []), (4, .iload_n 3, 1, []), (5, .iconst 4, 1, []), (6, .if_icmp .ge 30, 3, []), (9, .iload_n 2, 1, []), (10, .aload_n 0, 1, []), (11, .getfield 87, 3, [8, 30, 0]), (14, .iconst 4, 1, []), (15, .iload_n 1, 1, []), (16, .imul, 1, []), (17, .iload_n 3, 1, []), (18, .iadd, 1, []), (19, .iaload, 1, []), (20, .ifCond .lt 7, 3, []), (23, .iconst 1, 1, []), (24, .goto 4, 3, []), (27, .iconst 0, 1, []), (28, .iadd, 1, []), (29, .istore_n 2, 1, []), (30, .iinc 3 1, 3, []), (33, .goto (-29), 3, []), (36, .iload_n 2, 1, []), (37, .ireturn, 1, [])]
def tb_X8_request : List pm_R := [(0, .aload_n 0, 1, []), (1, .iconst 0, 1, []), (2, .putfield 139, 3, [8, 0, 0]), (5, .aload_n 0, 1, []), (6, .iload_n 1, 1, []), (7, .invokevirtual 263, 3, [108, 0]), (10, .ifCond .ne 9, 3, []), (13, .aload_n 0, 1, []), (14, .iconst 1, 1, []), (15, .invokevirtual 260, 3, [74, 0]), (18, .ireturn, 1, []), (19, .iload_n 2, 1, []), (20, .tableswitch 86 0 4 #[36, 51, 58, 65, 71], 36, []), (56, .aload_n 0, 1, []), (57, .getfield 123, 3, [8, 42, 0]), (60, .iload_n 1, 1, []), (61, .baload, 1, []), (62, .ifCond .eq 7, 3, []), (65, .iconst 2, 1, []), (66, .goto 4, 3, []), (69, .iconst 1, 1, []), (70, .ireturn, 1, []), (71, .aload_n 0, 1, []), (72, .getfield 126, 3, [8, 43, 0]), (75, .iload_n 1, 1, []), (76, .iaload, 1, []), (77, .ireturn, 1, []), (78, .aload_n 0, 1, []), (79, .getfield 129, 3, [8, 44, 0]), (82, .iload_n 1, 1, []), (83, .iaload, 1, []), (84, .ireturn, 1, []), (85, .aload_n 0, 1, []), (86, .iload_n 1, 1, []), (87, .invokevirtual 288, 3, [122, 0]), (90, .ireturn, 1, []), (91, .aload_n 0, 1, []), (92, .getfield 108, 3, [8, 37, 0]), (95, .iload_n 1, 1, []), (96, .baload, 1, []), (97, .ifCond .eq 7, 3, []), (100, .iconst 1, 1, []), (101, .goto 4, 3, []), (104, .iconst 0, 1, []), (105, .ireturn, 1, []), (106, .aload_n 0, 1, []), (107, .iconst 1, 1, []), (108, .invokevirtual 260, 3, [74, 0]), (111, .ireturn, 1, [])]
def tb_X8_view : List pm_R := [(0, .aload_n 0, 1, []), (1, .iconst 0, 1, []), (2, .putfield 139, 3, [8, 0, 0]), (5, .aload_n 0, 1, []), (6, .getfield 251, 3, [8, 29, 0]), (9, .ireturn, 1, [])]
def tb_J6_bitCount_0f7a4 : List pm_R := [(0, .iload_n 0, 1, []), (1, .iload_n 0, 1, []), (2, .iconst 1, 1, []), (3, .iushr, 1, []), (4, .ldc_w 265, 3, [1431655765]), (7, .iand, 1, []), (8, .isub, 1, []), (9, .istore_n 0, 1, []), (10, .iload_n 0, 1, []), (11, .ldc_w 266, 3, [858993459]), (14, .iand, 1, []), (15, .iload_n 0, 1, []), (16, .iconst 2, 1, []), (17, .iushr, 1, []), (18, .ldc_w 266, 3, [858993459]), (21, .iand, 1, []), (22, .iadd, 1, []), (23, .istore_n 0, 1, []), (24, .iload_n 0, 1, []), (25, .iload_n 0, 1, []), (26, .iconst 4, 1, []), (27, .iushr, 1, []), (28, .iadd, 1, []), (29, .ldc_w 267, 3, [252645135]), (32, .iand, 1, []), (33, .istore_n 0, 1, []), (34, .iload_n 0, 1, []), (35, .iload_n 0, 1, []), (36, .bipush 8, 2, []), (38, .iushr, 1, []), (39, .iadd, 1, []), (40, .istore_n 0, 1, []), (41, .iload_n 0, 1, []), (42, .iload_n 0, 1, []), (43, .bipush 16, 2, []), (45, .iushr, 1, []), (46, .iadd, 1, []), (47, .istore_n 0, 1, []), (48, .iload_n 0, 1, []), (49, .bipush 63, 2, []), (51, .iand, 1, []), (52, .ireturn, 1, [])]
def tb_L_cell : List pm_R := [(0, .iload_n 1, 1, []), (1, .aload_n 0, 1, []), (2, .arraylength, 1, []), (3, .if_icmp .ge 9, 3, []), (6, .aload_n 0, 1, []), (7, .iload_n 1, 1, []), (8, .iaload, 1, []), (9, .goto 4, 3, []), (12, .iconst 0, 1, []), (13, .ireturn, 1, [])]
def tb_L_issue : List pm_R := [(0, .aload 4, 2, []), (2, .iconst 0, 1, []), (3, .aload_n 0, 1, []), (4, .iload_n 1, 1, []), (5, .iload_n 2, 1, []), (6, .iload_n 3, 1, []), (7, .invokevirtual 7, 3, [55, 0]), (10, .i2l, 1, []), (11, .lastore, 1, []), (12, .goto 11, 3, []), (15, .astore 5, 2, []), (17, .iconst 1, 1, []), (18, .ireturn, 1, []), (19, .astore 5, 2, []), (21, .iconst 2, 1, []), (22, .ireturn, 1, []), (23, .iconst 0, 1, []), (24, .ireturn, 1, [])]
def tb_L_retry : List pm_R := [(0, .aload_n 2, 1, []), (1, .iconst 0, 1, []), (2, .aload_n 0, 1, []), (3, .iload_n 1, 1, []), (4, .invokevirtual 17, 3, [56, 0]), (7, .i2l, 1, []), (8, .lastore, 1, []), (9, .goto 6, 3, []), (12, .astore_n 3, 1, []), (13, .iconst 1, 1, []), (14, .ireturn, 1, []), (15, .iconst 0, 1, []), (16, .ireturn, 1, [])]
def tb_L_flood : List pm_R := [(0, .aload_n 2, 1, []), (1, .iconst 0, 1, []), (2, .aload_n 0, 1, []), (3, .iload_n 1, 1, []), (4, .invokevirtual 23, 3, [58, 0]), (7, .i2l, 1, []), (8, .lastore, 1, []), (9, .goto 6, 3, []), (12, .astore_n 3, 1, []), (13, .iconst 1, 1, []), (14, .ireturn, 1, []), (15, .iconst 0, 1, []), (16, .ireturn, 1, [])]
def tb_L_patience : List pm_R := [(0, .aload_n 2, 1, []), (1, .iconst 0, 1, []), (2, .aload_n 0, 1, []), (3, .iload_n 1, 1, []), (4, .invokevirtual 26, 3, [60, 0]), (7, .ifCond .eq 7, 3, []), (10, .lconst 1, 1, []), (11, .goto 4, 3, []), (14, .lconst 0, 1, []), (15, .lastore, 1, []), (16, .goto 6, 3, []), (19, .astore_n 3, 1, []), (20, .iconst 1, 1, []), (21, .ireturn, 1, []), (22, .iconst 0, 1, []), (23, .ireturn, 1, [])]
def tb_L_lie : List pm_R := [(0, .aload_n 3, 1, []), (1, .iconst 0, 1, []), (2, .aload_n 0, 1, []), (3, .iload_n 1, 1, []), (4, .iload_n 2, 1, []), (5, .invokevirtual 30, 3, [61, 0]), (8, .ifCond .eq 7, 3, []), (11, .lconst 1, 1, []), (12, .goto 4, 3, []), (15, .lconst 0, 1, []), (16, .lastore, 1, []), (17, .goto 7, 3, []), (20, .astore 4, 2, []), (22, .iconst 1, 1, []), (23, .ireturn, 1, []), (24, .iconst 0, 1, []), (25, .ireturn, 1, [])]
def tb_L_echo : List pm_R := [(0, .aload_n 3, 1, []), (1, .iconst 0, 1, []), (2, .aload_n 0, 1, []), (3, .iload_n 1, 1, []), (4, .iload_n 2, 1, []), (5, .invokevirtual 34, 3, [62, 0]), (8, .ifCond .eq 7, 3, []), (11, .lconst 1, 1, []), (12, .goto 4, 3, []), (15, .lconst 0, 1, []), (16, .lastore, 1, []), (17, .goto 7, 3, []), (20, .astore 4, 2, []), (22, .iconst 1, 1, []), (23, .ireturn, 1, []), (24, .iconst 0, 1, []), (25, .ireturn, 1, [])]
def tb_L_replica : List pm_R := [(0, .aload_n 3, 1, []), (1, .iconst 0, 1, []), (2, .aload_n 0, 1, []), (3, .iload_n 1, 1, []), (4, .iload_n 2, 1, []), (5, .invokevirtual 37, 3, [63, 0]), (8, .i2l, 1, []), (9, .lastore, 1, []), (10, .goto 7, 3, []), (13, .astore 4, 2, []), (15, .iconst 1, 1, []), (16, .ireturn, 1, []), (17, .iconst 0, 1, []), (18, .ireturn, 1, [])]
def tb_L_message : List pm_R := [(0, .aload_n 3, 1, []), (1, .iconst 0, 1, []), (2, .aload_n 0, 1, []), (3, .iload_n 1, 1, []), (4, .iload_n 2, 1, []), (5, .invokevirtual 41, 3, [65, 0]), (8, .i2l, 1, []), (9, .lastore, 1, []), (10, .goto 7, 3, []), (13, .astore 4, 2, []), (15, .iconst 1, 1, []), (16, .ireturn, 1, []), (17, .iconst 0, 1, []), (18, .ireturn, 1, [])]
def tb_L_request : List pm_R := [(0, .aload_n 3, 1, []), (1, .iconst 0, 1, []), (2, .aload_n 0, 1, []), (3, .iload_n 1, 1, []), (4, .iload_n 2, 1, []), (5, .invokevirtual 44, 3, [66, 0]), (8, .i2l, 1, []), (9, .lastore, 1, []), (10, .goto 7, 3, []), (13, .astore 4, 2, []), (15, .iconst 1, 1, []), (16, .ireturn, 1, []), (17, .iconst 0, 1, []), (18, .ireturn, 1, [])]
def tb_L_law : List pm_R := [(0, .new 8, 3, [7]), (3, .dup, 1, []), (4, .aload_n 0, 1, []), (5, .iconst 0, 1, []), (6, .invokestatic 47, 3, [126, 4]), (9, .invokespecial 53, 3, [54, 2]), (12, .astore_n 1, 1, []), (13, .new 56, 3, [8]), (16, .dup, 1, []), (17, .aload_n 0, 1, []), (18, .iconst 0, 1, []), (19, .invokestatic 47, 3, [126, 4]), (22, .invokespecial 58, 3, [72, 2]), (25, .astore_n 2, 1, []), (26, .iconst 1, 1, []), (27, .newarray .long, 2, [1]), (29, .astore_n 3, 1, []), (30, .iconst 1, 1, []), (31, .istore 4, 2, []), (33, .iload 4, 2, []), (35, .aload_n 0, 1, []), (36, .arraylength, 1, []), (37, .iconst 4, 1, []), (38, .isub, 1, []), (39, .if_icmp .gt 768, 3, []), (42, .aload_n 0, 1, []), (43, .iload 4, 2, []), (45, .iaload, 1, []), (46, .bipush 15, 2, []), (48, .iand, 1, []), (49, .tableswitch 752 0 12 #[67, 147, 203, 228, 284, 309, 372, 447, 522, 590, 603, 671, 739], 67, []), (116, .aload_n 1, 1, []), (117, .aload_n 0, 1, []), (118, .iload 4, 2, []), (120, .iconst 1, 1, []), (121, .iadd, 1, []), (122, .iaload, 1, []), (123, .aload_n 0, 1, []), (124, .iload 4, 2, []), (126, .iconst 2, 1, []), (127, .iadd, 1, []), (128, .iaload, 1, []), (129, .aload_n 0, 1, []), (130, .iload 4, 2, []), (132, .iconst 3, 1, []), (133, .iadd, 1, []), (134, .iaload, 1, []), (135, .aload_n 3, 1, []), (136, .invokestatic 59, 3, [127, 9]), (139, .istore 5, 2, []), (141, .aload_n 2, 1, []), (142, .aload_n 0, 1, []), (143, .iload 4, 2, []), (145, .iconst 1, 1, []), (146, .iadd, 1, []), (147, .iaload, 1, []), (148, .aload_n 0, 1, []), (149, .iload 4, 2, []), (151, .iconst 2, 1, []), (152, .iadd, 1, []), (153, .iaload, 1, []), (154, .aload_n 0, 1, []), (155, .iload 4, 2, []), (157, .iconst 3, 1, []), (158, .iadd, 1, []), (159, .iaload, 1, []), (160, .invokevirtual 62, 3, [107, 0]), (163, .istore 6, 2, []), (165, .aload_n 2, 1, []), (166, .invokevirtual 63, 3, [73, 0]), (169, .iload 5, 2, []), (171, .if_icmp .eq 5, 3, []), (174, .iconst 0, 1, []), (175, .ireturn, 1, []), (176, .iload 5, 2, []), (178, .ifCond .ne 15, 3, []), (181, .aload_n 3, 1, []), (182, .iconst 0, 1, []), (183, .laload, 1, []), (184, .iload 6, 2, []), (186, .i2l, 1, []), (187, .lcmp, 1, []), (188, .ifCond .eq 5, 3, []), (191, .iconst 0, 1, []), (192, .ireturn, 1, []), (193, .goto 608, 3, []), (196, .aload_n 1, 1, []), (197, .aload_n 0, 1, []), (198, .iload 4, 2, []), (200, .iconst 1, 1, []), (201, .iadd, 1, []), (202, .iaload, 1, []), (203, .aload_n 3, 1, []), (204, .invokestatic 67, 3, [128, 9]), (207, .istore 5, 2, []), (209, .aload_n 2, 1, []), (210, .aload_n 0, 1, []), (211, .iload 4, 2, []), (213, .iconst 1, 1, []), (214, .iadd, 1, []), (215, .iaload, 1, []), (216, .invokevirtual 70, 3, [109, 0]), (219, .istore 6, 2, []), (221, .aload_n 2, 1, []), (222, .invokevirtual 63, 3, [73, 0]), (225, .iload 5, 2, []), (227, .if_icmp .eq 5, 3, []), (230, .iconst 0, 1, []), (231, .ireturn, 1, []), (232, .iload 5, 2, []), (234, .ifCond .ne 15, 3, []), (237, .aload_n 3, 1, []), (238, .iconst 0, 1, []), (239, .laload, 1, []), (240, .iload 6, 2, []), (242, .i2l, 1, []), (243, .lcmp, 1, []), (244, .ifCond .eq 5, 3, []), (247, .iconst 0, 1, []), (248, .ireturn, 1, []), (249, .goto 552, 3, []), (252, .aload_n 1, 1, []), (253, .aload_n 0, 1, []), (254, .iload 4, 2, []), (256, .iconst 1, 1, []), (257, .iadd, 1, []), (258, .iaload, 1, []), (259, .invokevirtual 71, 3, [57, 0]), (262, .aload_n 2, 1, []), (263, .aload_n 0, 1, []), (264, .iload 4, 2, []), (266, .iconst 1, 1, []), (267, .iadd, 1, []), (268, .iaload, 1, []), (269, .invokevirtual 74, 3, [111, 0]), (272, .if_icmp .eq 529, 3, []), (275, .iconst 0, 1, []), (276, .ireturn, 1, []), (277, .aload_n 1, 1, []), (278, .aload_n 0, 1, []), (279, .iload 4, 2, []), (281, .iconst 1, 1, []), (282, .iadd, 1, []), (283, .iaload, 1, []), (284, .aload_n 3, 1, []), (285, .invokestatic 75, 3, [129, 9]), (288, .istore 5, 2, []), (290, .aload_n 2, 1, []), (291, .aload_n 0, 1, []), (292, .iload 4, 2, []), (294, .iconst 1, 1, []), (295, .iadd, 1, []), (296, .iaload, 1, []), (297, .invokevirtual 77, 3, [112, 0]), (300, .istore 6, 2, []), (302, .aload_n 2, 1, []), (303, .invokevirtual 63, 3, [73, 0]), (306, .iload 5, 2, []), (308, .if_icmp .eq 5, 3, []), (311, .iconst 0, 1, []), (312, .ireturn, 1, []), (313, .iload 5, 2, []), (315, .ifCond .ne 15, 3, []), (318, .aload_n 3, 1, []), (319, .iconst 0, 1, []), (320, .laload, 1, []), (321, .iload 6, 2, []), (323, .i2l, 1, []), (324, .lcmp, 1, []), (325, .ifCond .eq 5, 3, []), (328, .iconst 0, 1, []), (329, .ireturn, 1, []), (330, .goto 471, 3, []), (333, .aload_n 1, 1, []), (334, .aload_n 0, 1, []), (335, .iload 4, 2, []), (337, .iconst 1, 1, []), (338, .iadd, 1, []), (339, .iaload, 1, []), (340, .invokevirtual 78, 3, [59, 0]), (343, .aload_n 2, 1, []), (344, .aload_n 0, 1, []), (345, .iload 4, 2, []), (347, .iconst 1, 1, []), (348, .iadd, 1, []), (349, .iaload, 1, []), (350, .invokevirtual 81, 3, [113, 0]), (353, .if_icmp .eq 448, 3, []), (356, .iconst 0, 1, []), (357, .ireturn, 1, []), (358, .aload_n 1, 1, []), (359, .aload_n 0, 1, []), (360, .iload 4, 2, []), (362, .iconst 1, 1, []), (363, .iadd, 1, []), (364, .iaload, 1, []), (365, .aload_n 3, 1, []), (366, .invokestatic 82, 3, [130, 9]), (369, .istore 5, 2, []), (371, .aload_n 2, 1, []), (372, .aload_n 0, 1, []), (373, .iload 4, 2, []), (375, .iconst 1, 1, []), (376, .iadd, 1, []), (377, .iaload, 1, []), (378, .invokevirtual 84, 3, [116, 0]), (381, .istore 6, 2, []), (383, .aload_n 2, 1, []), (384, .invokevirtual 63, 3, [73, 0]), (387, .iload 5, 2, []), (389, .if_icmp .eq 5, 3, []), (392, .iconst 0, 1, []), (393, .ireturn, 1, []), (394, .iload 5, 2, []), (396, .ifCond .ne 22, 3, []), (399, .aload_n 3, 1, []), (400, .iconst 0, 1, []), (401, .laload, 1, []), (402, .iload 6, 2, []), (404, .ifCond .eq 7, 3, []), (407, .lconst 1, 1, []), (408, .goto 4, 3, []), (411, .lconst 0, 1, []), (412, .lcmp, 1, []), (413, .ifCond .eq 5, 3, []), (416, .iconst 0, 1, []), (417, .ireturn, 1, []), (418, .goto 383, 3, []), (421, .aload_n 1, 1, []), (422, .aload_n 0, 1, []), (423, .iload 4, 2, []), (425, .iconst 1, 1, []), (426, .iadd, 1, []), (427, .iaload, 1, []), (428, .aload_n 0, 1, []), (429, .iload 4, 2, []), (431, .iconst 2, 1, []), (432, .iadd, 1, []), (433, .iaload, 1, []), (434, .aload_n 3, 1, []), (435, .invokestatic 85, 3, [131, 9]), (438, .istore 5, 2, []), (440, .aload_n 2, 1, []), (441, .aload_n 0, 1, []), (442, .iload 4, 2, []), (444, .iconst 1, 1, []), (445, .iadd, 1, []), (446, .iaload, 1, []), (447, .aload_n 0, 1, []), (448, .iload 4, 2, []), (450, .iconst 2, 1, []), (451, .iadd, 1, []), (452, .iaload, 1, []), (453, .invokevirtual 88, 3, [117, 0]), (456, .istore 6, 2, []), (458, .aload_n 2, 1, []), (459, .invokevirtual 63, 3, [73, 0]), (462, .iload 5, 2, []), (464, .if_icmp .eq 5, 3, []), (467, .iconst 0, 1, []), (468, .ireturn, 1, []), (469, .iload 5, 2, []), (471, .ifCond .ne 22, 3, []), (474, .aload_n 3, 1, []), (475, .iconst 0, 1, []), (476, .laload, 1, []), (477, .iload 6, 2, []), (479, .ifCond .eq 7, 3, []), (482, .lconst 1, 1, []), (483, .goto 4, 3, []), (486, .lconst 0, 1, []), (487, .lcmp, 1, []), (488, .ifCond .eq 5, 3, []), (491, .iconst 0, 1, []), (492, .ireturn, 1, []), (493, .goto 308, 3, []), (496, .aload_n 1, 1, []), (497, .aload_n 0, 1, []), (498, .iload 4, 2, []), (500, .iconst 1, 1, []), (501, .iadd, 1, []), (502, .iaload, 1, []), (503, .aload_n 0, 1, []), (504, .iload 4, 2, []), (506, .iconst 2, 1, []), (507, .iadd, 1, []), (508, .iaload, 1, []), (509, .aload_n 3, 1, []), (510, .invokestatic 89, 3, [132, 9]), (513, .istore 5, 2, []), (515, .aload_n 2, 1, []), (516, .aload_n 0, 1, []), (517, .iload 4, 2, []), (519, .iconst 1, 1, []), (520, .iadd, 1, []), (521, .iaload, 1, []), (522, .aload_n 0, 1, []), (523, .iload 4, 2, []), (525, .iconst 2, 1, []), (526, .iadd, 1, []), (527, .iaload, 1, []), (528, .invokevirtual 91, 3, [118, 0]), (531, .istore 6, 2, []), (533, .aload_n 2, 1, []), (534, .invokevirtual 63, 3, [73, 0]), (537, .iload 5, 2, []), (539, .if_icmp .eq 5, 3, []), (542, .iconst 0, 1, []), (543, .ireturn, 1, []), (544, .iload 5, 2, []), (546, .ifCond .ne 22, 3, []), (549, .aload_n 3, 1, []), (550, .iconst 0, 1, []), (551, .laload, 1, []), (552, .iload 6, 2, []), (554, .ifCond .eq 7, 3, []), (557, .lconst 1, 1, []), (558, .goto 4, 3, []), (561, .lconst 0, 1, []), (562, .lcmp, 1, []), (563, .ifCond .eq 5, 3, []), (566, .iconst 0, 1, []), (567, .ireturn, 1, []), (568, .goto 233, 3, []), (571, .aload_n 1, 1, []), (572, .aload_n 0, 1, []), (573, .iload 4, 2, []), (575, .iconst 1, 1, []), (576, .iadd, 1, []), (577, .iaload, 1, []), (578, .aload_n 0, 1, []), (579, .iload 4, 2, []), (581, .iconst 2, 1, []), (582, .iadd, 1, []), (583, .iaload, 1, []), (584, .aload_n 3, 1, []), (585, .invokestatic 92, 3, [133, 9]), (588, .istore 5, 2, []), (590, .aload_n 2, 1, []), (591, .aload_n 0, 1, []), (592, .iload 4, 2, []), (594, .iconst 1, 1, []), (595, .iadd, 1, []), (596, .iaload, 1, []), (597, .aload_n 0, 1, []), (598, .iload 4, 2, []), (600, .iconst 2, 1, []), (601, .iadd, 1, []), (602, .iaload, 1, []), (603, .invokevirtual 94, 3, [119, 0]), (606, .istore 6, 2, []), (608, .aload_n 2, 1, []), (609, .invokevirtual 63, 3, [73, 0]), (612, .iload 5, 2, []), (614, .if_icmp .eq 5, 3, []), (617, .iconst 0, 1, []), (618, .ireturn, 1, []), (619, .iload 5, 2, []), (621, .ifCond .ne 15, 3, []), (624, .aload_n 3, 1, []), (625, .iconst 0, 1, []), (626, .laload, 1, []), (627, .iload 6, 2, []), (629, .i2l, 1, []), (630, .lcmp, 1, []), (631, .ifCond .eq 5, 3, []), (634, .iconst 0, 1, []), (635, .ireturn, 1, []), (636, .goto 165, 3, []), (639, .aload_n 1, 1, []), (640, .invokevirtual 95, 3, [64, 0]), (643, .aload_n 2, 1, []), (644, .invokevirtual 98, 3, [120, 0]), (647, .if_icmp .eq 154, 3, []), (650, .iconst 0, 1, []), (651, .ireturn, 1, []), (652, .aload_n 1, 1, []), (653, .aload_n 0, 1, []), (654, .iload 4, 2, []), (656, .iconst 1, 1, []), (657, .iadd, 1, []), (658, .iaload, 1, []), (659, .aload_n 0, 1, []), (660, .iload 4, 2, []), (662, .iconst 2, 1, []), (663, .iadd, 1, []), (664, .iaload, 1, []), (665, .aload_n 3, 1, []), (666, .invokestatic 99, 3, [134, 9]), (669, .istore 5, 2, []), (671, .aload_n 2, 1, []), (672, .aload_n 0, 1, []), (673, .iload 4, 2, []), (675, .iconst 1, 1, []), (676, .iadd, 1, []), (677, .iaload, 1, []), (678, .aload_n 0, 1, []), (679, .iload 4, 2, []), (681, .iconst 2, 1, []), (682, .iadd, 1, []), (683, .iaload, 1, []), (684, .invokevirtual 101, 3, [121, 0]), (687, .istore 6, 2, []), (689, .aload_n 2, 1, []), (690, .invokevirtual 63, 3, [73, 0]), (693, .iload 5, 2, []), (695, .if_icmp .eq 5, 3, []), (698, .iconst 0, 1, []), (699, .ireturn, 1, []), (700, .iload 5, 2, []), (702, .ifCond .ne 15, 3, []), (705, .aload_n 3, 1, []), (706, .iconst 0, 1, []), (707, .laload, 1, []), (708, .iload 6, 2, []), (710, .i2l, 1, []), (711, .lcmp, 1, []), (712, .ifCond .eq 5, 3, []), (715, .iconst 0, 1, []), (716, .ireturn, 1, []), (717, .goto 84, 3, []), (720, .aload_n 1, 1, []), (721, .aload_n 0, 1, []), (722, .iload 4, 2, []), (724, .iconst 1, 1, []), (725, .iadd, 1, []), (726, .iaload, 1, []), (727, .aload_n 0, 1, []), (728, .iload 4, 2, []), (730, .iconst 2, 1, []), (731, .iadd, 1, []), (732, .iaload, 1, []), (733, .aload_n 3, 1, []), (734, .invokestatic 102, 3, [135, 9]), (737, .istore 5, 2, []), (739, .aload_n 2, 1, []), (740, .aload_n 0, 1, []), (741, .iload 4, 2, []), (743, .iconst 1, 1, []), (744, .iadd, 1, []), (745, .iaload, 1, []), (746, .aload_n 0, 1, []), (747, .iload 4, 2, []), (749, .iconst 2, 1, []), (750, .iadd, 1, []), (751, .iaload, 1, []), (752, .invokevirtual 104, 3, [123, 0]), (755, .istore 6, 2, []), (757, .aload_n 2, 1, []), (758, .invokevirtual 63, 3, [73, 0]), (761, .iload 5, 2, []), (763, .if_icmp .eq 5, 3, []), (766, .iconst 0, 1, []), (767, .ireturn, 1, []), (768, .iload 5, 2, []), (770, .ifCond .ne 15, 3, []), (773, .aload_n 3, 1, []), (774, .iconst 0, 1, []), (775, .laload, 1, []), (776, .iload 6, 2, []), (778, .i2l, 1, []), (779, .lcmp, 1, []), (780, .ifCond .eq 5, 3, []), (783, .iconst 0, 1, []), (784, .ireturn, 1, []), (785, .goto 16, 3, []), (788, .aload_n 1, 1, []), (789, .invokevirtual 105, 3, [67, 0]), (792, .aload_n 2, 1, []), (793, .invokevirtual 108, 3, [124, 0]), (796, .if_icmp .eq 5, 3, []), (799, .iconst 0, 1, []), (800, .ireturn, 1, []), (801, .iinc 4 4, 3, []), (804, .goto (-771), 3, []), (807, .iconst 1, 1, []), (808, .ireturn, 1, [])]
end
section
set_option maxRecDepth 100000 in
theorem td_X0_init : ∀ r ∈ tb_X0_init, decode cX0_init r.1 = .ok (r.2.1, r.2.2.1) := by decide +kernel
set_option maxRecDepth 100000 in
theorem td_X0_find : ∀ r ∈ tb_X0_find, decode cX0_find r.1 = .ok (r.2.1, r.2.2.1) := by decide +kernel
set_option maxRecDepth 100000 in
theorem td_X0_begin : ∀ r ∈ tb_X0_begin, decode cX0_begin r.1 = .ok (r.2.1, r.2.2.1) := by decide +kernel
set_option maxRecDepth 100000 in
theorem td_X0_tryAgain : ∀ r ∈ tb_X0_tryAgain, decode cX0_tryAgain r.1 = .ok (r.2.1, r.2.2.1) := by decide +kernel
set_option maxRecDepth 100000 in
theorem td_X0_take : ∀ r ∈ tb_X0_take, decode cX0_take r.1 = .ok (r.2.1, r.2.2.1) := by decide +kernel
set_option maxRecDepth 100000 in
theorem td_X0_lookAt : ∀ r ∈ tb_X0_lookAt, decode cX0_lookAt r.1 = .ok (r.2.1, r.2.2.1) := by decide +kernel
set_option maxRecDepth 100000 in
theorem td_X0_countAcks : ∀ r ∈ tb_X0_countAcks, decode cX0_countAcks r.1 = .ok (r.2.1, r.2.2.1) := by decide +kernel
set_option maxRecDepth 100000 in
theorem td_X1_init : ∀ r ∈ tb_X1_init, decode cX1_init r.1 = .ok (r.2.1, r.2.2.1) := by decide +kernel
set_option maxRecDepth 100000 in
theorem td_X1_add : ∀ r ∈ tb_X1_add, decode cX1_add r.1 = .ok (r.2.1, r.2.2.1) := by decide +kernel
set_option maxRecDepth 100000 in
theorem td_X1_at : ∀ r ∈ tb_X1_at, decode cX1_at r.1 = .ok (r.2.1, r.2.2.1) := by decide +kernel
set_option maxRecDepth 100000 in
theorem td_X1_placeOf : ∀ r ∈ tb_X1_placeOf, decode cX1_placeOf r.1 = .ok (r.2.1, r.2.2.1) := by decide +kernel
set_option maxRecDepth 100000 in
theorem td_X1_digest : ∀ r ∈ tb_X1_digest, decode cX1_digest r.1 = .ok (r.2.1, r.2.2.1) := by decide +kernel
set_option maxRecDepth 100000 in
theorem td_X1_beginsWith : ∀ r ∈ tb_X1_beginsWith, decode cX1_beginsWith r.1 = .ok (r.2.1, r.2.2.1) := by decide +kernel
set_option maxRecDepth 100000 in
theorem td_X1_copy : ∀ r ∈ tb_X1_copy, decode cX1_copy r.1 = .ok (r.2.1, r.2.2.1) := by decide +kernel
set_option maxRecDepth 100000 in
theorem td_X1_digestWith : ∀ r ∈ tb_X1_digestWith, decode cX1_digestWith r.1 = .ok (r.2.1, r.2.2.1) := by decide +kernel
set_option maxRecDepth 100000 in
theorem td_X2_init : ∀ r ∈ tb_X2_init, decode cX2_init r.1 = .ok (r.2.1, r.2.2.1) := by decide +kernel
set_option maxRecDepth 100000 in
theorem td_X2_samePoint : ∀ r ∈ tb_X2_samePoint, decode cX2_samePoint r.1 = .ok (r.2.1, r.2.2.1) := by decide +kernel
set_option maxRecDepth 100000 in
theorem td_X2_sameReply : ∀ r ∈ tb_X2_sameReply, decode cX2_sameReply r.1 = .ok (r.2.1, r.2.2.1) := by decide +kernel
set_option maxRecDepth 100000 in
theorem td_X3_init : ∀ r ∈ tb_X3_init, decode cX3_init r.1 = .ok (r.2.1, r.2.2.1) := by decide +kernel
set_option maxRecDepth 100000 in
theorem td_X3_tell : ∀ r ∈ tb_X3_tell, decode cX3_tell r.1 = .ok (r.2.1, r.2.2.1) := by decide +kernel
set_option maxRecDepth 100000 in
theorem td_X4_init : ∀ r ∈ tb_X4_init, decode cX4_init r.1 = .ok (r.2.1, r.2.2.1) := by decide +kernel
set_option maxRecDepth 100000 in
theorem td_X4_send : ∀ r ∈ tb_X4_send, decode cX4_send r.1 = .ok (r.2.1, r.2.2.1) := by decide +kernel
set_option maxRecDepth 100000 in
theorem td_X4_sendToAll : ∀ r ∈ tb_X4_sendToAll, decode cX4_sendToAll r.1 = .ok (r.2.1, r.2.2.1) := by decide +kernel
set_option maxRecDepth 100000 in
theorem td_X4_find : ∀ r ∈ tb_X4_find, decode cX4_find r.1 = .ok (r.2.1, r.2.2.1) := by decide +kernel
set_option maxRecDepth 100000 in
theorem td_X5_init : ∀ r ∈ tb_X5_init, decode cX5_init r.1 = .ok (r.2.1, r.2.2.1) := by decide +kernel
set_option maxRecDepth 100000 in
theorem td_X5_tell : ∀ r ∈ tb_X5_tell, decode cX5_tell r.1 = .ok (r.2.1, r.2.2.1) := by decide +kernel
set_option maxRecDepth 100000 in
theorem td_X5_fittingOrder : ∀ r ∈ tb_X5_fittingOrder, decode cX5_fittingOrder r.1 = .ok (r.2.1, r.2.2.1) := by decide +kernel
set_option maxRecDepth 100000 in
theorem td_X5_take : ∀ r ∈ tb_X5_take, decode cX5_take r.1 = .ok (r.2.1, r.2.2.1) := by decide +kernel
end
section
set_option maxRecDepth 100000 in
theorem td_X5_endPatience : ∀ r ∈ tb_X5_endPatience, decode cX5_endPatience r.1 = .ok (r.2.1, r.2.2.1) := by decide +kernel
set_option maxRecDepth 100000 in
theorem td_X5_takeAsk : ∀ r ∈ tb_X5_takeAsk, decode cX5_takeAsk r.1 = .ok (r.2.1, r.2.2.1) := by decide +kernel
set_option maxRecDepth 100000 in
theorem td_X5_takeOrder : ∀ r ∈ tb_X5_takeOrder, decode cX5_takeOrder r.1 = .ok (r.2.1, r.2.2.1) := by decide +kernel
set_option maxRecDepth 100000 in
theorem td_X5_takeProof : ∀ r ∈ tb_X5_takeProof, decode cX5_takeProof r.1 = .ok (r.2.1, r.2.2.1) := by decide +kernel
set_option maxRecDepth 100000 in
theorem td_X5_takeHate : ∀ r ∈ tb_X5_takeHate, decode cX5_takeHate r.1 = .ok (r.2.1, r.2.2.1) := by decide +kernel
set_option maxRecDepth 100000 in
theorem td_X5_changeView : ∀ r ∈ tb_X5_changeView, decode cX5_changeView r.1 = .ok (r.2.1, r.2.2.1) := by decide +kernel
set_option maxRecDepth 100000 in
theorem td_X5_keepChange : ∀ r ∈ tb_X5_keepChange, decode cX5_keepChange r.1 = .ok (r.2.1, r.2.2.1) := by decide +kernel
set_option maxRecDepth 100000 in
theorem td_X5_mayTurn : ∀ r ∈ tb_X5_mayTurn, decode cX5_mayTurn r.1 = .ok (r.2.1, r.2.2.1) := by decide +kernel
set_option maxRecDepth 100000 in
theorem td_X5_countChanges : ∀ r ∈ tb_X5_countChanges, decode cX5_countChanges r.1 = .ok (r.2.1, r.2.2.1) := by decide +kernel
set_option maxRecDepth 100000 in
theorem td_X5_changedHistory : ∀ r ∈ tb_X5_changedHistory, decode cX5_changedHistory r.1 = .ok (r.2.1, r.2.2.1) := by decide +kernel
set_option maxRecDepth 100000 in
theorem td_X5_mergeChanges : ∀ r ∈ tb_X5_mergeChanges, decode cX5_mergeChanges r.1 = .ok (r.2.1, r.2.2.1) := by decide +kernel
set_option maxRecDepth 100000 in
theorem td_X5_mostFixed : ∀ r ∈ tb_X5_mostFixed, decode cX5_mostFixed r.1 = .ok (r.2.1, r.2.2.1) := by decide +kernel
set_option maxRecDepth 100000 in
theorem td_X5_agreedNext : ∀ r ∈ tb_X5_agreedNext, decode cX5_agreedNext r.1 = .ok (r.2.1, r.2.2.1) := by decide +kernel
set_option maxRecDepth 100000 in
theorem td_X5_nextAfter : ∀ r ∈ tb_X5_nextAfter, decode cX5_nextAfter r.1 = .ok (r.2.1, r.2.2.1) := by decide +kernel
set_option maxRecDepth 100000 in
theorem td_X5_turnTo : ∀ r ∈ tb_X5_turnTo, decode cX5_turnTo r.1 = .ok (r.2.1, r.2.2.1) := by decide +kernel
set_option maxRecDepth 100000 in
theorem td_X5_doNext : ∀ r ∈ tb_X5_doNext, decode cX5_doNext r.1 = .ok (r.2.1, r.2.2.1) := by decide +kernel
set_option maxRecDepth 100000 in
theorem td_X5_orderOf : ∀ r ∈ tb_X5_orderOf, decode cX5_orderOf r.1 = .ok (r.2.1, r.2.2.1) := by decide +kernel
set_option maxRecDepth 100000 in
theorem td_X5_reply : ∀ r ∈ tb_X5_reply, decode cX5_reply r.1 = .ok (r.2.1, r.2.2.1) := by decide +kernel
set_option maxRecDepth 100000 in
theorem td_X6_init : ∀ r ∈ tb_X6_init, decode cX6_init r.1 = .ok (r.2.1, r.2.2.1) := by decide +kernel
set_option maxRecDepth 100000 in
theorem td_X6_doOn : ∀ r ∈ tb_X6_doOn, decode cX6_doOn r.1 = .ok (r.2.1, r.2.2.1) := by decide +kernel
set_option maxRecDepth 100000 in
theorem td_X6_keep : ∀ r ∈ tb_X6_keep, decode cX6_keep r.1 = .ok (r.2.1, r.2.2.1) := by decide +kernel
end
section
set_option maxRecDepth 100000 in
theorem td_X6_agreedBy : ∀ r ∈ tb_X6_agreedBy, decode cX6_agreedBy r.1 = .ok (r.2.1, r.2.2.1) := by decide +kernel
set_option maxRecDepth 100000 in
theorem td_X6_countLike : ∀ r ∈ tb_X6_countLike, decode cX6_countLike r.1 = .ok (r.2.1, r.2.2.1) := by decide +kernel
set_option maxRecDepth 100000 in
theorem td_X6_finish : ∀ r ∈ tb_X6_finish, decode cX6_finish r.1 = .ok (r.2.1, r.2.2.1) := by decide +kernel
set_option maxRecDepth 100000 in
theorem td_X6_tell : ∀ r ∈ tb_X6_tell, decode cX6_tell r.1 = .ok (r.2.1, r.2.2.1) := by decide +kernel
set_option maxRecDepth 100000 in
theorem td_X6_countReplies : ∀ r ∈ tb_X6_countReplies, decode cX6_countReplies r.1 = .ok (r.2.1, r.2.2.1) := by decide +kernel
set_option maxRecDepth 100000 in
theorem td_X7_init : ∀ r ∈ tb_X7_init, decode cX7_init r.1 = .ok (r.2.1, r.2.2.1) := by decide +kernel
set_option maxRecDepth 100000 in
theorem td_X7_issue : ∀ r ∈ tb_X7_issue, decode cX7_issue r.1 = .ok (r.2.1, r.2.2.1) := by decide +kernel
theorem dX7_issue_21 : decode cX7_issue 21 = .ok (.dup, 1) := by decide +kernel
theorem dX7_issue_22 : decode cX7_issue 22 = .ok (.ldc 46, 2) := by decide +kernel
theorem dX7_issue_24 : decode cX7_issue 24 = .ok (.invokespecial 48, 3) := by decide +kernel
theorem dX7_issue_27 : decode cX7_issue 27 = .ok (.athrow, 1) := by decide +kernel
theorem dX7_issue_43 : decode cX7_issue 43 = .ok (.dup, 1) := by decide +kernel
theorem dX7_issue_44 : decode cX7_issue 44 = .ok (.ldc 56, 2) := by decide +kernel
theorem dX7_issue_46 : decode cX7_issue 46 = .ok (.invokespecial 58, 3) := by decide +kernel
theorem dX7_issue_49 : decode cX7_issue 49 = .ok (.athrow, 1) := by decide +kernel
theorem dX7_issue_18 : decode cX7_issue 18 = .ok (.new 44, 3) := by decide +kernel
theorem dX7_issue_40 : decode cX7_issue 40 = .ok (.new 54, 3) := by decide +kernel
set_option maxRecDepth 100000 in
theorem td_X7_retry : ∀ r ∈ tb_X7_retry, decode cX7_retry r.1 = .ok (r.2.1, r.2.2.1) := by decide +kernel
theorem dX7_retry_16 : decode cX7_retry 16 = .ok (.dup, 1) := by decide +kernel
theorem dX7_retry_17 : decode cX7_retry 17 = .ok (.ldc 72, 2) := by decide +kernel
theorem dX7_retry_19 : decode cX7_retry 19 = .ok (.invokespecial 74, 3) := by decide +kernel
theorem dX7_retry_22 : decode cX7_retry 22 = .ok (.athrow, 1) := by decide +kernel
theorem dX7_retry_13 : decode cX7_retry 13 = .ok (.new 70, 3) := by decide +kernel
set_option maxRecDepth 100000 in
theorem td_X7_deliver : ∀ r ∈ tb_X7_deliver, decode cX7_deliver r.1 = .ok (r.2.1, r.2.2.1) := by decide +kernel
set_option maxRecDepth 100000 in
theorem td_X7_flood : ∀ r ∈ tb_X7_flood, decode cX7_flood r.1 = .ok (r.2.1, r.2.2.1) := by decide +kernel
theorem dX7_flood_7 : decode cX7_flood 7 = .ok (.dup, 1) := by decide +kernel
theorem dX7_flood_8 : decode cX7_flood 8 = .ok (.ldc 82, 2) := by decide +kernel
theorem dX7_flood_10 : decode cX7_flood 10 = .ok (.invokespecial 48, 3) := by decide +kernel
theorem dX7_flood_13 : decode cX7_flood 13 = .ok (.athrow, 1) := by decide +kernel
theorem dX7_flood_4 : decode cX7_flood 4 = .ok (.new 44, 3) := by decide +kernel
set_option maxRecDepth 100000 in
theorem td_X7_lose : ∀ r ∈ tb_X7_lose, decode cX7_lose r.1 = .ok (r.2.1, r.2.2.1) := by decide +kernel
set_option maxRecDepth 100000 in
theorem td_X7_patience : ∀ r ∈ tb_X7_patience, decode cX7_patience r.1 = .ok (r.2.1, r.2.2.1) := by decide +kernel
theorem dX7_patience_10 : decode cX7_patience 10 = .ok (.dup, 1) := by decide +kernel
theorem dX7_patience_11 : decode cX7_patience 11 = .ok (.ldc 93, 2) := by decide +kernel
theorem dX7_patience_13 : decode cX7_patience 13 = .ok (.invokespecial 48, 3) := by decide +kernel
theorem dX7_patience_16 : decode cX7_patience 16 = .ok (.athrow, 1) := by decide +kernel
theorem dX7_patience_7 : decode cX7_patience 7 = .ok (.new 44, 3) := by decide +kernel
set_option maxRecDepth 100000 in
theorem td_X7_lie : ∀ r ∈ tb_X7_lie, decode cX7_lie r.1 = .ok (r.2.1, r.2.2.1) := by decide +kernel
theorem dX7_lie_29 : decode cX7_lie 29 = .ok (.dup, 1) := by decide +kernel
theorem dX7_lie_30 : decode cX7_lie 30 = .ok (.ldc 99, 2) := by decide +kernel
theorem dX7_lie_32 : decode cX7_lie 32 = .ok (.invokespecial 48, 3) := by decide +kernel
theorem dX7_lie_35 : decode cX7_lie 35 = .ok (.athrow, 1) := by decide +kernel
theorem dX7_lie_26 : decode cX7_lie 26 = .ok (.new 44, 3) := by decide +kernel
set_option maxRecDepth 100000 in
theorem td_X7_echo : ∀ r ∈ tb_X7_echo, decode cX7_echo r.1 = .ok (r.2.1, r.2.2.1) := by decide +kernel
theorem dX7_echo_31 : decode cX7_echo 31 = .ok (.dup, 1) := by decide +kernel
theorem dX7_echo_32 : decode cX7_echo 32 = .ok (.ldc 99, 2) := by decide +kernel
theorem dX7_echo_34 : decode cX7_echo 34 = .ok (.invokespecial 48, 3) := by decide +kernel
theorem dX7_echo_37 : decode cX7_echo 37 = .ok (.athrow, 1) := by decide +kernel
theorem dX7_echo_28 : decode cX7_echo 28 = .ok (.new 44, 3) := by decide +kernel
set_option maxRecDepth 100000 in
theorem td_X7_replica : ∀ r ∈ tb_X7_replica, decode cX7_replica r.1 = .ok (r.2.1, r.2.2.1) := by decide +kernel
theorem dX7_replica_78 : decode cX7_replica 78 = .ok (.dup, 1) := by decide +kernel
theorem dX7_replica_79 : decode cX7_replica 79 = .ok (.ldc 130, 2) := by decide +kernel
theorem dX7_replica_81 : decode cX7_replica 81 = .ok (.invokespecial 48, 3) := by decide +kernel
theorem dX7_replica_84 : decode cX7_replica 84 = .ok (.athrow, 1) := by decide +kernel
theorem dX7_replica_75 : decode cX7_replica 75 = .ok (.new 44, 3) := by decide +kernel
set_option maxRecDepth 100000 in
theorem td_X7_messages : ∀ r ∈ tb_X7_messages, decode cX7_messages r.1 = .ok (r.2.1, r.2.2.1) := by decide +kernel
set_option maxRecDepth 100000 in
theorem td_X7_message : ∀ r ∈ tb_X7_message, decode cX7_message r.1 = .ok (r.2.1, r.2.2.1) := by decide +kernel
theorem dX7_message_26 : decode cX7_message 26 = .ok (.dup, 1) := by decide +kernel
theorem dX7_message_27 : decode cX7_message 27 = .ok (.ldc 142, 2) := by decide +kernel
theorem dX7_message_29 : decode cX7_message 29 = .ok (.invokespecial 74, 3) := by decide +kernel
theorem dX7_message_32 : decode cX7_message 32 = .ok (.athrow, 1) := by decide +kernel
theorem dX7_message_23 : decode cX7_message 23 = .ok (.new 70, 3) := by decide +kernel
set_option maxRecDepth 100000 in
theorem td_X7_request : ∀ r ∈ tb_X7_request, decode cX7_request r.1 = .ok (r.2.1, r.2.2.1) := by decide +kernel
theorem dX7_request_25 : decode cX7_request 25 = .ok (.dup, 1) := by decide +kernel
theorem dX7_request_26 : decode cX7_request 26 = .ok (.ldc 145, 2) := by decide +kernel
theorem dX7_request_28 : decode cX7_request 28 = .ok (.invokespecial 74, 3) := by decide +kernel
theorem dX7_request_31 : decode cX7_request 31 = .ok (.athrow, 1) := by decide +kernel
theorem dX7_request_22 : decode cX7_request 22 = .ok (.new 70, 3) := by decide +kernel
set_option maxRecDepth 100000 in
theorem td_X7_view : ∀ r ∈ tb_X7_view, decode cX7_view r.1 = .ok (r.2.1, r.2.2.1) := by decide +kernel
set_option maxRecDepth 100000 in
theorem td_X7_handOver : ∀ r ∈ tb_X7_handOver, decode cX7_handOver r.1 = .ok (r.2.1, r.2.2.1) := by decide +kernel
set_option maxRecDepth 100000 in
theorem td_X7_isReplica : ∀ r ∈ tb_X7_isReplica, decode cX7_isReplica r.1 = .ok (r.2.1, r.2.2.1) := by decide +kernel
set_option maxRecDepth 100000 in
theorem td_X7_primaryOf : ∀ r ∈ tb_X7_primaryOf, decode cX7_primaryOf r.1 = .ok (r.2.1, r.2.2.1) := by decide +kernel
set_option maxRecDepth 100000 in
theorem td_X7_askFor : ∀ r ∈ tb_X7_askFor, decode cX7_askFor r.1 = .ok (r.2.1, r.2.2.1) := by decide +kernel
set_option maxRecDepth 100000 in
theorem td_X8_init : ∀ r ∈ tb_X8_init, decode cX8_init r.1 = .ok (r.2.1, r.2.2.1) := by decide +kernel
end
section
set_option maxRecDepth 100000 in
theorem td_X8_thrown : ∀ r ∈ tb_X8_thrown, decode cX8_thrown r.1 = .ok (r.2.1, r.2.2.1) := by decide +kernel
set_option maxRecDepth 100000 in
theorem td_X8_refuse : ∀ r ∈ tb_X8_refuse, decode cX8_refuse r.1 = .ok (r.2.1, r.2.2.1) := by decide +kernel
set_option maxRecDepth 100000 in
theorem td_X8_at : ∀ r ∈ tb_X8_at, decode cX8_at r.1 = .ok (r.2.1, r.2.2.1) := by decide +kernel
set_option maxRecDepth 100000 in
theorem td_X8_with : ∀ r ∈ tb_X8_with, decode cX8_with r.1 = .ok (r.2.1, r.2.2.1) := by decide +kernel
set_option maxRecDepth 100000 in
theorem td_X8_begin : ∀ r ∈ tb_X8_begin, decode cX8_begin r.1 = .ok (r.2.1, r.2.2.1) := by decide +kernel
set_option maxRecDepth 100000 in
theorem td_X8_digestOf : ∀ r ∈ tb_X8_digestOf, decode cX8_digestOf r.1 = .ok (r.2.1, r.2.2.1) := by decide +kernel
set_option maxRecDepth 100000 in
theorem td_X8_placeIn : ∀ r ∈ tb_X8_placeIn, decode cX8_placeIn r.1 = .ok (r.2.1, r.2.2.1) := by decide +kernel
set_option maxRecDepth 100000 in
theorem td_X8_work : ∀ r ∈ tb_X8_work, decode cX8_work r.1 = .ok (r.2.1, r.2.2.1) := by decide +kernel
set_option maxRecDepth 100000 in
theorem td_X8_send : ∀ r ∈ tb_X8_send, decode cX8_send r.1 = .ok (r.2.1, r.2.2.1) := by decide +kernel
set_option maxRecDepth 100000 in
theorem td_X8_sendToAll : ∀ r ∈ tb_X8_sendToAll, decode cX8_sendToAll r.1 = .ok (r.2.1, r.2.2.1) := by decide +kernel
set_option maxRecDepth 100000 in
theorem td_X8_sendRow : ∀ r ∈ tb_X8_sendRow, decode cX8_sendRow r.1 = .ok (r.2.1, r.2.2.1) := by decide +kernel
set_option maxRecDepth 100000 in
theorem td_X8_reply : ∀ r ∈ tb_X8_reply, decode cX8_reply r.1 = .ok (r.2.1, r.2.2.1) := by decide +kernel
set_option maxRecDepth 100000 in
theorem td_X8_order : ∀ r ∈ tb_X8_order, decode cX8_order r.1 = .ok (r.2.1, r.2.2.1) := by decide +kernel
set_option maxRecDepth 100000 in
theorem td_X8_isPrimary : ∀ r ∈ tb_X8_isPrimary, decode cX8_isPrimary r.1 = .ok (r.2.1, r.2.2.1) := by decide +kernel
set_option maxRecDepth 100000 in
theorem td_X8_append : ∀ r ∈ tb_X8_append, decode cX8_append r.1 = .ok (r.2.1, r.2.2.1) := by decide +kernel
set_option maxRecDepth 100000 in
theorem td_X8_takeAsk : ∀ r ∈ tb_X8_takeAsk, decode cX8_takeAsk r.1 = .ok (r.2.1, r.2.2.1) := by decide +kernel
set_option maxRecDepth 100000 in
theorem td_X8_takeOrder : ∀ r ∈ tb_X8_takeOrder, decode cX8_takeOrder r.1 = .ok (r.2.1, r.2.2.1) := by decide +kernel
set_option maxRecDepth 100000 in
theorem td_X8_takeProof : ∀ r ∈ tb_X8_takeProof, decode cX8_takeProof r.1 = .ok (r.2.1, r.2.2.1) := by decide +kernel
set_option maxRecDepth 100000 in
theorem td_X8_bits : ∀ r ∈ tb_X8_bits, decode cX8_bits r.1 = .ok (r.2.1, r.2.2.1) := by decide +kernel
set_option maxRecDepth 100000 in
theorem td_X8_takeHate : ∀ r ∈ tb_X8_takeHate, decode cX8_takeHate r.1 = .ok (r.2.1, r.2.2.1) := by decide +kernel
set_option maxRecDepth 100000 in
theorem td_X8_takeChange : ∀ r ∈ tb_X8_takeChange, decode cX8_takeChange r.1 = .ok (r.2.1, r.2.2.1) := by decide +kernel
end
section
set_option maxRecDepth 100000 in
theorem td_X8_safest : ∀ r ∈ tb_X8_safest, decode cX8_safest r.1 = .ok (r.2.1, r.2.2.1) := by decide +kernel
set_option maxRecDepth 100000 in
theorem td_X8_goesOn : ∀ r ∈ tb_X8_goesOn, decode cX8_goesOn r.1 = .ok (r.2.1, r.2.2.1) := by decide +kernel
set_option maxRecDepth 100000 in
theorem td_X8_nextOf : ∀ r ∈ tb_X8_nextOf, decode cX8_nextOf r.1 = .ok (r.2.1, r.2.2.1) := by decide +kernel
set_option maxRecDepth 100000 in
theorem td_X8_makeNew : ∀ r ∈ tb_X8_makeNew, decode cX8_makeNew r.1 = .ok (r.2.1, r.2.2.1) := by decide +kernel
set_option maxRecDepth 100000 in
theorem td_X8_turn : ∀ r ∈ tb_X8_turn, decode cX8_turn r.1 = .ok (r.2.1, r.2.2.1) := by decide +kernel
set_option maxRecDepth 100000 in
theorem td_X8_takeNew : ∀ r ∈ tb_X8_takeNew, decode cX8_takeNew r.1 = .ok (r.2.1, r.2.2.1) := by decide +kernel
set_option maxRecDepth 100000 in
theorem td_X8_take : ∀ r ∈ tb_X8_take, decode cX8_take r.1 = .ok (r.2.1, r.2.2.1) := by decide +kernel
set_option maxRecDepth 100000 in
theorem td_X8_areAlike : ∀ r ∈ tb_X8_areAlike, decode cX8_areAlike r.1 = .ok (r.2.1, r.2.2.1) := by decide +kernel
set_option maxRecDepth 100000 in
theorem td_X8_alike : ∀ r ∈ tb_X8_alike, decode cX8_alike r.1 = .ok (r.2.1, r.2.2.1) := by decide +kernel
set_option maxRecDepth 100000 in
theorem td_X8_finish : ∀ r ∈ tb_X8_finish, decode cX8_finish r.1 = .ok (r.2.1, r.2.2.1) := by decide +kernel
set_option maxRecDepth 100000 in
theorem td_X8_look : ∀ r ∈ tb_X8_look, decode cX8_look r.1 = .ok (r.2.1, r.2.2.1) := by decide +kernel
set_option maxRecDepth 100000 in
theorem td_X8_takeReply : ∀ r ∈ tb_X8_takeReply, decode cX8_takeReply r.1 = .ok (r.2.1, r.2.2.1) := by decide +kernel
set_option maxRecDepth 100000 in
theorem td_X8_takeAck : ∀ r ∈ tb_X8_takeAck, decode cX8_takeAck r.1 = .ok (r.2.1, r.2.2.1) := by decide +kernel
end
section
set_option maxRecDepth 100000 in
theorem td_X8_issue : ∀ r ∈ tb_X8_issue, decode cX8_issue r.1 = .ok (r.2.1, r.2.2.1) := by decide +kernel
set_option maxRecDepth 100000 in
theorem td_X8_isRequest : ∀ r ∈ tb_X8_isRequest, decode cX8_isRequest r.1 = .ok (r.2.1, r.2.2.1) := by decide +kernel
set_option maxRecDepth 100000 in
theorem td_X8_retry : ∀ r ∈ tb_X8_retry, decode cX8_retry r.1 = .ok (r.2.1, r.2.2.1) := by decide +kernel
set_option maxRecDepth 100000 in
theorem td_X8_isUnderWay : ∀ r ∈ tb_X8_isUnderWay, decode cX8_isUnderWay r.1 = .ok (r.2.1, r.2.2.1) := by decide +kernel
set_option maxRecDepth 100000 in
theorem td_X8_deliver : ∀ r ∈ tb_X8_deliver, decode cX8_deliver r.1 = .ok (r.2.1, r.2.2.1) := by decide +kernel
set_option maxRecDepth 100000 in
theorem td_X8_flood : ∀ r ∈ tb_X8_flood, decode cX8_flood r.1 = .ok (r.2.1, r.2.2.1) := by decide +kernel
set_option maxRecDepth 100000 in
theorem td_X8_lose : ∀ r ∈ tb_X8_lose, decode cX8_lose r.1 = .ok (r.2.1, r.2.2.1) := by decide +kernel
set_option maxRecDepth 100000 in
theorem td_X8_isReplica : ∀ r ∈ tb_X8_isReplica, decode cX8_isReplica r.1 = .ok (r.2.1, r.2.2.1) := by decide +kernel
set_option maxRecDepth 100000 in
theorem td_X8_refuseThis : ∀ r ∈ tb_X8_refuseThis, decode cX8_refuseThis r.1 = .ok (r.2.1, r.2.2.1) := by decide +kernel
set_option maxRecDepth 100000 in
theorem td_X8_patience : ∀ r ∈ tb_X8_patience, decode cX8_patience r.1 = .ok (r.2.1, r.2.2.1) := by decide +kernel
set_option maxRecDepth 100000 in
theorem td_X8_lie : ∀ r ∈ tb_X8_lie, decode cX8_lie r.1 = .ok (r.2.1, r.2.2.1) := by decide +kernel
set_option maxRecDepth 100000 in
theorem td_X8_echo : ∀ r ∈ tb_X8_echo, decode cX8_echo r.1 = .ok (r.2.1, r.2.2.1) := by decide +kernel
set_option maxRecDepth 100000 in
theorem td_X8_replica : ∀ r ∈ tb_X8_replica, decode cX8_replica r.1 = .ok (r.2.1, r.2.2.1) := by decide +kernel
set_option maxRecDepth 100000 in
theorem td_X8_messages : ∀ r ∈ tb_X8_messages, decode cX8_messages r.1 = .ok (r.2.1, r.2.2.1) := by decide +kernel
set_option maxRecDepth 100000 in
theorem td_X8_message : ∀ r ∈ tb_X8_message, decode cX8_message r.1 = .ok (r.2.1, r.2.2.1) := by decide +kernel
set_option maxRecDepth 100000 in
theorem td_X8_replies : ∀ r ∈ tb_X8_replies, decode cX8_replies r.1 = .ok (r.2.1, r.2.2.1) := by decide +kernel
set_option maxRecDepth 100000 in
theorem td_X8_request : ∀ r ∈ tb_X8_request, decode cX8_request r.1 = .ok (r.2.1, r.2.2.1) := by decide +kernel
end
section
set_option maxRecDepth 100000 in
theorem td_X8_view : ∀ r ∈ tb_X8_view, decode cX8_view r.1 = .ok (r.2.1, r.2.2.1) := by decide +kernel
set_option maxRecDepth 100000 in
theorem td_J6_bitCount_0f7a4 : ∀ r ∈ tb_J6_bitCount_0f7a4, decode cJ6_bitCount_0f7a4 r.1 = .ok (r.2.1, r.2.2.1) := by decide +kernel
set_option maxRecDepth 100000 in
theorem td_L_cell : ∀ r ∈ tb_L_cell, decode cL_cell r.1 = .ok (r.2.1, r.2.2.1) := by decide +kernel
set_option maxRecDepth 100000 in
theorem td_L_issue : ∀ r ∈ tb_L_issue, decode cL_issue r.1 = .ok (r.2.1, r.2.2.1) := by decide +kernel
set_option maxRecDepth 100000 in
theorem td_L_retry : ∀ r ∈ tb_L_retry, decode cL_retry r.1 = .ok (r.2.1, r.2.2.1) := by decide +kernel
set_option maxRecDepth 100000 in
theorem td_L_flood : ∀ r ∈ tb_L_flood, decode cL_flood r.1 = .ok (r.2.1, r.2.2.1) := by decide +kernel
set_option maxRecDepth 100000 in
theorem td_L_patience : ∀ r ∈ tb_L_patience, decode cL_patience r.1 = .ok (r.2.1, r.2.2.1) := by decide +kernel
set_option maxRecDepth 100000 in
theorem td_L_lie : ∀ r ∈ tb_L_lie, decode cL_lie r.1 = .ok (r.2.1, r.2.2.1) := by decide +kernel
set_option maxRecDepth 100000 in
theorem td_L_echo : ∀ r ∈ tb_L_echo, decode cL_echo r.1 = .ok (r.2.1, r.2.2.1) := by decide +kernel
set_option maxRecDepth 100000 in
theorem td_L_replica : ∀ r ∈ tb_L_replica, decode cL_replica r.1 = .ok (r.2.1, r.2.2.1) := by decide +kernel
set_option maxRecDepth 100000 in
theorem td_L_message : ∀ r ∈ tb_L_message, decode cL_message r.1 = .ok (r.2.1, r.2.2.1) := by decide +kernel
set_option maxRecDepth 100000 in
theorem td_L_request : ∀ r ∈ tb_L_request, decode cL_request r.1 = .ok (r.2.1, r.2.2.1) := by decide +kernel
end
section
set_option maxRecDepth 100000 in
theorem tdl_0 : ∀ r ∈ (tb_L_law.drop 0).take 80, decode cL_law r.1 = .ok (r.2.1, r.2.2.1) := by decide +kernel
end
section
set_option maxRecDepth 100000 in
theorem tdl_1 : ∀ r ∈ (tb_L_law.drop 80).take 80, decode cL_law r.1 = .ok (r.2.1, r.2.2.1) := by decide +kernel
end
section
set_option maxRecDepth 100000 in
theorem tdl_2 : ∀ r ∈ (tb_L_law.drop 160).take 80, decode cL_law r.1 = .ok (r.2.1, r.2.2.1) := by decide +kernel
end
section
set_option maxRecDepth 100000 in
theorem tdl_3 : ∀ r ∈ (tb_L_law.drop 240).take 80, decode cL_law r.1 = .ok (r.2.1, r.2.2.1) := by decide +kernel
end
section
set_option maxRecDepth 100000 in
theorem tdl_4 : ∀ r ∈ (tb_L_law.drop 320).take 80, decode cL_law r.1 = .ok (r.2.1, r.2.2.1) := by decide +kernel
end
section
set_option maxRecDepth 100000 in
theorem tdl_5 : ∀ r ∈ (tb_L_law.drop 400).take 80, decode cL_law r.1 = .ok (r.2.1, r.2.2.1) := by decide +kernel
end
section
theorem tdl_s (k n : Nat) {r : pm_R} (h : r ∈ tb_L_law.drop k) : r ∈ (tb_L_law.drop k).take n ∨ r ∈ tb_L_law.drop (k + n) := by
  rw [← List.take_append_drop n (tb_L_law.drop k)] at h
  rcases List.mem_append.mp h with h | h
  · exact Or.inl h
  · rw [List.drop_drop] at h
    exact Or.inr h
theorem td_L_law : ∀ r ∈ tb_L_law, decode cL_law r.1 = .ok (r.2.1, r.2.2.1) := by
  intro r h
  have h : r ∈ tb_L_law.drop 0 := h
  rcases tdl_s 0 80 h with g | h
  · exact tdl_0 r g
  rcases tdl_s 80 80 h with g | h
  · exact tdl_1 r g
  rcases tdl_s 160 80 h with g | h
  · exact tdl_2 r g
  rcases tdl_s 240 80 h with g | h
  · exact tdl_3 r g
  rcases tdl_s 320 80 h with g | h
  · exact tdl_4 r g
  rcases tdl_s 400 80 h with g | h
  · exact tdl_5 r g
  have e : tb_L_law.drop 480 = [] := by decide +kernel
  rw [e] at h
  cases h
end
section
/-! THE PURE MACHINE: a method's frame (pc, locals, stack) over a heap of cells; a reference is the number of its cell; .retAddr stands for the script -/
abbrev vwCl : List vw_C := [(RX0, TX0, 5), (RX1, TX1, 3), (RX2, TX2, 7), (RX3, TX3, 4), (RX4, TX4, 2), (RX5, TX5, 11), (RX6, TX6, 8), (RX7, TX7, 4), (RX8, TX8, 46)]
abbrev pm_L : Type := List (Nat × Value)
abbrev pm_C : Type := (Nat × List Value) ⊕ (Nat × List Value)
abbrev pm_H : Type := List pm_C × Nat × Nat
abbrev pm_S : Type := Nat × pm_L × List Value × pm_H
abbrev pm_Sc : Type := Nat × (Nat → Int32)
abbrev pm_K : Type := Nat × List Value × List Value
def pm_ld (lv : pm_L) (i : Nat) : Option Value := (lv.find? (fun q => q.1 == i)).map (fun q => q.2)
def pm_s1 (lv : pm_L) (i : Nat) (v : Value) : pm_L := (i, v) :: lv.filter (fun q => !(q.1 == i) && !(q.1 + 1 == i && q.2.category == 2))
def pm_s2 (lv : pm_L) (i : Nat) (v : Value) : pm_L := (i, v) :: lv.filter (fun q => !(q.1 == i) && (!(q.1 == i + 1) && !(q.1 + 1 == i && q.2.category == 2)))
def pm_br (pc : Nat) (off : Int) : Option Nat := if 0 ≤ (pc : Int) + off then some ((pc : Int) + off).toNat else none
def pm_cmp (c : ClassFile.Cond) (x y : Int32) : Bool := match c with
  | .eq => decide (x = y)
  | .ne => decide (¬ x = y)
  | .lt => decide (x < y)
  | .ge => decide (y ≤ x)
  | .gt => decide (y < x)
  | .le => decide (x ≤ y)
def pm_tyf : List (Nat → FieldType) := [tyX0, tyX1, tyX2, tyX3, tyX4, tyX5, tyX6, tyX7, tyX8]
def pm_ty (ci k : Nat) : FieldType := (pm_tyf.getD ci tyX0) k
def pm_fit (t : FieldType) (v : Value) : Bool := match t, v with
  | .int, .int _ => true
  | .boolean, .int x => x == 0 || x == 1
  | .long, .long _ => true
  | .object _, .ref _ => true
  | .object _, .null => true
  | .array _, .ref _ => true
  | .array _, .null => true
  | _, _ => false
/-- the values of a new object of a class -/
def pm_df (ci : Nat) : List Value := match ci with
  | 0 => [.null, .null, .null, .int 0, .int 0]
  | 1 => [.null, .int 0, .int 0]
  | 2 => [.int 0, .int 0, .int 0, .int 0, .int 0, .int 0, .null]
  | 3 => [.int 0, .int 0, .null, .int 0]
  | 4 => [.null, .int 0]
  | 5 => [.int 0, .null, .null, .null, .null, .null, .null, .int 0, .int 0, .int 0, .int 0]
  | 6 => [.int 0, .int 0, .int 0, .null, .null, .int 0, .int 0, .int 0]
  | 7 => [.int 0, .null, .null, .null]
  | _ => [.int 0, .int 0, .int 0, .null, .null, .null, .null, .null, .null, .null, .null, .null, .null, .null, .null, .null, .null, .int 0, .null, .null, .null, .null, .null, .null, .null, .null, .null, .null, .null, .int 0, .null, .null, .null, .null, .null, .null, .null, .null, .null, .null, .null, .null, .null, .null, .null, .null]
/-- the first value of an array of a kind (0 int, 1 long, 2 boolean, 3 .. of references), and the class of its objects -/
def pm_dv (t : Nat) : Value := match t with
  | 0 => .int 0
  | 1 => .long 0
  | 2 => .int 0
  | _ => .null
def pm_el (t : Nat) : Nat := match t with
  | 3 => 2
  | 4 => 3
  | 5 => 5
  | _ => 6
def pm_cpy (vs ws : List Value) (sp dp n : Nat) : List Value := (List.range ws.length).map (fun k => if dp ≤ k ∧ k < dp + n then vs.getD (sp + (k - dp)) .null else ws.getD k .null)
def pm_sum (st : List Value) : Nat := (st.map fun v => v.category).sum
abbrev pm_nx (pc : Nat) (lv : pm_L) (st : List Value) (h : pm_H) : Option (pm_S ⊕ pm_K) := some (.inl (pc, lv, st, h))
/-- one instruction (ins, what it names: res) of a method with nL locals and rank rk; np, mc, rkOf: of the methods that it may call -/
def pm_do (sc : pm_Sc) (nL rk : Nat) (np mc rkOf : Nat → Nat) (ins : Instr) (res : List Nat) (pc : Nat) (lv : pm_L) (st : List Value) (h : pm_H) : Option (pm_S ⊕ pm_K) := match ins with
  | .aconst_null => pm_nx (pc + 1) lv (.null :: st) h
  | .iconst n => pm_nx (pc + 1) lv (.int (Int32.ofInt n) :: st) h
  | .bipush n => pm_nx (pc + 2) lv (.int (Int8.ofInt n).toInt32 :: st) h
  | .sipush n => pm_nx (pc + 3) lv (.int (Int16.ofInt n).toInt32 :: st) h
  | .lconst n => pm_nx (pc + 1) lv (.long (Int64.ofNat (n : Nat)) :: st) h
  | .ldc_w _ => match res with
    | [v] => pm_nx (pc + 3) lv (.int (Int32.ofNat v) :: st) h
    | _ => none
  | .ldc2_w _ => match res with
    | [v] => pm_nx (pc + 3) lv (.long (Int64.ofNat v) :: st) h
    | _ => none
  | .iload_n k => match pm_ld lv k with
    | some (.int x) => pm_nx (pc + 1) lv (.int x :: st) h
    | _ => none
  | .iload k => match pm_ld lv k with
    | some (.int x) => pm_nx (pc + 2) lv (.int x :: st) h
    | _ => none
  | .lload_n k => match pm_ld lv k with
    | some (.long x) => pm_nx (pc + 1) lv (.long x :: st) h
    | _ => none
  | .lload k => match pm_ld lv k with
    | some (.long x) => pm_nx (pc + 2) lv (.long x :: st) h
    | _ => none
  | .aload_n k => match pm_ld lv k with
    | some (.ref x) => pm_nx (pc + 1) lv (.ref x :: st) h
    | some .null => pm_nx (pc + 1) lv (.null :: st) h
    | some (.retAddr x) => pm_nx (pc + 1) lv (.retAddr x :: st) h
    | _ => none
  | .aload k => match pm_ld lv k with
    | some (.ref x) => pm_nx (pc + 2) lv (.ref x :: st) h
    | some .null => pm_nx (pc + 2) lv (.null :: st) h
    | some (.retAddr x) => pm_nx (pc + 2) lv (.retAddr x :: st) h
    | _ => none
  | .istore_n k => match st with
    | .int x :: r => if (k : Nat) < nL then pm_nx (pc + 1) (pm_s1 lv k (.int x)) r h else none
    | _ => none
  | .istore k => match st with
    | .int x :: r => if k < nL then pm_nx (pc + 2) (pm_s1 lv k (.int x)) r h else none
    | _ => none
  | .lstore_n k => match st with
    | .long x :: r => if (k : Nat) + 1 < nL then pm_nx (pc + 1) (pm_s2 lv k (.long x)) r h else none
    | _ => none
  | .lstore k => match st with
    | .long x :: r => if k + 1 < nL then pm_nx (pc + 2) (pm_s2 lv k (.long x)) r h else none
    | _ => none
  | .astore_n k => match st with
    | .ref x :: r => if (k : Nat) < nL then pm_nx (pc + 1) (pm_s1 lv k (.ref x)) r h else none
    | .null :: r => if (k : Nat) < nL then pm_nx (pc + 1) (pm_s1 lv k .null) r h else none
    | _ => none
  | .astore k => match st with
    | .ref x :: r => if k < nL then pm_nx (pc + 2) (pm_s1 lv k (.ref x)) r h else none
    | .null :: r => if k < nL then pm_nx (pc + 2) (pm_s1 lv k .null) r h else none
    | _ => none
  | .iinc k n => match pm_ld lv k with
    | some (.int x) => if k < nL then pm_nx (pc + 3) (pm_s1 lv k (.int (x + Int32.ofInt n))) st h else none
    | _ => none
  | .iadd => match st with
    | .int y :: .int x :: r => pm_nx (pc + 1) lv (.int (x + y) :: r) h
    | _ => none
  | .isub => match st with
    | .int y :: .int x :: r => pm_nx (pc + 1) lv (.int (x - y) :: r) h
    | _ => none
  | .imul => match st with
    | .int y :: .int x :: r => pm_nx (pc + 1) lv (.int (x * y) :: r) h
    | _ => none
  | .irem => match st with
    | .int y :: .int x :: r => if y = 0 then none else pm_nx (pc + 1) lv (.int (x - x / y * y) :: r) h
    | _ => none
  | .iand => match st with
    | .int y :: .int x :: r => pm_nx (pc + 1) lv (.int (x &&& y) :: r) h
    | _ => none
  | .ior => match st with
    | .int y :: .int x :: r => pm_nx (pc + 1) lv (.int (x ||| y) :: r) h
    | _ => none
  | .ixor => match st with
    | .int y :: .int x :: r => pm_nx (pc + 1) lv (.int (x ^^^ y) :: r) h
    | _ => none
  | .ishl => match st with
    | .int y :: .int x :: r => pm_nx (pc + 1) lv (.int (x <<< (y &&& 31)) :: r) h
    | _ => none
  | .ishr => match st with
    | .int y :: .int x :: r => pm_nx (pc + 1) lv (.int (x >>> (y &&& 31)) :: r) h
    | _ => none
  | .iushr => match st with
    | .int y :: .int x :: r => pm_nx (pc + 1) lv (.int ((x.toUInt32 >>> (y.toUInt32 &&& Int32.toUInt32 31)).toInt32) :: r) h
    | _ => none
  | .lsub => match st with
    | .long y :: .long x :: r => pm_nx (pc + 1) lv (.long (x - y) :: r) h
    | _ => none
  | .land => match st with
    | .long y :: .long x :: r => pm_nx (pc + 1) lv (.long (x &&& y) :: r) h
    | _ => none
  | .lor => match st with
    | .long y :: .long x :: r => pm_nx (pc + 1) lv (.long (x ||| y) :: r) h
    | _ => none
  | .lshl => match st with
    | .int y :: .long x :: r => pm_nx (pc + 1) lv (.long (x <<< (y.toInt64 &&& 63)) :: r) h
    | _ => none
  | .lshr => match st with
    | .int y :: .long x :: r => pm_nx (pc + 1) lv (.long (x >>> (y.toInt64 &&& 63)) :: r) h
    | _ => none
  | .i2l => match st with
    | .int x :: r => pm_nx (pc + 1) lv (.long x.toInt64 :: r) h
    | _ => none
  | .l2i => match st with
    | .long x :: r => pm_nx (pc + 1) lv (.int x.toInt32 :: r) h
    | _ => none
  | .lcmp => match st with
    | .long y :: .long x :: r => pm_nx (pc + 1) lv (.int (lg_cmp x y) :: r) h
    | _ => none
  | .dup => match st with
    | v :: r => if v.category = 1 then pm_nx (pc + 1) lv (v :: v :: r) h else none
    | _ => none
  | .pop => match st with
    | v :: r => if v.category = 1 then pm_nx (pc + 1) lv r h else none
    | _ => none
  | .dup2 => match st with
    | v :: w :: r => if v.category = 1 ∧ w.category = 1 then pm_nx (pc + 1) lv (v :: w :: v :: w :: r) h else none
    | _ => none
  | .goto off => match pm_br pc off with
    | some t => pm_nx t lv st h
    | none => none
  | .ifCond q off => match st, pm_br pc off with
    | .int x :: r, some t => pm_nx (if pm_cmp q x 0 = true then t else pc + 3) lv r h
    | _, _ => none
  | .if_icmp q off => match st, pm_br pc off with
    | .int y :: .int x :: r, some t => pm_nx (if pm_cmp q x y = true then t else pc + 3) lv r h
    | _, _ => none
  | .ifnull off => match st, pm_br pc off with
    | .null :: r, some t => pm_nx t lv r h
    | .ref _ :: r, some _ => pm_nx (pc + 3) lv r h
    | _, _ => none
  | .ifnonnull off => match st, pm_br pc off with
    | .ref _ :: r, some t => pm_nx t lv r h
    | .null :: r, some _ => pm_nx (pc + 3) lv r h
    | _, _ => none
  | .tableswitch dflt lo hi offs => match st with
    | .int x :: r => if x.toInt < lo ∨ hi < x.toInt then (match pm_br pc dflt with | some t => pm_nx t lv r h | none => none) else (match offs[(x.toInt - lo).toNat]? with | some off => (match pm_br pc off with | some t => pm_nx t lv r h | none => none) | none => none)
    | _ => none
  | .getfield _ => match res, st with
    | [ci, k, _], .ref p :: r => match h.1[p]? with
      | some (.inr (c, fs)) => if c = ci then (match fs[k]? with | some v => pm_nx (pc + 3) lv (v :: r) h | none => none) else none
      | _ => none
    | _, _ => none
  | .putfield _ => match res, st with
    | [ci, k, _], v :: .ref p :: r => match h.1[p]? with
      | some (.inr (c, fs)) => if c = ci ∧ k < fs.length ∧ pm_fit (pm_ty ci k) v = true then pm_nx (pc + 3) lv r (h.1.set p (.inr (c, fs.set k v)), h.2) else none
      | _ => none
    | _, _ => none
  | .arraylength => match st with
    | .ref p :: r => match h.1[p]? with
      | some (.inl (t, vs)) => if t < 7 then pm_nx (pc + 1) lv (.int (Int32.ofNat vs.length) :: r) h else none
      | _ => none
    | .retAddr _ :: r => pm_nx (pc + 1) lv (.int (Int32.ofNat sc.1) :: r) h
    | _ => none
  | .iaload => match st with
    | .int i :: .ref p :: r => match h.1[p]? with
      | some (.inl (0, vs)) => if i < 0 then none else (match vs[i.toNatClampNeg]? with | some (.int x) => pm_nx (pc + 1) lv (.int x :: r) h | _ => none)
      | _ => none
    | .int i :: .retAddr _ :: r => if ¬ i < 0 ∧ i.toNatClampNeg < sc.1 then pm_nx (pc + 1) lv (.int (sc.2 i.toNatClampNeg) :: r) h else none
    | _ => none
  | .laload => match st with
    | .int i :: .ref p :: r => match h.1[p]? with
      | some (.inl (1, vs)) => if i < 0 then none else (match vs[i.toNatClampNeg]? with | some (.long x) => pm_nx (pc + 1) lv (.long x :: r) h | _ => none)
      | _ => none
    | _ => none
  | .baload => match st with
    | .int i :: .ref p :: r => match h.1[p]? with
      | some (.inl (2, vs)) => if i < 0 then none else (match vs[i.toNatClampNeg]? with | some (.int x) => pm_nx (pc + 1) lv (.int x :: r) h | _ => none)
      | _ => none
    | _ => none
  | .aaload => match st with
    | .int i :: .ref p :: r => match h.1[p]? with
      | some (.inl (t, vs)) => if i < 0 ∨ t < 3 ∨ 6 < t then none else (match vs[i.toNatClampNeg]? with | some (.ref x) => pm_nx (pc + 1) lv (.ref x :: r) h | some .null => pm_nx (pc + 1) lv (.null :: r) h | _ => none)
      | _ => none
    | _ => none
  | .iastore => match st with
    | .int x :: .int i :: .ref p :: r => match h.1[p]? with
      | some (.inl (0, vs)) => if ¬ i < 0 ∧ i.toNatClampNeg < vs.length then pm_nx (pc + 1) lv r (h.1.set p (.inl (0, vs.set i.toNatClampNeg (.int x))), h.2) else none
      | _ => none
    | _ => none
  | .lastore => match st with
    | .long x :: .int i :: .ref p :: r => match h.1[p]? with
      | some (.inl (1, vs)) => if ¬ i < 0 ∧ i.toNatClampNeg < vs.length then pm_nx (pc + 1) lv r (h.1.set p (.inl (1, vs.set i.toNatClampNeg (.long x))), h.2) else none
      | _ => none
    | _ => none
  | .bastore => match st with
    | .int x :: .int i :: .ref p :: r => match h.1[p]? with
      | some (.inl (2, vs)) => if (x = 0 ∨ x = 1) ∧ ¬ i < 0 ∧ i.toNatClampNeg < vs.length then pm_nx (pc + 1) lv r (h.1.set p (.inl (2, vs.set i.toNatClampNeg (.int x))), h.2) else none
      | _ => none
    | _ => none
  | .aastore => match st with
    | .ref q :: .int i :: .ref p :: r => match h.1[p]?, h.1[q]? with
      | some (.inl (t, vs)), some (.inr (c, _)) => if ¬ i < 0 ∧ i.toNatClampNeg < vs.length ∧ 3 ≤ t ∧ t ≤ 6 ∧ c = pm_el t then pm_nx (pc + 1) lv r (h.1.set p (.inl (t, vs.set i.toNatClampNeg (.ref q))), h.2) else none
      | _, _ => none
    | .null :: .int i :: .ref p :: r => match h.1[p]? with
      | some (.inl (t, vs)) => if ¬ i < 0 ∧ i.toNatClampNeg < vs.length ∧ 3 ≤ t ∧ t ≤ 6 then pm_nx (pc + 1) lv r (h.1.set p (.inl (t, vs.set i.toNatClampNeg .null)), h.2) else none
      | _ => none
    | _ => none
  | .new _ => match res with
    | [ci] => if ci < 9 then pm_nx (pc + 3) lv (.ref h.1.length :: st) (h.1 ++ [.inr (ci, pm_df ci)], h.2.1 + 1, h.2.2 + (pm_df ci).length) else none
    | _ => none
  | .newarray a => match res, st with
    | [t], .int n :: r => if ((a = .int ∧ t = 0) ∨ (a = .long ∧ t = 1) ∨ (a = .boolean ∧ t = 2)) ∧ ¬ n < 0 ∧ n.toNatClampNeg ≤ 1000 then pm_nx (pc + 2) lv (.ref h.1.length :: r) (h.1 ++ [.inl (t, List.replicate n.toNatClampNeg (pm_dv t))], h.2.1 + 1, h.2.2 + n.toNatClampNeg) else none
    | _, _ => none
  | .anewarray _ => match res, st with
    | [t], .int n :: r => if 3 ≤ t ∧ t ≤ 6 ∧ ¬ n < 0 ∧ n.toNatClampNeg ≤ 1000 then pm_nx (pc + 3) lv (.ref h.1.length :: r) (h.1 ++ [.inl (t, List.replicate n.toNatClampNeg .null)], h.2.1 + 1, h.2.2 + n.toNatClampNeg) else none
    | _, _ => none
  | .invokevirtual _ => match res with
    | [j, kd] => if kd ≤ 1 then (match st.drop (np j) with
      | .ref b :: r => match h.1[b]? with
        | some (.inr (c, _)) => if np j < st.length ∧ c = mc j ∧ pm_sum r ≤ 12 ∧ rkOf j < rk then some (.inr (j, .ref b :: (st.take (np j)).reverse, r)) else none
        | _ => none
      | _ => none) else none
    | _ => none
  | .invokespecial _ => match res with
    | [j, kd] => if kd = 6 then (match st with
        | .ref _ :: r => if pm_sum r ≤ 8 ∧ 1 ≤ rk then pm_nx (pc + 3) lv r h else none
        | _ => none)
      else if kd = 2 ∨ kd = 3 then (match st.drop (np j) with
        | .ref b :: r => if np j < st.length ∧ pm_sum r ≤ 8 ∧ rkOf j < rk then some (.inr (j, .ref b :: (st.take (np j)).reverse, r)) else none
        | _ => none) else none
    | _ => none
  | .invokestatic _ => match res with
    | [j, kd] => if kd = 7 then (match st with
        | .int y :: .int x :: r => if pm_sum r ≤ 8 ∧ 1 ≤ rk then pm_nx (pc + 3) lv (.int (if x < y then y else x) :: r) h else none
        | _ => none)
      else if kd = 8 then (match st with
        | .int n :: .int dp :: .ref q :: .int sp :: .ref p :: r => match h.1[p]?, h.1[q]? with
          | some (.inl (0, vs)), some (.inl (0, ws)) => if pm_sum r ≤ 8 ∧ 1 ≤ rk ∧ ¬ sp < 0 ∧ ¬ dp < 0 ∧ ¬ n < 0 ∧ sp.toNatClampNeg + n.toNatClampNeg ≤ vs.length ∧ dp.toNatClampNeg + n.toNatClampNeg ≤ ws.length then pm_nx (pc + 3) lv r (h.1.set q (.inl (0, pm_cpy vs ws sp.toNatClampNeg dp.toNatClampNeg n.toNatClampNeg)), h.2) else none
          | _, _ => none
        | _ => none)
      else if kd = 4 ∨ kd = 5 ∨ kd = 9 then (if np j ≤ st.length ∧ pm_sum (st.drop (np j)) ≤ 8 ∧ rkOf j < rk then some (.inr (j, (st.take (np j)).reverse, st.drop (np j))) else none)
      else none
    | _ => none
  | _ => none
end
section
/-! FROM THE PURE HEAP TO THE MACHINE'S: ad gives a cell's address, b the script's, aC an array kind's class -/
def pm_cv (b : Nat) (ad : Nat → Nat) (v : Value) : Value := match v with
  | .ref k => .ref (ad k)
  | .retAddr _ => .ref b
  | v => v
def pm_gi (v : Value) : Int32 := match v with
  | .int x => x
  | _ => 0
def pm_gl (v : Value) : Int64 := match v with
  | .long x => x
  | _ => 0
def pm_gr (ad : Nat → Nat) (v : Value) : Option Nat := match v with
  | .ref k => some (ad k)
  | _ => none
def pm_ca (ad : Nat → Nat) (t : Nat) (vs : List Value) : (Nat → Int32) ⊕ (Nat → Int64) ⊕ (Nat → UInt32) ⊕ (Nat → UInt64) ⊕ (Nat → Option Nat) := match t with
  | 0 => .inl (fun j => pm_gi (vs.getD j .null))
  | 1 => .inr (.inl (fun j => pm_gl (vs.getD j .null)))
  | 2 => .inl (fun j => pm_gi (vs.getD j .null))
  | _ => .inr (.inr (.inr (.inr (fun j => pm_gr ad (vs.getD j .null)))))
def pm_cc (b : Nat) (aC : Nat → ClassId) (ad : Nat → Nat) (c : pm_C) : va_E := match c with
  | .inr o => .inr (o.1, o.2.map (pm_cv b ad))
  | .inl a => .inl (aC a.1, a.2.length, pm_ca ad a.1 a.2)
def pm_ch (b : Nat) (aC : Nat → ClassId) (ad : Nat → Nat) (cs : List pm_C) : va_W := cs.mapIdx (fun k c => (ad k, pm_cc b aC ad c))
def pm_cl (b : Nat) (ad : Nat → Nat) (lv : pm_L) : pm_L := lv.map (fun q => (q.1, pm_cv b ad q.2))
def pm_okv (n : Nat) (v : Value) : Prop := ∀ k, v = .ref k → k < n
def pm_vals (c : pm_C) : List Value := match c with
  | .inr o => o.2
  | .inl a => a.2
def pm_ok (lv : pm_L) (st : List Value) (cs : List pm_C) : Prop := (∀ q ∈ lv, pm_okv cs.length q.2) ∧ (∀ v ∈ st, pm_okv cs.length v) ∧ ∀ c ∈ cs, ∀ v ∈ pm_vals c, pm_okv cs.length v
theorem pm_cv_cat (b : Nat) (ad : Nat → Nat) (v : Value) : (pm_cv b ad v).category = v.category := by cases v <;> rfl
theorem pm_ch_get {b : Nat} {aC : Nat → ClassId} {ad : Nat → Nat} {cs : List pm_C} {k : Nat} {c : pm_C} (h : cs[k]? = some c) : (pm_ch b aC ad cs)[k]? = some (ad k, pm_cc b aC ad c) := by
  simp [pm_ch, List.getElem?_mapIdx, h]
theorem pm_ch_len (b : Nat) (aC : Nat → ClassId) (ad : Nat → Nat) (cs : List pm_C) : (pm_ch b aC ad cs).length = cs.length := by simp [pm_ch]
theorem pm_ch_inv {b : Nat} {aC : Nat → ClassId} {ad : Nat → Nat} {cs : List pm_C} {k : Nat} {q : Nat × va_E} (h : (pm_ch b aC ad cs)[k]? = some q) : ∃ c, cs[k]? = some c ∧ q = (ad k, pm_cc b aC ad c) := by
  rw [pm_ch, List.getElem?_mapIdx] at h
  cases hc : cs[k]? with
  | none => rw [hc] at h; cases h
  | some c => rw [hc] at h; exact ⟨c, rfl, (Option.some.inj h).symm⟩
theorem pm_ch_set (b : Nat) (aC : Nat → ClassId) (ad : Nat → Nat) (cs : List pm_C) (k : Nat) (c : pm_C) : pm_ch b aC ad (cs.set k c) = (pm_ch b aC ad cs).set k (ad k, pm_cc b aC ad c) := by
  apply List.ext_getElem?
  intro j
  rw [pm_ch, List.getElem?_mapIdx, List.getElem?_set, List.getElem?_set, pm_ch, List.getElem?_mapIdx, List.length_mapIdx]
  by_cases hj : k = j
  · subst hj
    by_cases hk : k < cs.length
    · simp [hk]
    · simp [hk]
  · simp [hj]
theorem pm_ch_app (b : Nat) (aC : Nat → ClassId) (ad : Nat → Nat) (cs : List pm_C) (c : pm_C) : pm_ch b aC ad (cs ++ [c]) = pm_ch b aC ad cs ++ [(ad cs.length, pm_cc b aC ad c)] := by
  simp [pm_ch, List.mapIdx_append]
theorem pm_cv_ad {b n : Nat} {ad ad' : Nat → Nat} (ha : ∀ k, k < n → ad' k = ad k) {v : Value} (h : pm_okv n v) : pm_cv b ad' v = pm_cv b ad v := by
  cases v with
  | ref k => show Value.ref _ = Value.ref _; rw [ha k (h k rfl)]
  | _ => rfl
theorem pm_cvs_ad {b n : Nat} {ad ad' : Nat → Nat} (ha : ∀ k, k < n → ad' k = ad k) {vs : List Value} (h : ∀ v ∈ vs, pm_okv n v) : vs.map (pm_cv b ad') = vs.map (pm_cv b ad) := List.map_congr_left fun v hv => pm_cv_ad ha (h v hv)
theorem pm_cl_ad {b n : Nat} {ad ad' : Nat → Nat} (ha : ∀ k, k < n → ad' k = ad k) {lv : pm_L} (h : ∀ q ∈ lv, pm_okv n q.2) : pm_cl b ad' lv = pm_cl b ad lv := List.map_congr_left fun q hq => by rw [pm_cv_ad ha (h q hq)]
theorem pm_okv_getD {n : Nat} {vs : List Value} (h : ∀ v ∈ vs, pm_okv n v) (j : Nat) : pm_okv n (vs.getD j .null) := by
  rw [List.getD_eq_getElem?_getD]
  cases hj : vs[j]? with
  | none => intro k hk; cases hk
  | some v => exact h v (List.mem_of_getElem? hj)
theorem pm_gr_ad {n : Nat} {ad ad' : Nat → Nat} (ha : ∀ k, k < n → ad' k = ad k) {v : Value} (h : pm_okv n v) : pm_gr ad' v = pm_gr ad v := by
  cases v with
  | ref k => show some _ = some _; rw [ha k (h k rfl)]
  | _ => rfl
theorem pm_cc_ad {b n : Nat} {aC : Nat → ClassId} {ad ad' : Nat → Nat} (ha : ∀ k, k < n → ad' k = ad k) {c : pm_C} (h : ∀ v ∈ pm_vals c, pm_okv n v) : pm_cc b aC ad' c = pm_cc b aC ad c := by
  cases c with
  | inr o =>
    show (Sum.inr (o.1, o.2.map (pm_cv b ad')) : va_E) = Sum.inr (o.1, o.2.map (pm_cv b ad))
    rw [pm_cvs_ad (b := b) ha (vs := o.2) h]
  | inl a =>
    obtain ⟨t, vs⟩ := a
    show Sum.inl (aC t, vs.length, pm_ca ad' t vs) = Sum.inl (aC t, vs.length, pm_ca ad t vs)
    have e : pm_ca ad' t vs = pm_ca ad t vs := by
      unfold pm_ca
      split
      · rfl
      · rfl
      · rfl
      · congr 4
        funext j
        exact pm_gr_ad ha (pm_okv_getD h j)
    rw [e]
theorem pm_ch_ad {b : Nat} {aC : Nat → ClassId} {ad ad' : Nat → Nat} {cs : List pm_C} {n : Nat} (hn : cs.length ≤ n) (ha : ∀ k, k < n → ad' k = ad k) (h : ∀ c ∈ cs, ∀ v ∈ pm_vals c, pm_okv n v) : pm_ch b aC ad' cs = pm_ch b aC ad cs := by
  apply List.ext_getElem?
  intro j
  rw [pm_ch, pm_ch, List.getElem?_mapIdx, List.getElem?_mapIdx]
  cases hj : cs[j]? with
  | none => rfl
  | some c =>
    have hl : j < cs.length := (List.getElem?_eq_some_iff.mp hj).1
    show some (ad' j, pm_cc b aC ad' c) = some (ad j, pm_cc b aC ad c)
    rw [ha j (by omega), pm_cc_ad ha (h c (List.mem_of_getElem? hj))]
theorem pm_ld_mem {lv : pm_L} {i : Nat} {v : Value} (h : pm_ld lv i = some v) : (i, v) ∈ lv := by
  unfold pm_ld at h
  cases hf : lv.find? (fun q => q.1 == i) with
  | none => rw [hf] at h; cases h
  | some q =>
    rw [hf] at h
    have h1 := List.find?_some hf
    have h2 := List.mem_of_find?_eq_some hf
    cases h
    have : q.1 = i := by simpa using h1
    rw [← this]
    exact h2
theorem pm_ld_slot {b nL : Nat} {ad : Nat → Nat} {lv : pm_L} {ls : Array Slot} (hl : lv_has ls nL (pm_cl b ad lv)) {i : Nat} {v : Value} (h : pm_ld lv i = some v) : ls[i]? = some (.val (pm_cv b ad v)) :=
  hl.2.2 (i, pm_cv b ad v) (List.mem_map.mpr ⟨(i, v), pm_ld_mem h, rfl⟩)
theorem pm_ld_at {b : Nat} {ad : Nat → Nat} {lv : pm_L} {i : Nat} {v : Value} (h : pm_ld lv i = some v) : ∃ k : Nat, (pm_cl b ad lv)[k]? = some (i, pm_cv b ad v) :=
  List.getElem?_of_mem (List.mem_map.mpr ⟨(i, v), pm_ld_mem h, rfl⟩)
theorem pm_s1_cl (b : Nat) (ad : Nat → Nat) (lv : pm_L) (i : Nat) (v : Value) : (i, pm_cv b ad v) :: (pm_cl b ad lv).filter (fun q => !(q.1 == i) && !(q.1 + 1 == i && q.2.category == 2)) = pm_cl b ad (pm_s1 lv i v) := by
  unfold pm_s1 pm_cl
  rw [List.map_cons, List.filter_map]
  congr 2
  apply List.filter_congr
  intro q _
  simp [pm_cv_cat]
theorem pm_s2_cl (b : Nat) (ad : Nat → Nat) (lv : pm_L) (i : Nat) (v : Value) : (i, pm_cv b ad v) :: (pm_cl b ad lv).filter (fun q => !(q.1 == i) && (!(q.1 == i + 1) && !(q.1 + 1 == i && q.2.category == 2))) = pm_cl b ad (pm_s2 lv i v) := by
  unfold pm_s2 pm_cl
  rw [List.map_cons, List.filter_map]
  congr 2
  apply List.filter_congr
  intro q _
  simp [pm_cv_cat]
theorem pm_s1_ok {n i : Nat} {lv : pm_L} {v : Value} (h : ∀ q ∈ lv, pm_okv n q.2) (hv : pm_okv n v) : ∀ q ∈ pm_s1 lv i v, pm_okv n q.2 := by
  intro q hq
  rcases List.mem_cons.mp hq with h1 | h1
  · rw [h1]; exact hv
  · exact h q (List.mem_filter.mp h1).1
theorem pm_s2_ok {n i : Nat} {lv : pm_L} {v : Value} (h : ∀ q ∈ lv, pm_okv n q.2) (hv : pm_okv n v) : ∀ q ∈ pm_s2 lv i v, pm_okv n q.2 := by
  intro q hq
  rcases List.mem_cons.mp hq with h1 | h1
  · rw [h1]; exact hv
  · exact h q (List.mem_filter.mp h1).1
theorem pm_okv_int (n : Nat) (x : Int32) : pm_okv n (.int x) := fun k h => by cases h
theorem pm_okv_long (n : Nat) (x : Int64) : pm_okv n (.long x) := fun k h => by cases h
theorem pm_okv_null (n : Nat) : pm_okv n .null := fun k h => by cases h
theorem pm_okv_ra (n k : Nat) : pm_okv n (.retAddr k) := fun k h => by cases h
theorem pm_okv_ref {n k : Nat} (h : k < n) : pm_okv n (.ref k) := fun j e => by cases e; exact h
theorem pm_okv_mono {n n' : Nat} (hn : n ≤ n') {v : Value} (h : pm_okv n v) : pm_okv n' v := fun k e => Nat.lt_of_lt_of_le (h k e) hn
theorem pm_sum_cv (b : Nat) (ad : Nat → Nat) (st : List Value) : pm_sum (st.map (pm_cv b ad)) = pm_sum st := by
  unfold pm_sum
  rw [List.map_map]
  congr 1
  apply List.map_congr_left
  intro v _
  exact pm_cv_cat b ad v
theorem pm_br_eq {pc t : Nat} {off : Int} (h : pm_br pc off = some t) : (pc : Int) + off = (t : Int) := by
  unfold pm_br at h
  split at h
  · cases h
    omega
  · cases h
/-- the kinds of arrays -/
def pm_tys (aC : Nat → ClassId) : List (ClassId × FieldType) := [(aC 0, .int), (aC 1, .long), (aC 2, .boolean), (aC 3, .object RX2), (aC 4, .object RX3), (aC 5, .object RX5), (aC 6, .object RX6)]
theorem pm_gi_set (vs : List Value) {k : Nat} (hk : k < vs.length) (x : Int32) : (fun j => pm_gi ((vs.set k (.int x)).getD j .null)) = upd (fun j => pm_gi (vs.getD j .null)) k x := by
  funext j
  unfold upd
  by_cases hj : j = k
  · subst hj
    simp [List.getD_eq_getElem?_getD, List.getElem?_set, hk, pm_gi]
  · rw [if_neg hj]
    simp [List.getD_eq_getElem?_getD, List.getElem?_set, Ne.symm hj]
theorem pm_gl_set (vs : List Value) {k : Nat} (hk : k < vs.length) (x : Int64) : (fun j => pm_gl ((vs.set k (.long x)).getD j .null)) = vp_updL (fun j => pm_gl (vs.getD j .null)) k x := by
  funext j
  unfold vp_updL
  by_cases hj : j = k
  · subst hj
    simp [List.getD_eq_getElem?_getD, List.getElem?_set, hk, pm_gl]
  · rw [if_neg hj]
    simp [List.getD_eq_getElem?_getD, List.getElem?_set, Ne.symm hj]
theorem pm_gr_set (ad : Nat → Nat) (vs : List Value) {k : Nat} (hk : k < vs.length) (v : Value) : (fun j => pm_gr ad ((vs.set k v).getD j .null)) = va_up (fun j => pm_gr ad (vs.getD j .null)) k (pm_gr ad v) := by
  funext j
  unfold va_up
  by_cases hj : j = k
  · subst hj
    simp [List.getD_eq_getElem?_getD, List.getElem?_set, hk]
  · rw [if_neg hj]
    simp [List.getD_eq_getElem?_getD, List.getElem?_set, Ne.symm hj]
theorem pm_gi_cpy (vs ws : List Value) {sp dp n : Nat} (hd : dp + n ≤ ws.length) : (fun j => pm_gi ((pm_cpy vs ws sp dp n).getD j .null)) = va_cpy (fun j => pm_gi (vs.getD j .null)) (fun j => pm_gi (ws.getD j .null)) sp dp n := by
  funext j
  unfold va_cpy pm_cpy
  rw [List.getD_eq_getElem?_getD, List.getElem?_map]
  by_cases hj : j < ws.length
  · rw [List.getElem?_range hj]
    show pm_gi (if _ then _ else _) = _
    split <;> rfl
  · have e : (List.range ws.length)[j]? = none := by simp; omega
    rw [e, if_neg (by omega)]
    show pm_gi Value.null = pm_gi (ws.getD j Value.null)
    rw [List.getD_eq_getElem?_getD, List.getElem?_eq_none (by omega)]
    rfl
theorem pm_cpy_len (vs ws : List Value) (sp dp n : Nat) : (pm_cpy vs ws sp dp n).length = ws.length := by simp [pm_cpy]
theorem pm_dv_i (n : Nat) : (fun j => pm_gi ((List.replicate n (Value.int 0)).getD j .null)) = fun _ => 0 := by
  funext j
  rw [List.getD_eq_getElem?_getD, List.getElem?_replicate]
  split <;> rfl
theorem pm_dv_l (n : Nat) : (fun j => pm_gl ((List.replicate n (Value.long 0)).getD j .null)) = fun _ => 0 := by
  funext j
  rw [List.getD_eq_getElem?_getD, List.getElem?_replicate]
  split <;> rfl
theorem pm_dv_r (ad : Nat → Nat) (n : Nat) : (fun j => pm_gr ad ((List.replicate n Value.null).getD j .null)) = fun _ => none := by
  funext j
  rw [List.getD_eq_getElem?_getD, List.getElem?_replicate]
  split <;> rfl
end
section
/-! ONE INSTRUCTION: the pure machine's step is the machine's -/
def pm_Fc (s : State) (D : va_G) (aC : Nat → ClassId) (b : Nat) (A : Nat → Prop) (nL nc0 ns0 : Nat) (ad : Nat → Nat) (lv : pm_L) (h : pm_H) (ls : Array Slot) (H : Heap) (locs : List Loc) (cells slots : Nat) : Prop :=
  va_P D vwCl (pm_ch b aC ad h.1) H ∧ va_D A (pm_ch b aC ad h.1) ∧ va_S A s.heap H locs ∧ lv_has ls nL (pm_cl b ad lv) ∧ cells + nc0 = h.2.1 ∧ slots + ns0 = h.2.2
def pm_Go (p : Program) (l : Launch) (e : Env) (R : Room) (s : State) (m : MethodId) (args : Array Value) (below : List Frame) (meth : Method) (c : Code) (Q : State → Prop) (D : va_G) (aC : Nat → ClassId) (b : Nat) (A : Nat → Prop) (nL nc0 ns0 : Nat) (s0 s1 : pm_S) : Prop :=
  ∀ (ad : Nat → Nat) (ls : Array Slot) (H : Heap) (locs : List Loc) (cells slots : Nat), pm_Fc s D aC b A nL nc0 ns0 ad s0.2.1 s0.2.2.2 ls H locs cells slots → pm_ok s0.2.1 s0.2.2.1 s0.2.2.2.1 → s1.2.2.2.2.1 ≤ nc0 + R.cells → s1.2.2.2.2.2 ≤ ns0 + R.slots →
    (∀ (ad' : Nat → Nat) (ls' : Array Slot) (H' : Heap) (locs' : List Loc) (cells' slots' : Nat), (∀ k, k < s0.2.2.2.1.length → ad' k = ad k) → pm_Fc s D aC b A nL nc0 ns0 ad' s1.2.1 s1.2.2.2 ls' H' locs' cells' slots' → W p l e R s m args below meth c H' locs' cells' slots' Q (F0 m s1.1 ls' (s1.2.2.1.map (pm_cv b ad')))) →
    W p l e R s m args below meth c H locs cells slots Q (F0 m s0.1 ls (s0.2.2.1.map (pm_cv b ad)))
section PO
variable {p : Program} {l : Launch} {e : Env} {R : Room} {s : State} {m : MethodId} {args : Array Value} {below : List Frame} {meth : Method} {c : Code} {Q : State → Prop}
variable {D : va_G} {aC : Nat → ClassId} {b : Nat} {sc : pm_Sc} {A : Nat → Prop} {nL nc0 ns0 : Nat} {cc : ByteArray} {own : String} {pc : Nat} {lv : pm_L} {r : List Value} {h : pm_H}
theorem po_null (hx : p.tables.exec = Jvm.exec) (hb : c.code = cc)  (hd : decode cc pc = .ok (.aconst_null, 1)) : pm_Go p l e R s m args below meth c Q D aC b A nL nc0 ns0 (pc, lv, r, h) (pc + 1, lv, .null :: r, h) :=
  fun ad ls H locs cells slots F O _ _ kk => lv_null hx hb hd (kk ad ls H locs cells slots (fun _ _ => rfl) F)
theorem po_iconst (hx : p.tables.exec = Jvm.exec) (hb : c.code = cc) {n : Int} (hd : decode cc pc = .ok (.iconst n, 1)) : pm_Go p l e R s m args below meth c Q D aC b A nL nc0 ns0 (pc, lv, r, h) (pc + 1, lv, .int (Int32.ofInt n) :: r, h) :=
  fun ad ls H locs cells slots F O _ _ kk => lv_iconst hx hb hd rfl (kk ad ls H locs cells slots (fun _ _ => rfl) F)
theorem po_bipush (hx : p.tables.exec = Jvm.exec) (hb : c.code = cc) {n : Int} (hd : decode cc pc = .ok (.bipush n, 2)) : pm_Go p l e R s m args below meth c Q D aC b A nL nc0 ns0 (pc, lv, r, h) (pc + 2, lv, .int (Int8.ofInt n).toInt32 :: r, h) :=
  fun ad ls H locs cells slots F O _ _ kk => lv_bipush hx hb hd rfl (kk ad ls H locs cells slots (fun _ _ => rfl) F)
theorem po_sipush (hx : p.tables.exec = Jvm.exec) (hb : c.code = cc) {n : Int} (hd : decode cc pc = .ok (.sipush n, 3)) : pm_Go p l e R s m args below meth c Q D aC b A nL nc0 ns0 (pc, lv, r, h) (pc + 3, lv, .int (Int16.ofInt n).toInt32 :: r, h) :=
  fun ad ls H locs cells slots F O _ _ kk => lv_sipush hx hb hd rfl (kk ad ls H locs cells slots (fun _ _ => rfl) F)
theorem po_lconst (hx : p.tables.exec = Jvm.exec) (hb : c.code = cc) {n : Fin 2} (hd : decode cc pc = .ok (.lconst n, 1)) : pm_Go p l e R s m args below meth c Q D aC b A nL nc0 ns0 (pc, lv, r, h) (pc + 1, lv, .long (Int64.ofNat (n : Nat)) :: r, h) :=
  fun ad ls H locs cells slots F O _ _ kk => lv_lconst hx hb hd rfl (kk ad ls H locs cells slots (fun _ _ => rfl) F)
theorem po_ldcw (hx : p.tables.exec = Jvm.exec) (hb : c.code = cc) {i : Nat} {v : Int32} (hown : s.vm.findClass own = some m.cls) (hk : (Jvm.Cond.constant own i v).before args s = true) (hd : decode cc pc = .ok (.ldc_w i, 3)) : pm_Go p l e R s m args below meth c Q D aC b A nL nc0 ns0 (pc, lv, r, h) (pc + 3, lv, .int v :: r, h) :=
  fun ad ls H locs cells slots F O _ _ kk => lv_ldcw hx hb hown hk hd (kk ad ls H locs cells slots (fun _ _ => rfl) F)
theorem po_ldc2 (hx : p.tables.exec = Jvm.exec) (hb : c.code = cc) {i : Nat} {v : Int64} (hown : s.vm.findClass own = some m.cls) (hk : (Jvm.Cond.constantLong own i v).before args s = true) (hd : decode cc pc = .ok (.ldc2_w i, 3)) : pm_Go p l e R s m args below meth c Q D aC b A nL nc0 ns0 (pc, lv, r, h) (pc + 3, lv, .long v :: r, h) :=
  fun ad ls H locs cells slots F O _ _ kk => lv_ldc2 hx hb hown hk hd (kk ad ls H locs cells slots (fun _ _ => rfl) F)
theorem po_iload_n (hx : p.tables.exec = Jvm.exec) (hb : c.code = cc) {k : Fin 4} {x : Int32} (hl : pm_ld lv k = some (.int x)) (hd : decode cc pc = .ok (.iload_n k, 1)) : pm_Go p l e R s m args below meth c Q D aC b A nL nc0 ns0 (pc, lv, r, h) (pc + 1, lv, .int x :: r, h) :=
  fun ad ls H locs cells slots F O _ _ kk => lv_iload_n hx hb hd rfl (pm_ld_slot F.2.2.2.1 hl) (kk ad ls H locs cells slots (fun _ _ => rfl) F)
theorem po_iload (hx : p.tables.exec = Jvm.exec) (hb : c.code = cc) {k : Nat} {x : Int32} (hl : pm_ld lv k = some (.int x)) (hd : decode cc pc = .ok (.iload k, 2)) : pm_Go p l e R s m args below meth c Q D aC b A nL nc0 ns0 (pc, lv, r, h) (pc + 2, lv, .int x :: r, h) :=
  fun ad ls H locs cells slots F O _ _ kk => lv_iload hx hb hd (pm_ld_slot F.2.2.2.1 hl) (kk ad ls H locs cells slots (fun _ _ => rfl) F)
theorem po_lload_n (hx : p.tables.exec = Jvm.exec) (hb : c.code = cc) {k : Fin 4} {x : Int64} (hl : pm_ld lv k = some (.long x)) (hd : decode cc pc = .ok (.lload_n k, 1)) : pm_Go p l e R s m args below meth c Q D aC b A nL nc0 ns0 (pc, lv, r, h) (pc + 1, lv, .long x :: r, h) :=
  fun ad ls H locs cells slots F O _ _ kk => lv_lload_n hx hb hd rfl (pm_ld_slot F.2.2.2.1 hl) (kk ad ls H locs cells slots (fun _ _ => rfl) F)
theorem po_lload (hx : p.tables.exec = Jvm.exec) (hb : c.code = cc) {k : Nat} {x : Int64} (hl : pm_ld lv k = some (.long x)) (hd : decode cc pc = .ok (.lload k, 2)) : pm_Go p l e R s m args below meth c Q D aC b A nL nc0 ns0 (pc, lv, r, h) (pc + 2, lv, .long x :: r, h) :=
  fun ad ls H locs cells slots F O _ _ kk => lv_lload hx hb hd (pm_ld_slot F.2.2.2.1 hl) (kk ad ls H locs cells slots (fun _ _ => rfl) F)
theorem po_aload_n (hx : p.tables.exec = Jvm.exec) (hb : c.code = cc) {k : Fin 4} {x : Nat} (hl : pm_ld lv k = some (.ref x)) (hd : decode cc pc = .ok (.aload_n k, 1)) : pm_Go p l e R s m args below meth c Q D aC b A nL nc0 ns0 (pc, lv, r, h) (pc + 1, lv, .ref x :: r, h) :=
  fun ad ls H locs cells slots F O _ _ kk => lv_aload_n hx hb hd rfl (pm_ld_slot F.2.2.2.1 hl) (kk ad ls H locs cells slots (fun _ _ => rfl) F)
theorem po_aload (hx : p.tables.exec = Jvm.exec) (hb : c.code = cc) {k : Nat} {x : Nat} (hl : pm_ld lv k = some (.ref x)) (hd : decode cc pc = .ok (.aload k, 2)) : pm_Go p l e R s m args below meth c Q D aC b A nL nc0 ns0 (pc, lv, r, h) (pc + 2, lv, .ref x :: r, h) :=
  fun ad ls H locs cells slots F O _ _ kk => lv_aload hx hb hd (pm_ld_slot F.2.2.2.1 hl) (kk ad ls H locs cells slots (fun _ _ => rfl) F)
theorem po_aload_nN (hx : p.tables.exec = Jvm.exec) (hb : c.code = cc) {k : Fin 4} (hl : pm_ld lv k = some .null) (hd : decode cc pc = .ok (.aload_n k, 1)) : pm_Go p l e R s m args below meth c Q D aC b A nL nc0 ns0 (pc, lv, r, h) (pc + 1, lv, .null :: r, h) :=
  fun ad ls H locs cells slots F O _ _ kk => lv_aload_nN hx hb hd rfl (pm_ld_slot F.2.2.2.1 hl) (kk ad ls H locs cells slots (fun _ _ => rfl) F)
theorem po_aloadN (hx : p.tables.exec = Jvm.exec) (hb : c.code = cc) {k : Nat} (hl : pm_ld lv k = some .null) (hd : decode cc pc = .ok (.aload k, 2)) : pm_Go p l e R s m args below meth c Q D aC b A nL nc0 ns0 (pc, lv, r, h) (pc + 2, lv, .null :: r, h) :=
  fun ad ls H locs cells slots F O _ _ kk => lv_aloadN hx hb hd (pm_ld_slot F.2.2.2.1 hl) (kk ad ls H locs cells slots (fun _ _ => rfl) F)
theorem po_aload_nS (hx : p.tables.exec = Jvm.exec) (hb : c.code = cc) {k : Fin 4} {x : Nat} (hl : pm_ld lv k = some (.retAddr x)) (hd : decode cc pc = .ok (.aload_n k, 1)) : pm_Go p l e R s m args below meth c Q D aC b A nL nc0 ns0 (pc, lv, r, h) (pc + 1, lv, .retAddr x :: r, h) :=
  fun ad ls H locs cells slots F O _ _ kk => lv_aload_n hx hb hd rfl (pm_ld_slot F.2.2.2.1 hl) (kk ad ls H locs cells slots (fun _ _ => rfl) F)
theorem po_aloadS (hx : p.tables.exec = Jvm.exec) (hb : c.code = cc) {k : Nat} {x : Nat} (hl : pm_ld lv k = some (.retAddr x)) (hd : decode cc pc = .ok (.aload k, 2)) : pm_Go p l e R s m args below meth c Q D aC b A nL nc0 ns0 (pc, lv, r, h) (pc + 2, lv, .retAddr x :: r, h) :=
  fun ad ls H locs cells slots F O _ _ kk => lv_aload hx hb hd (pm_ld_slot F.2.2.2.1 hl) (kk ad ls H locs cells slots (fun _ _ => rfl) F)
theorem po_istore_n (hx : p.tables.exec = Jvm.exec) (hb : c.code = cc) {k : Fin 4} {x : Int32} (hd : decode cc pc = .ok (.istore_n k, 1)) (hn : (k : Nat) < nL) : pm_Go p l e R s m args below meth c Q D aC b A nL nc0 ns0 (pc, lv, .int x :: r, h) (pc + 1, pm_s1 lv k (.int x), r, h) :=
  fun ad ls H locs cells slots F O _ _ kk => lv_istore_n hx hb hd rfl F.2.2.2.1 hn (pm_s1_cl b ad lv k (.int x)) (fun ls' hl' => kk ad ls' H locs cells slots (fun _ _ => rfl) ⟨F.1, F.2.1, F.2.2.1, hl', F.2.2.2.2⟩)
theorem po_istore (hx : p.tables.exec = Jvm.exec) (hb : c.code = cc) {k : Nat} {x : Int32} (hd : decode cc pc = .ok (.istore k, 2)) (hn : k < nL) : pm_Go p l e R s m args below meth c Q D aC b A nL nc0 ns0 (pc, lv, .int x :: r, h) (pc + 2, pm_s1 lv k (.int x), r, h) :=
  fun ad ls H locs cells slots F O _ _ kk => lv_istore hx hb hd F.2.2.2.1 hn (pm_s1_cl b ad lv k (.int x)) (fun ls' hl' => kk ad ls' H locs cells slots (fun _ _ => rfl) ⟨F.1, F.2.1, F.2.2.1, hl', F.2.2.2.2⟩)
theorem po_lstore_n (hx : p.tables.exec = Jvm.exec) (hb : c.code = cc) {k : Fin 4} {x : Int64} (hd : decode cc pc = .ok (.lstore_n k, 1)) (hn : (k : Nat) + 1 < nL) : pm_Go p l e R s m args below meth c Q D aC b A nL nc0 ns0 (pc, lv, .long x :: r, h) (pc + 1, pm_s2 lv k (.long x), r, h) :=
  fun ad ls H locs cells slots F O _ _ kk => lv_lstore_n hx hb hd rfl F.2.2.2.1 hn (pm_s2_cl b ad lv k (.long x)) (fun ls' hl' => kk ad ls' H locs cells slots (fun _ _ => rfl) ⟨F.1, F.2.1, F.2.2.1, hl', F.2.2.2.2⟩)
theorem po_lstore (hx : p.tables.exec = Jvm.exec) (hb : c.code = cc) {k : Nat} {x : Int64} (hd : decode cc pc = .ok (.lstore k, 2)) (hn : k + 1 < nL) : pm_Go p l e R s m args below meth c Q D aC b A nL nc0 ns0 (pc, lv, .long x :: r, h) (pc + 2, pm_s2 lv k (.long x), r, h) :=
  fun ad ls H locs cells slots F O _ _ kk => lv_lstore hx hb hd F.2.2.2.1 hn (pm_s2_cl b ad lv k (.long x)) (fun ls' hl' => kk ad ls' H locs cells slots (fun _ _ => rfl) ⟨F.1, F.2.1, F.2.2.1, hl', F.2.2.2.2⟩)
theorem po_astore_n (hx : p.tables.exec = Jvm.exec) (hb : c.code = cc) {k : Fin 4} {x : Nat} (hd : decode cc pc = .ok (.astore_n k, 1)) (hn : (k : Nat) < nL) : pm_Go p l e R s m args below meth c Q D aC b A nL nc0 ns0 (pc, lv, .ref x :: r, h) (pc + 1, pm_s1 lv k (.ref x), r, h) :=
  fun ad ls H locs cells slots F O _ _ kk => lv_astore_n hx hb hd rfl F.2.2.2.1 hn (pm_s1_cl b ad lv k (.ref x)) (fun ls' hl' => kk ad ls' H locs cells slots (fun _ _ => rfl) ⟨F.1, F.2.1, F.2.2.1, hl', F.2.2.2.2⟩)
theorem po_astore (hx : p.tables.exec = Jvm.exec) (hb : c.code = cc) {k : Nat} {x : Nat} (hd : decode cc pc = .ok (.astore k, 2)) (hn : k < nL) : pm_Go p l e R s m args below meth c Q D aC b A nL nc0 ns0 (pc, lv, .ref x :: r, h) (pc + 2, pm_s1 lv k (.ref x), r, h) :=
  fun ad ls H locs cells slots F O _ _ kk => lv_astore hx hb hd F.2.2.2.1 hn (pm_s1_cl b ad lv k (.ref x)) (fun ls' hl' => kk ad ls' H locs cells slots (fun _ _ => rfl) ⟨F.1, F.2.1, F.2.2.1, hl', F.2.2.2.2⟩)
theorem po_astore_nN (hx : p.tables.exec = Jvm.exec) (hb : c.code = cc) {k : Fin 4} (hd : decode cc pc = .ok (.astore_n k, 1)) (hn : (k : Nat) < nL) : pm_Go p l e R s m args below meth c Q D aC b A nL nc0 ns0 (pc, lv, .null :: r, h) (pc + 1, pm_s1 lv k (.null), r, h) :=
  fun ad ls H locs cells slots F O _ _ kk => lv_astore_nN hx hb hd rfl F.2.2.2.1 hn (pm_s1_cl b ad lv k .null) (fun ls' hl' => kk ad ls' H locs cells slots (fun _ _ => rfl) ⟨F.1, F.2.1, F.2.2.1, hl', F.2.2.2.2⟩)
theorem po_astoreN (hx : p.tables.exec = Jvm.exec) (hb : c.code = cc) {k : Nat} (hd : decode cc pc = .ok (.astore k, 2)) (hn : k < nL) : pm_Go p l e R s m args below meth c Q D aC b A nL nc0 ns0 (pc, lv, .null :: r, h) (pc + 2, pm_s1 lv k (.null), r, h) :=
  fun ad ls H locs cells slots F O _ _ kk => lv_astoreN hx hb hd F.2.2.2.1 hn (pm_s1_cl b ad lv k .null) (fun ls' hl' => kk ad ls' H locs cells slots (fun _ _ => rfl) ⟨F.1, F.2.1, F.2.2.1, hl', F.2.2.2.2⟩)
theorem po_iinc (hx : p.tables.exec = Jvm.exec) (hb : c.code = cc) {k : Nat} {n : Int} {x : Int32} (hd : decode cc pc = .ok (.iinc k n, 3)) (hl : pm_ld lv k = some (.int x)) (hn : k < nL) : pm_Go p l e R s m args below meth c Q D aC b A nL nc0 ns0 (pc, lv, r, h) (pc + 3, pm_s1 lv k (.int (x + Int32.ofInt n)), r, h) := by
  intro ad ls H locs cells slots F O _ _ kk
  obtain ⟨q, hq⟩ := pm_ld_at (b := b) (ad := ad) hl
  exact lv_iinc hx hb hd F.2.2.2.1 hq rfl hn (pm_s1_cl b ad lv k (.int (x + Int32.ofInt n))) (fun ls' hl' => kk ad ls' H locs cells slots (fun _ _ => rfl) ⟨F.1, F.2.1, F.2.2.1, hl', F.2.2.2.2⟩)
theorem po_iadd (hx : p.tables.exec = Jvm.exec) (hb : c.code = cc) {x y : Int32} (hd : decode cc pc = .ok (.iadd, 1)) : pm_Go p l e R s m args below meth c Q D aC b A nL nc0 ns0 (pc, lv, .int y :: .int x :: r, h) (pc + 1, lv, .int (x + y) :: r, h) :=
  fun ad ls H locs cells slots F O _ _ kk => lv_iadd hx hb hd (kk ad ls H locs cells slots (fun _ _ => rfl) F)
theorem po_isub (hx : p.tables.exec = Jvm.exec) (hb : c.code = cc) {x y : Int32} (hd : decode cc pc = .ok (.isub, 1)) : pm_Go p l e R s m args below meth c Q D aC b A nL nc0 ns0 (pc, lv, .int y :: .int x :: r, h) (pc + 1, lv, .int (x - y) :: r, h) :=
  fun ad ls H locs cells slots F O _ _ kk => lv_isub hx hb hd (kk ad ls H locs cells slots (fun _ _ => rfl) F)
theorem po_imul (hx : p.tables.exec = Jvm.exec) (hb : c.code = cc) {x y : Int32} (hd : decode cc pc = .ok (.imul, 1)) : pm_Go p l e R s m args below meth c Q D aC b A nL nc0 ns0 (pc, lv, .int y :: .int x :: r, h) (pc + 1, lv, .int (x * y) :: r, h) :=
  fun ad ls H locs cells slots F O _ _ kk => lv_imul hx hb hd (kk ad ls H locs cells slots (fun _ _ => rfl) F)
theorem po_iand (hx : p.tables.exec = Jvm.exec) (hb : c.code = cc) {x y : Int32} (hd : decode cc pc = .ok (.iand, 1)) : pm_Go p l e R s m args below meth c Q D aC b A nL nc0 ns0 (pc, lv, .int y :: .int x :: r, h) (pc + 1, lv, .int (x &&& y) :: r, h) :=
  fun ad ls H locs cells slots F O _ _ kk => lv_iand hx hb hd (kk ad ls H locs cells slots (fun _ _ => rfl) F)
theorem po_ior (hx : p.tables.exec = Jvm.exec) (hb : c.code = cc) {x y : Int32} (hd : decode cc pc = .ok (.ior, 1)) : pm_Go p l e R s m args below meth c Q D aC b A nL nc0 ns0 (pc, lv, .int y :: .int x :: r, h) (pc + 1, lv, .int (x ||| y) :: r, h) :=
  fun ad ls H locs cells slots F O _ _ kk => lv_ior hx hb hd (kk ad ls H locs cells slots (fun _ _ => rfl) F)
theorem po_ixor (hx : p.tables.exec = Jvm.exec) (hb : c.code = cc) {x y : Int32} (hd : decode cc pc = .ok (.ixor, 1)) : pm_Go p l e R s m args below meth c Q D aC b A nL nc0 ns0 (pc, lv, .int y :: .int x :: r, h) (pc + 1, lv, .int (x ^^^ y) :: r, h) :=
  fun ad ls H locs cells slots F O _ _ kk => lv_ixor hx hb hd (kk ad ls H locs cells slots (fun _ _ => rfl) F)
theorem po_ishl (hx : p.tables.exec = Jvm.exec) (hb : c.code = cc) {x y : Int32} (hd : decode cc pc = .ok (.ishl, 1)) : pm_Go p l e R s m args below meth c Q D aC b A nL nc0 ns0 (pc, lv, .int y :: .int x :: r, h) (pc + 1, lv, .int (x <<< (y &&& 31)) :: r, h) :=
  fun ad ls H locs cells slots F O _ _ kk => lv_ishl hx hb hd (kk ad ls H locs cells slots (fun _ _ => rfl) F)
theorem po_ishr (hx : p.tables.exec = Jvm.exec) (hb : c.code = cc) {x y : Int32} (hd : decode cc pc = .ok (.ishr, 1)) : pm_Go p l e R s m args below meth c Q D aC b A nL nc0 ns0 (pc, lv, .int y :: .int x :: r, h) (pc + 1, lv, .int (x >>> (y &&& 31)) :: r, h) :=
  fun ad ls H locs cells slots F O _ _ kk => lv_ishr hx hb hd (kk ad ls H locs cells slots (fun _ _ => rfl) F)
theorem po_irem (hx : p.tables.exec = Jvm.exec) (hb : c.code = cc) {x y : Int32} (hne : ¬ y = 0) (hd : decode cc pc = .ok (.irem, 1)) : pm_Go p l e R s m args below meth c Q D aC b A nL nc0 ns0 (pc, lv, .int y :: .int x :: r, h) (pc + 1, lv, .int (x - x / y * y) :: r, h) :=
  fun ad ls H locs cells slots F O _ _ kk => lv_irem hx hb hd hne (kk ad ls H locs cells slots (fun _ _ => rfl) F)
theorem po_iushr (hx : p.tables.exec = Jvm.exec) (hb : c.code = cc) {x y : Int32} (hd : decode cc pc = .ok (.iushr, 1)) : pm_Go p l e R s m args below meth c Q D aC b A nL nc0 ns0 (pc, lv, .int y :: .int x :: r, h) (pc + 1, lv, .int ((x.toUInt32 >>> (y.toUInt32 &&& Int32.toUInt32 31)).toInt32) :: r, h) :=
  fun ad ls H locs cells slots F O _ _ kk => lv_iushr hx hb hd rfl (kk ad ls H locs cells slots (fun _ _ => rfl) F)
theorem po_lsub (hx : p.tables.exec = Jvm.exec) (hb : c.code = cc) {x y : Int64} (hd : decode cc pc = .ok (.lsub, 1)) : pm_Go p l e R s m args below meth c Q D aC b A nL nc0 ns0 (pc, lv, .long y :: .long x :: r, h) (pc + 1, lv, .long (x - y) :: r, h) :=
  fun ad ls H locs cells slots F O _ _ kk => lv_lsub hx hb hd (kk ad ls H locs cells slots (fun _ _ => rfl) F)
theorem po_land (hx : p.tables.exec = Jvm.exec) (hb : c.code = cc) {x y : Int64} (hd : decode cc pc = .ok (.land, 1)) : pm_Go p l e R s m args below meth c Q D aC b A nL nc0 ns0 (pc, lv, .long y :: .long x :: r, h) (pc + 1, lv, .long (x &&& y) :: r, h) :=
  fun ad ls H locs cells slots F O _ _ kk => lv_land hx hb hd (kk ad ls H locs cells slots (fun _ _ => rfl) F)
theorem po_lor (hx : p.tables.exec = Jvm.exec) (hb : c.code = cc) {x y : Int64} (hd : decode cc pc = .ok (.lor, 1)) : pm_Go p l e R s m args below meth c Q D aC b A nL nc0 ns0 (pc, lv, .long y :: .long x :: r, h) (pc + 1, lv, .long (x ||| y) :: r, h) :=
  fun ad ls H locs cells slots F O _ _ kk => lv_lor hx hb hd (kk ad ls H locs cells slots (fun _ _ => rfl) F)
theorem po_lshl (hx : p.tables.exec = Jvm.exec) (hb : c.code = cc) {x : Int64} {y : Int32} (hd : decode cc pc = .ok (.lshl, 1)) : pm_Go p l e R s m args below meth c Q D aC b A nL nc0 ns0 (pc, lv, .int y :: .long x :: r, h) (pc + 1, lv, .long (x <<< (y.toInt64 &&& 63)) :: r, h) :=
  fun ad ls H locs cells slots F O _ _ kk => lv_lshl hx hb hd rfl (kk ad ls H locs cells slots (fun _ _ => rfl) F)
theorem po_lshr (hx : p.tables.exec = Jvm.exec) (hb : c.code = cc) {x : Int64} {y : Int32} (hd : decode cc pc = .ok (.lshr, 1)) : pm_Go p l e R s m args below meth c Q D aC b A nL nc0 ns0 (pc, lv, .int y :: .long x :: r, h) (pc + 1, lv, .long (x >>> (y.toInt64 &&& 63)) :: r, h) :=
  fun ad ls H locs cells slots F O _ _ kk => lv_lshr hx hb hd rfl (kk ad ls H locs cells slots (fun _ _ => rfl) F)
theorem po_i2l (hx : p.tables.exec = Jvm.exec) (hb : c.code = cc) {x : Int32} (hd : decode cc pc = .ok (.i2l, 1)) : pm_Go p l e R s m args below meth c Q D aC b A nL nc0 ns0 (pc, lv, .int x :: r, h) (pc + 1, lv, .long x.toInt64 :: r, h) :=
  fun ad ls H locs cells slots F O _ _ kk => lv_i2l hx hb hd rfl (kk ad ls H locs cells slots (fun _ _ => rfl) F)
theorem po_l2i (hx : p.tables.exec = Jvm.exec) (hb : c.code = cc) {x : Int64} (hd : decode cc pc = .ok (.l2i, 1)) : pm_Go p l e R s m args below meth c Q D aC b A nL nc0 ns0 (pc, lv, .long x :: r, h) (pc + 1, lv, .int x.toInt32 :: r, h) :=
  fun ad ls H locs cells slots F O _ _ kk => lv_l2i hx hb hd rfl (kk ad ls H locs cells slots (fun _ _ => rfl) F)
theorem po_lcmp (hx : p.tables.exec = Jvm.exec) (hb : c.code = cc) {x y : Int64} (hd : decode cc pc = .ok (.lcmp, 1)) : pm_Go p l e R s m args below meth c Q D aC b A nL nc0 ns0 (pc, lv, .long y :: .long x :: r, h) (pc + 1, lv, .int (lg_cmp x y) :: r, h) :=
  fun ad ls H locs cells slots F O _ _ kk => W.lcmp hx hb hd (kk ad ls H locs cells slots (fun _ _ => rfl) F)
theorem po_dup (hx : p.tables.exec = Jvm.exec) (hb : c.code = cc) {v : Value} (hv : v.category = 1) (hd : decode cc pc = .ok (.dup, 1)) : pm_Go p l e R s m args below meth c Q D aC b A nL nc0 ns0 (pc, lv, v :: r, h) (pc + 1, lv, v :: v :: r, h) :=
  fun ad ls H locs cells slots F O _ _ kk => lv_dup hx hb hd ((pm_cv_cat b ad v).trans hv) (kk ad ls H locs cells slots (fun _ _ => rfl) F)
theorem po_pop (hx : p.tables.exec = Jvm.exec) (hb : c.code = cc) {v : Value} (hv : v.category = 1) (hd : decode cc pc = .ok (.pop, 1)) : pm_Go p l e R s m args below meth c Q D aC b A nL nc0 ns0 (pc, lv, v :: r, h) (pc + 1, lv, r, h) :=
  fun ad ls H locs cells slots F O _ _ kk => lv_pop hx hb hd ((pm_cv_cat b ad v).trans hv) (kk ad ls H locs cells slots (fun _ _ => rfl) F)
theorem po_dup2 (hx : p.tables.exec = Jvm.exec) (hb : c.code = cc) {v w : Value} (hv : v.category = 1) (hw : w.category = 1) (hd : decode cc pc = .ok (.dup2, 1)) : pm_Go p l e R s m args below meth c Q D aC b A nL nc0 ns0 (pc, lv, v :: w :: r, h) (pc + 1, lv, v :: w :: v :: w :: r, h) :=
  fun ad ls H locs cells slots F O _ _ kk => lv_dup2_11 hx hb hd ((pm_cv_cat b ad v).trans hv) ((pm_cv_cat b ad w).trans hw) (kk ad ls H locs cells slots (fun _ _ => rfl) F)
theorem po_goto (hx : p.tables.exec = Jvm.exec) (hb : c.code = cc) {off : Int} {t : Nat} (ht : pm_br pc off = some t) (hd : decode cc pc = .ok (.goto off, 3)) : pm_Go p l e R s m args below meth c Q D aC b A nL nc0 ns0 (pc, lv, r, h) (t, lv, r, h) :=
  fun ad ls H locs cells slots F O _ _ kk => lv_goto hx hb hd (pm_br_eq ht) (kk ad ls H locs cells slots (fun _ _ => rfl) F)
theorem po_ifnullN (hx : p.tables.exec = Jvm.exec) (hb : c.code = cc) {off : Int} {t : Nat} (ht : pm_br pc off = some t) (hd : decode cc pc = .ok (.ifnull off, 3)) : pm_Go p l e R s m args below meth c Q D aC b A nL nc0 ns0 (pc, lv, .null :: r, h) (t, lv, r, h) :=
  fun ad ls H locs cells slots F O _ _ kk => lv_ifnullN hx hb hd (pm_br_eq ht) (kk ad ls H locs cells slots (fun _ _ => rfl) F)
theorem po_ifnull (hx : p.tables.exec = Jvm.exec) (hb : c.code = cc) {off : Int} {x : Nat} (hd : decode cc pc = .ok (.ifnull off, 3)) : pm_Go p l e R s m args below meth c Q D aC b A nL nc0 ns0 (pc, lv, .ref x :: r, h) (pc + 3, lv, r, h) :=
  fun ad ls H locs cells slots F O _ _ kk => lv_ifnull hx hb hd (kk ad ls H locs cells slots (fun _ _ => rfl) F)
theorem po_ifnonnull (hx : p.tables.exec = Jvm.exec) (hb : c.code = cc) {off : Int} {t x : Nat} (ht : pm_br pc off = some t) (hd : decode cc pc = .ok (.ifnonnull off, 3)) : pm_Go p l e R s m args below meth c Q D aC b A nL nc0 ns0 (pc, lv, .ref x :: r, h) (t, lv, r, h) :=
  fun ad ls H locs cells slots F O _ _ kk => lv_ifnonnull hx hb hd (pm_br_eq ht) (kk ad ls H locs cells slots (fun _ _ => rfl) F)
theorem po_ifnonnullN (hx : p.tables.exec = Jvm.exec) (hb : c.code = cc) {off : Int} (hd : decode cc pc = .ok (.ifnonnull off, 3)) : pm_Go p l e R s m args below meth c Q D aC b A nL nc0 ns0 (pc, lv, .null :: r, h) (pc + 3, lv, r, h) :=
  fun ad ls H locs cells slots F O _ _ kk => lv_ifnonnullN hx hb hd (kk ad ls H locs cells slots (fun _ _ => rfl) F)
theorem po_ifCond (hx : p.tables.exec = Jvm.exec) (hb : c.code = cc) {q : ClassFile.Cond} {off : Int} {t : Nat} {x : Int32} (hd : decode cc pc = .ok (.ifCond q off, 3)) (ht : pm_br pc off = some t) : pm_Go p l e R s m args below meth c Q D aC b A nL nc0 ns0 (pc, lv, .int x :: r, h) (if pm_cmp q x 0 = true then t else pc + 3, lv, r, h) := by
  intro ad ls H locs cells slots F O _ _ kk
  have k2 := kk ad ls H locs cells slots (fun _ _ => rfl) F
  cases q
  · exact lv_if_eq hx hb hd (pm_br_eq ht) (fun hc => by
      have e1 : pm_cmp .eq x 0 = true := decide_eq_true hc
      simp only [e1, if_true] at k2; exact k2) (fun hc => by
      have e1 : ¬ pm_cmp .eq x 0 = true := fun z => hc (of_decide_eq_true z)
      simp only [e1, if_false] at k2; exact k2)
  · exact lv_if_ne hx hb hd (pm_br_eq ht) (fun hc => by
      have e1 : pm_cmp .ne x 0 = true := decide_eq_true hc
      simp only [e1, if_true] at k2; exact k2) (fun hc => by
      have e1 : ¬ pm_cmp .ne x 0 = true := fun z => (of_decide_eq_true z) hc
      simp only [e1, if_false] at k2; exact k2)
  · exact lv_if_lt hx hb hd (pm_br_eq ht) (fun hc => by
      have e1 : pm_cmp .lt x 0 = true := decide_eq_true hc
      simp only [e1, if_true] at k2; exact k2) (fun hc => by
      have e1 : ¬ pm_cmp .lt x 0 = true := fun z => hc (of_decide_eq_true z)
      simp only [e1, if_false] at k2; exact k2)
  · exact lv_if_ge hx hb hd (pm_br_eq ht) (fun hc => by
      have e1 : pm_cmp .ge x 0 = true := decide_eq_true hc
      simp only [e1, if_true] at k2; exact k2) (fun hc => by
      have e1 : ¬ pm_cmp .ge x 0 = true := fun z => hc (of_decide_eq_true z)
      simp only [e1, if_false] at k2; exact k2)
  · exact lv_if_gt hx hb hd (pm_br_eq ht) (fun hc => by
      have e1 : pm_cmp .gt x 0 = true := decide_eq_true hc
      simp only [e1, if_true] at k2; exact k2) (fun hc => by
      have e1 : ¬ pm_cmp .gt x 0 = true := fun z => hc (of_decide_eq_true z)
      simp only [e1, if_false] at k2; exact k2)
  · exact lv_if_le hx hb hd (pm_br_eq ht) (fun hc => by
      have e1 : pm_cmp .le x 0 = true := decide_eq_true hc
      simp only [e1, if_true] at k2; exact k2) (fun hc => by
      have e1 : ¬ pm_cmp .le x 0 = true := fun z => hc (of_decide_eq_true z)
      simp only [e1, if_false] at k2; exact k2)
theorem po_if_icmp (hx : p.tables.exec = Jvm.exec) (hb : c.code = cc) {q : ClassFile.Cond} {off : Int} {t : Nat} {x y : Int32} (hd : decode cc pc = .ok (.if_icmp q off, 3)) (ht : pm_br pc off = some t) : pm_Go p l e R s m args below meth c Q D aC b A nL nc0 ns0 (pc, lv, .int y :: .int x :: r, h) (if pm_cmp q x y = true then t else pc + 3, lv, r, h) := by
  intro ad ls H locs cells slots F O _ _ kk
  have k2 := kk ad ls H locs cells slots (fun _ _ => rfl) F
  cases q
  · exact lv_icmp_eq hx hb hd (pm_br_eq ht) (fun hc => by
      have e1 : pm_cmp .eq x y = true := decide_eq_true hc
      simp only [e1, if_true] at k2; exact k2) (fun hc => by
      have e1 : ¬ pm_cmp .eq x y = true := fun z => hc (of_decide_eq_true z)
      simp only [e1, if_false] at k2; exact k2)
  · exact lv_icmp_ne hx hb hd (pm_br_eq ht) (fun hc => by
      have e1 : pm_cmp .ne x y = true := decide_eq_true hc
      simp only [e1, if_true] at k2; exact k2) (fun hc => by
      have e1 : ¬ pm_cmp .ne x y = true := fun z => (of_decide_eq_true z) hc
      simp only [e1, if_false] at k2; exact k2)
  · exact lv_icmp_lt hx hb hd (pm_br_eq ht) (fun hc => by
      have e1 : pm_cmp .lt x y = true := decide_eq_true hc
      simp only [e1, if_true] at k2; exact k2) (fun hc => by
      have e1 : ¬ pm_cmp .lt x y = true := fun z => hc (of_decide_eq_true z)
      simp only [e1, if_false] at k2; exact k2)
  · exact lv_icmp_ge hx hb hd (pm_br_eq ht) (fun hc => by
      have e1 : pm_cmp .ge x y = true := decide_eq_true hc
      simp only [e1, if_true] at k2; exact k2) (fun hc => by
      have e1 : ¬ pm_cmp .ge x y = true := fun z => hc (of_decide_eq_true z)
      simp only [e1, if_false] at k2; exact k2)
  · exact lv_icmp_gt hx hb hd (pm_br_eq ht) (fun hc => by
      have e1 : pm_cmp .gt x y = true := decide_eq_true hc
      simp only [e1, if_true] at k2; exact k2) (fun hc => by
      have e1 : ¬ pm_cmp .gt x y = true := fun z => hc (of_decide_eq_true z)
      simp only [e1, if_false] at k2; exact k2)
  · exact lv_icmp_le hx hb hd (pm_br_eq ht) (fun hc => by
      have e1 : pm_cmp .le x y = true := decide_eq_true hc
      simp only [e1, if_true] at k2; exact k2) (fun hc => by
      have e1 : ¬ pm_cmp .le x y = true := fun z => hc (of_decide_eq_true z)
      simp only [e1, if_false] at k2; exact k2)
theorem po_tableOut (hx : p.tables.exec = Jvm.exec) (hb : c.code = cc) {d lo hi : Int} {offs : Array Int} {len t : Nat} {x : Int32} (hd : decode cc pc = .ok (.tableswitch d lo hi offs, len)) (hr : x.toInt < lo ∨ hi < x.toInt) (ht : pm_br pc d = some t) : pm_Go p l e R s m args below meth c Q D aC b A nL nc0 ns0 (pc, lv, .int x :: r, h) (t, lv, r, h) :=
  fun ad ls H locs cells slots F O _ _ kk => lv_tableOut hx hb hd hr (pm_br_eq ht) (kk ad ls H locs cells slots (fun _ _ => rfl) F)
theorem po_tableIn (hx : p.tables.exec = Jvm.exec) (hb : c.code = cc) {d lo hi off : Int} {offs : Array Int} {len t : Nat} {x : Int32} (hd : decode cc pc = .ok (.tableswitch d lo hi offs, len)) (hr : ¬ (x.toInt < lo ∨ hi < x.toInt)) (ho : offs[(x.toInt - lo).toNat]? = some off) (ht : pm_br pc off = some t) : pm_Go p l e R s m args below meth c Q D aC b A nL nc0 ns0 (pc, lv, .int x :: r, h) (t, lv, r, h) :=
  fun ad ls H locs cells slots F O _ _ kk => lv_tableIn hx hb hd (fun z => hr (Or.inl z)) (fun z => hr (Or.inr z)) ho (pm_br_eq ht) (kk ad ls H locs cells slots (fun _ _ => rfl) F)
end PO
end
section
/-! INSTRUCTIONS OVER THE HEAP -/
theorem pm_df_cv (b : Nat) (ad : Nat → Nat) (ci : Nat) : (pm_df ci).map (pm_cv b ad) = pm_df ci := by
  unfold pm_df
  split <;> rfl
theorem pm_upA {b : Nat} {aC : Nat → ClassId} {ad : Nat → Nat} {cs : List pm_C} (q : Nat) (ho : ∀ c ∈ cs, ∀ v ∈ pm_vals c, pm_okv cs.length v) (c : pm_C) (hc : pm_cc b aC (fun k => if k = cs.length then q else ad k) c = pm_cc b aC ad c) :
    pm_ch b aC (fun k => if k = cs.length then q else ad k) (cs ++ [c]) = pm_ch b aC ad cs ++ [(q, pm_cc b aC ad c)] := by
  rw [pm_ch_app, pm_ch_ad (n := cs.length) (Nat.le_refl _) (fun k hk => if_neg (Nat.ne_of_lt hk)) ho, hc]
  simp
theorem pm_fit_n {b : Nat} {ad : Nat → Nat} {t : FieldType} {v : Value} (h : pm_fit t v = true) : narrow t (pm_cv b ad v) = pm_cv b ad v ∧ fits t (pm_cv b ad v) = true := by
  unfold pm_fit at h
  split at h
  · exact ⟨rfl, rfl⟩
  · simp only [Bool.or_eq_true, beq_iff_eq] at h
    rcases h with rfl | rfl
    · exact ⟨rfl, rfl⟩
    · exact ⟨rfl, rfl⟩
  · exact ⟨rfl, rfl⟩
  · exact ⟨rfl, rfl⟩
  · exact ⟨rfl, rfl⟩
  · exact ⟨rfl, rfl⟩
  · exact ⟨rfl, rfl⟩
  · cases h
theorem pm_sm {b : Nat} {ad : Nat → Nat} {fs : List Value} {k : Nat} {v : Value} : (fs.set k v).map (pm_cv b ad) = (fs.map (pm_cv b ad)).set k (pm_cv b ad v) := by
  rw [List.map_set]
section PH
variable {p : Program} {l : Launch} {e : Env} {R : Room} {s : State} {m : MethodId} {args : Array Value} {below : List Frame} {meth : Method} {c : Code} {Q : State → Prop}
variable {D : va_G} {aC : Nat → ClassId} {b : Nat} {sc : pm_Sc} {A : Nat → Prop} {nL nc0 ns0 : Nat} {cc : ByteArray} {own : String} {pc : Nat} {lv : pm_L} {r : List Value} {h : pm_H}
theorem po_getfield (hx : p.tables.exec = Jvm.exec) (hb : c.code = cc) {C : String} {T : u_T} {N ci k i : Nat} {fs : List Value} {v : Value} {q : Nat} (hus : ∀ w ∈ u_ws C T N, w.before args s = true) (hown : s.vm.findClass own = some m.cls) (hK : va_K D vwCl (pm_tys aC) s) (hc : vwCl[ci]? = some (C, T, N)) (hk : k < N) (hq : h.1[q]? = some (.inr (ci, fs))) (hlink : (Cond.fieldLink own i (T k).1 (T k).2.1 (T k).2.2.1).before args s = true) (hv : fs[k]? = some v) (hd : decode cc pc = .ok (.getfield i, 3)) : pm_Go p l e R s m args below meth c Q D aC b A nL nc0 ns0 (pc, lv, .ref q :: r, h) (pc + 3, lv, v :: r, h) := by
  intro ad ls H locs cells slots F O _ _ kk
  refine va_get hx hb hus (fun _ z => z) hown hK F.1 q (pm_ch_get hq) hc k hk hlink (fun _ z => z) (v := pm_cv b ad v) ?_ hd (kk ad ls H locs cells slots (fun _ _ => rfl) F)
  rw [List.getElem?_map, hv]
  rfl
theorem po_getfieldN (hx : p.tables.exec = Jvm.exec) (hb : c.code = cc) {C : String} {T : u_T} {N ci k i : Nat} {fs : List Value} {v : Value} {q : Nat} (hus : ∀ w ∈ u_ws C T N, w.before args s = true) (hown : s.vm.findClass own = some m.cls) (hK : va_K D vwCl (pm_tys aC) s) (hc : vwCl[ci]? = some (C, T, N)) (hk : k < N) (hq : h.1[q]? = some (.inr (ci, fs))) {host : String} (hlink : (Cond.fieldLinkNest own i (T k).1 (T k).2.1 (T k).2.2.1 host).before args s = true) (hv : fs[k]? = some v) (hd : decode cc pc = .ok (.getfield i, 3)) : pm_Go p l e R s m args below meth c Q D aC b A nL nc0 ns0 (pc, lv, .ref q :: r, h) (pc + 3, lv, v :: r, h) := by
  intro ad ls H locs cells slots F O _ _ kk
  refine va_getN hx hb hus (fun _ z => z) hown hK F.1 q (pm_ch_get hq) hc k hk hlink (fun _ z => z) (v := pm_cv b ad v) ?_ hd (kk ad ls H locs cells slots (fun _ _ => rfl) F)
  rw [List.getElem?_map, hv]
  rfl
theorem po_putfield (hx : p.tables.exec = Jvm.exec) (hb : c.code = cc) {C : String} {T : u_T} {N ci k i : Nat} {fs : List Value} {v : Value} {q : Nat} (hus : ∀ w ∈ u_ws C T N, w.before args s = true) (hown : s.vm.findClass own = some m.cls) (hK : va_K D vwCl (pm_tys aC) s) (hc : vwCl[ci]? = some (C, T, N)) (hk : k < N) (hq : h.1[q]? = some (.inr (ci, fs))) (ty0 : Nat → FieldType) (hty : ∀ k, k < N → parseFieldDescriptor (T k).2.2.1 = some (ty0 k)) (hnm : ∀ a, a < N → ∀ b, b < N → a ≠ b → (T a).2.1 ≠ (T b).2.1) (hfit : pm_fit (ty0 k) v = true) (hl : k < fs.length) (hlink : (Cond.fieldLink own i (T k).1 (T k).2.1 (T k).2.2.1).before args s = true) (hfin : (T k).2.2.2 = false) (hd : decode cc pc = .ok (.putfield i, 3)) : pm_Go p l e R s m args below meth c Q D aC b A nL nc0 ns0 (pc, lv, v :: .ref q :: r, h) (pc + 3, lv, r, (h.1.set q (.inr (ci, fs.set k v)), h.2)) := by
  intro ad ls H locs cells slots F O _ _ kk
  refine va_put hx hb hus (fun _ z => z) ty0 hty hnm hown hK F.1 F.2.1 F.2.2.1 q (pm_ch_get hq) hc k hk hlink (fun _ z => z) hfin (hty k hk) (pm_fit_n hfit).1 (pm_fit_n hfit).2 (by rw [List.length_map]; exact hl) hd (fun H1 locs1 hP hD hS => ?_)
  have e : (pm_ch b aC ad h.1).set q (ad q, .inr (ci, (fs.map (pm_cv b ad)).set k (pm_cv b ad v))) = pm_ch b aC ad (h.1.set q (.inr (ci, fs.set k v))) := by
    rw [pm_ch_set, ← pm_sm]
    rfl
  rw [e] at hP hD
  exact kk ad ls H1 locs1 cells slots (fun _ _ => rfl) ⟨hP, hD, hS, F.2.2.2.1, F.2.2.2.2⟩
theorem po_putfieldN (hx : p.tables.exec = Jvm.exec) (hb : c.code = cc) {C : String} {T : u_T} {N ci k i : Nat} {fs : List Value} {v : Value} {q : Nat} (hus : ∀ w ∈ u_ws C T N, w.before args s = true) (hown : s.vm.findClass own = some m.cls) (hK : va_K D vwCl (pm_tys aC) s) (hc : vwCl[ci]? = some (C, T, N)) (hk : k < N) (hq : h.1[q]? = some (.inr (ci, fs))) (ty0 : Nat → FieldType) (hty : ∀ k, k < N → parseFieldDescriptor (T k).2.2.1 = some (ty0 k)) (hnm : ∀ a, a < N → ∀ b, b < N → a ≠ b → (T a).2.1 ≠ (T b).2.1) (hfit : pm_fit (ty0 k) v = true) (hl : k < fs.length) {host : String} (hlink : (Cond.fieldLinkNest own i (T k).1 (T k).2.1 (T k).2.2.1 host).before args s = true) (hfin : (T k).2.2.2 = false) (hd : decode cc pc = .ok (.putfield i, 3)) : pm_Go p l e R s m args below meth c Q D aC b A nL nc0 ns0 (pc, lv, v :: .ref q :: r, h) (pc + 3, lv, r, (h.1.set q (.inr (ci, fs.set k v)), h.2)) := by
  intro ad ls H locs cells slots F O _ _ kk
  refine va_putN hx hb hus (fun _ z => z) ty0 hty hnm hown hK F.1 F.2.1 F.2.2.1 q (pm_ch_get hq) hc k hk hlink (fun _ z => z) hfin (hty k hk) (pm_fit_n hfit).1 (pm_fit_n hfit).2 (by rw [List.length_map]; exact hl) hd (fun H1 locs1 hP hD hS => ?_)
  have e : (pm_ch b aC ad h.1).set q (ad q, .inr (ci, (fs.map (pm_cv b ad)).set k (pm_cv b ad v))) = pm_ch b aC ad (h.1.set q (.inr (ci, fs.set k v))) := by
    rw [pm_ch_set, ← pm_sm]
    rfl
  rw [e] at hP hD
  exact kk ad ls H1 locs1 cells slots (fun _ _ => rfl) ⟨hP, hD, hS, F.2.2.2.1, F.2.2.2.2⟩
theorem po_putfieldF (hx : p.tables.exec = Jvm.exec) (hb : c.code = cc) {C : String} {T : u_T} {N ci k i : Nat} {fs : List Value} {v : Value} {q : Nat} (hus : ∀ w ∈ u_ws C T N, w.before args s = true) (hown : s.vm.findClass own = some m.cls) (hK : va_K D vwCl (pm_tys aC) s) (hc : vwCl[ci]? = some (C, T, N)) (hk : k < N) (hq : h.1[q]? = some (.inr (ci, fs))) (ty0 : Nat → FieldType) (hty : ∀ k, k < N → parseFieldDescriptor (T k).2.2.1 = some (ty0 k)) (hnm : ∀ a, a < N → ∀ b, b < N → a ≠ b → (T a).2.1 ≠ (T b).2.1) (hfit : pm_fit (ty0 k) v = true) (hl : k < fs.length) (hlink : (Cond.fieldLink own i (T k).1 (T k).2.1 (T k).2.2.1).before args s = true) (hfin : (T k).2.2.2 = true) (hin2 : meth.name = "<init>") (hdecl : (T k).1 = own) (hd : decode cc pc = .ok (.putfield i, 3)) : pm_Go p l e R s m args below meth c Q D aC b A nL nc0 ns0 (pc, lv, v :: .ref q :: r, h) (pc + 3, lv, r, (h.1.set q (.inr (ci, fs.set k v)), h.2)) := by
  intro ad ls H locs cells slots F O _ _ kk
  refine va_putF hx hb hus (fun _ z => z) ty0 hty hnm hown hK F.1 F.2.1 F.2.2.1 q (pm_ch_get hq) hc k hk hlink (fun _ z => z) hfin hin2 hdecl (hty k hk) (pm_fit_n hfit).1 (pm_fit_n hfit).2 (by rw [List.length_map]; exact hl) hd (fun H1 locs1 hP hD hS => ?_)
  have e : (pm_ch b aC ad h.1).set q (ad q, .inr (ci, (fs.map (pm_cv b ad)).set k (pm_cv b ad v))) = pm_ch b aC ad (h.1.set q (.inr (ci, fs.set k v))) := by
    rw [pm_ch_set, ← pm_sm]
    rfl
  rw [e] at hP hD
  exact kk ad ls H1 locs1 cells slots (fun _ _ => rfl) ⟨hP, hD, hS, F.2.2.2.1, F.2.2.2.2⟩
theorem po_iaload (hx : p.tables.exec = Jvm.exec) (hb : c.code = cc) (hK : va_K D vwCl (pm_tys aC) s) {q : Nat} {vs : List Value} {i : Int32} {x : Int32} (hq : h.1[q]? = some (.inl (0, vs))) (hi : ¬ i < 0) (hv : vs[i.toNatClampNeg]? = some (.int x)) (hd : decode cc pc = .ok (.iaload, 1)) : pm_Go p l e R s m args below meth c Q D aC b A nL nc0 ns0 (pc, lv, .int i :: .ref q :: r, h) (pc + 1, lv, .int x :: r, h) := by
  intro ad ls H locs cells slots F O _ _ kk
  have hl : i.toNatClampNeg < vs.length := (List.getElem?_eq_some_iff.mp hv).1
  have e : pm_gi (vs.getD i.toNatClampNeg .null) = x := by rw [List.getD_eq_getElem?_getD, hv]; rfl
  refine va_iald hx hb hK F.1 q 0 (pm_ch_get hq) rfl (fun z => z.elim hi (fun z => absurd hl (Nat.not_lt.mpr z))) hd ?_
  dsimp only
  rw [e]
  exact kk ad ls H locs cells slots (fun _ _ => rfl) F
theorem po_laload (hx : p.tables.exec = Jvm.exec) (hb : c.code = cc) (hK : va_K D vwCl (pm_tys aC) s) {q : Nat} {vs : List Value} {i : Int32} {x : Int64} (hq : h.1[q]? = some (.inl (1, vs))) (hi : ¬ i < 0) (hv : vs[i.toNatClampNeg]? = some (.long x)) (hd : decode cc pc = .ok (.laload, 1)) : pm_Go p l e R s m args below meth c Q D aC b A nL nc0 ns0 (pc, lv, .int i :: .ref q :: r, h) (pc + 1, lv, .long x :: r, h) := by
  intro ad ls H locs cells slots F O _ _ kk
  have hl : i.toNatClampNeg < vs.length := (List.getElem?_eq_some_iff.mp hv).1
  have e : pm_gl (vs.getD i.toNatClampNeg .null) = x := by rw [List.getD_eq_getElem?_getD, hv]; rfl
  refine va_lald hx hb hK F.1 q 1 (pm_ch_get hq) rfl (fun z => z.elim hi (fun z => absurd hl (Nat.not_lt.mpr z))) hd ?_
  dsimp only
  rw [e]
  exact kk ad ls H locs cells slots (fun _ _ => rfl) F
theorem po_baload (hx : p.tables.exec = Jvm.exec) (hb : c.code = cc) (hK : va_K D vwCl (pm_tys aC) s) {q : Nat} {vs : List Value} {i : Int32} {x : Int32} (hq : h.1[q]? = some (.inl (2, vs))) (hi : ¬ i < 0) (hv : vs[i.toNatClampNeg]? = some (.int x)) (hd : decode cc pc = .ok (.baload, 1)) : pm_Go p l e R s m args below meth c Q D aC b A nL nc0 ns0 (pc, lv, .int i :: .ref q :: r, h) (pc + 1, lv, .int x :: r, h) := by
  intro ad ls H locs cells slots F O _ _ kk
  have hl : i.toNatClampNeg < vs.length := (List.getElem?_eq_some_iff.mp hv).1
  have e : pm_gi (vs.getD i.toNatClampNeg .null) = x := by rw [List.getD_eq_getElem?_getD, hv]; rfl
  refine va_zald hx hb hK F.1 q 2 (pm_ch_get hq) rfl (fun z => z.elim hi (fun z => absurd hl (Nat.not_lt.mpr z))) hd ?_
  dsimp only
  rw [e]
  exact kk ad ls H locs cells slots (fun _ _ => rfl) F
theorem pm_cc_arr {b : Nat} {aC : Nat → ClassId} {ad : Nat → Nat} {t : Nat} {vs : List Value} (h3 : 3 ≤ t) : pm_cc b aC ad (.inl (t, vs)) = .inl (aC t, vs.length, .inr (.inr (.inr (.inr (fun j => pm_gr ad (vs.getD j .null)))))) := by
  match t, h3 with
  | t + 3, _ => rfl
theorem po_aaload (hx : p.tables.exec = Jvm.exec) (hb : c.code = cc) (hK : va_K D vwCl (pm_tys aC) s) {q t : Nat} {C : String} {vs : List Value} {i : Int32} {x : Nat} (hq : h.1[q]? = some (.inl (t, vs))) (ht : (pm_tys aC)[t]? = some (aC t, .object C)) (h3 : 3 ≤ t) (hi : ¬ i < 0) (hv : vs[i.toNatClampNeg]? = some (.ref x)) (hd : decode cc pc = .ok (.aaload, 1)) : pm_Go p l e R s m args below meth c Q D aC b A nL nc0 ns0 (pc, lv, .int i :: .ref q :: r, h) (pc + 1, lv, .ref x :: r, h) := by
  intro ad ls H locs cells slots F O _ _ kk
  have hl : i.toNatClampNeg < vs.length := (List.getElem?_eq_some_iff.mp hv).1
  have e : pm_gr ad (vs.getD i.toNatClampNeg .null) = some (ad x) := by rw [List.getD_eq_getElem?_getD, hv]; rfl
  refine va_aldq hx hb hK F.1 q t ((pm_ch_get hq).trans (by rw [pm_cc_arr h3])) ht (fun z => z.elim hi (fun z => absurd hl (Nat.not_lt.mpr z))) hd ?_
  dsimp only
  rw [e]
  exact kk ad ls H locs cells slots (fun _ _ => rfl) F
theorem po_aaloadN (hx : p.tables.exec = Jvm.exec) (hb : c.code = cc) (hK : va_K D vwCl (pm_tys aC) s) {q t : Nat} {C : String} {vs : List Value} {i : Int32} {x : Nat} (hq : h.1[q]? = some (.inl (t, vs))) (ht : (pm_tys aC)[t]? = some (aC t, .object C)) (h3 : 3 ≤ t) (hi : ¬ i < 0) (hv : vs[i.toNatClampNeg]? = some (.null)) (hd : decode cc pc = .ok (.aaload, 1)) : pm_Go p l e R s m args below meth c Q D aC b A nL nc0 ns0 (pc, lv, .int i :: .ref q :: r, h) (pc + 1, lv, .null :: r, h) := by
  intro ad ls H locs cells slots F O _ _ kk
  have hl : i.toNatClampNeg < vs.length := (List.getElem?_eq_some_iff.mp hv).1
  have e : pm_gr ad (vs.getD i.toNatClampNeg .null) = none := by rw [List.getD_eq_getElem?_getD, hv]; rfl
  refine va_aldq hx hb hK F.1 q t ((pm_ch_get hq).trans (by rw [pm_cc_arr h3])) ht (fun z => z.elim hi (fun z => absurd hl (Nat.not_lt.mpr z))) hd ?_
  dsimp only
  rw [e]
  exact kk ad ls H locs cells slots (fun _ _ => rfl) F
theorem po_iastore (hx : p.tables.exec = Jvm.exec) (hb : c.code = cc) (hK : va_K D vwCl (pm_tys aC) s) {q : Nat} {vs : List Value} {i : Int32} {x : Int32} (hq : h.1[q]? = some (.inl (0, vs))) (hi : ¬ i < 0) (hl : i.toNatClampNeg < vs.length) (hd : decode cc pc = .ok (.iastore, 1)) : pm_Go p l e R s m args below meth c Q D aC b A nL nc0 ns0 (pc, lv, .int x :: .int i :: .ref q :: r, h) (pc + 1, lv, r, (h.1.set q (.inl (0, vs.set i.toNatClampNeg (.int x))), h.2)) := by
  intro ad ls H locs cells slots F O _ _ kk
  refine va_iast hx hb hK F.1 F.2.1 F.2.2.1 q 0 (pm_ch_get hq) rfl (fun z => z.elim hi (fun z => absurd hl (Nat.not_lt.mpr z))) hd (fun H1 locs1 hP hD hS => ?_)
  have e : (pm_ch b aC ad h.1).set q (ad q, .inl (aC 0, vs.length, .inl (upd (fun j => pm_gi (vs.getD j .null)) i.toNatClampNeg x))) = pm_ch b aC ad (h.1.set q (.inl (0, vs.set i.toNatClampNeg (.int x)))) := by
    rw [pm_ch_set, ← pm_gi_set vs hl x]
    congr 2
    show (Sum.inl (_, _, _) : va_E) = Sum.inl (_, (vs.set _ _).length, _)
    rw [List.length_set]
    rfl
  exact kk ad ls H1 locs1 cells slots (fun _ _ => rfl) ⟨e ▸ hP, e ▸ hD, hS, F.2.2.2.1, F.2.2.2.2⟩
theorem po_lastore (hx : p.tables.exec = Jvm.exec) (hb : c.code = cc) (hK : va_K D vwCl (pm_tys aC) s) {q : Nat} {vs : List Value} {i : Int32} {x : Int64} (hq : h.1[q]? = some (.inl (1, vs))) (hi : ¬ i < 0) (hl : i.toNatClampNeg < vs.length) (hd : decode cc pc = .ok (.lastore, 1)) : pm_Go p l e R s m args below meth c Q D aC b A nL nc0 ns0 (pc, lv, .long x :: .int i :: .ref q :: r, h) (pc + 1, lv, r, (h.1.set q (.inl (1, vs.set i.toNatClampNeg (.long x))), h.2)) := by
  intro ad ls H locs cells slots F O _ _ kk
  refine va_last hx hb hK F.1 F.2.1 F.2.2.1 q 1 (pm_ch_get hq) rfl (fun z => z.elim hi (fun z => absurd hl (Nat.not_lt.mpr z))) hd (fun H1 locs1 hP hD hS => ?_)
  have e : (pm_ch b aC ad h.1).set q (ad q, .inl (aC 1, vs.length, .inr (.inl (vp_updL (fun j => pm_gl (vs.getD j .null)) i.toNatClampNeg x)))) = pm_ch b aC ad (h.1.set q (.inl (1, vs.set i.toNatClampNeg (.long x)))) := by
    rw [pm_ch_set, ← pm_gl_set vs hl x]
    congr 2
    show (Sum.inl (_, _, _) : va_E) = Sum.inl (_, (vs.set _ _).length, _)
    rw [List.length_set]
    rfl
  exact kk ad ls H1 locs1 cells slots (fun _ _ => rfl) ⟨e ▸ hP, e ▸ hD, hS, F.2.2.2.1, F.2.2.2.2⟩
theorem po_bastore (hx : p.tables.exec = Jvm.exec) (hb : c.code = cc) (hK : va_K D vwCl (pm_tys aC) s) {q : Nat} {vs : List Value} {i : Int32} {x : Int32} (hq : h.1[q]? = some (.inl (2, vs))) (hx01 : x = 0 ∨ x = 1) (hi : ¬ i < 0) (hl : i.toNatClampNeg < vs.length) (hd : decode cc pc = .ok (.bastore, 1)) : pm_Go p l e R s m args below meth c Q D aC b A nL nc0 ns0 (pc, lv, .int x :: .int i :: .ref q :: r, h) (pc + 1, lv, r, (h.1.set q (.inl (2, vs.set i.toNatClampNeg (.int x))), h.2)) := by
  intro ad ls H locs cells slots F O _ _ kk
  have hnar : vp_nar .boolean x = x := by
    rcases hx01 with rfl | rfl <;> rfl
  refine va_zast hx hb hK F.1 F.2.1 F.2.2.1 q 2 (pm_ch_get hq) rfl (fun z => z.elim hi (fun z => absurd hl (Nat.not_lt.mpr z))) hd (fun H1 locs1 hP hD hS => ?_)
  rw [hnar] at hP hD
  have e : (pm_ch b aC ad h.1).set q (ad q, .inl (aC 2, vs.length, .inl (upd (fun j => pm_gi (vs.getD j .null)) i.toNatClampNeg x))) = pm_ch b aC ad (h.1.set q (.inl (2, vs.set i.toNatClampNeg (.int x)))) := by
    rw [pm_ch_set, ← pm_gi_set vs hl x]
    congr 2
    show (Sum.inl (_, _, _) : va_E) = Sum.inl (_, (vs.set _ _).length, _)
    rw [List.length_set]
    rfl
  exact kk ad ls H1 locs1 cells slots (fun _ _ => rfl) ⟨e ▸ hP, e ▸ hD, hS, F.2.2.2.1, F.2.2.2.2⟩
theorem po_aastore (hx : p.tables.exec = Jvm.exec) (hb : c.code = cc) (hK : va_K D vwCl (pm_tys aC) s) {q t : Nat} {C : String} {vs : List Value} {i : Int32} {w ci N : Nat} {T : u_T} {ws : List Value} (hw : h.1[w]? = some (.inr (ci, ws))) (hc : vwCl[ci]? = some (C, T, N)) (hq : h.1[q]? = some (.inl (t, vs))) (ht : (pm_tys aC)[t]? = some (aC t, .object C)) (h3 : 3 ≤ t) (hi : ¬ i < 0) (hl : i.toNatClampNeg < vs.length) (hd : decode cc pc = .ok (.aastore, 1)) : pm_Go p l e R s m args below meth c Q D aC b A nL nc0 ns0 (pc, lv, .ref w :: .int i :: .ref q :: r, h) (pc + 1, lv, r, (h.1.set q (.inl (t, vs.set i.toNatClampNeg (.ref w))), h.2)) := by
  intro ad ls H locs cells slots F O _ _ kk
  refine va_astq hx hb hK F.1 F.2.1 F.2.2.1 q t w ci (r := (C, T, N)) ((pm_ch_get hq).trans (by rw [pm_cc_arr h3])) ht (pm_ch_get hw) hc (fun z => z.elim hi (fun z => absurd hl (Nat.not_lt.mpr z))) hd (fun H1 locs1 hP hD hS => ?_)
  have e : (pm_ch b aC ad h.1).set q (ad q, .inl (aC t, vs.length, .inr (.inr (.inr (.inr (va_up (fun j => pm_gr ad (vs.getD j .null)) i.toNatClampNeg (some (ad w)))))))) = pm_ch b aC ad (h.1.set q (.inl (t, vs.set i.toNatClampNeg (.ref w)))) := by
    rw [pm_ch_set, pm_cc_arr h3, pm_gr_set ad vs hl (.ref w), List.length_set]
    rfl
  exact kk ad ls H1 locs1 cells slots (fun _ _ => rfl) ⟨e ▸ hP, e ▸ hD, hS, F.2.2.2.1, F.2.2.2.2⟩
theorem po_aastoreN (hx : p.tables.exec = Jvm.exec) (hb : c.code = cc) (hK : va_K D vwCl (pm_tys aC) s) {q t : Nat} {C : String} {vs : List Value} {i : Int32} (hq : h.1[q]? = some (.inl (t, vs))) (ht : (pm_tys aC)[t]? = some (aC t, .object C)) (h3 : 3 ≤ t) (hi : ¬ i < 0) (hl : i.toNatClampNeg < vs.length) (hd : decode cc pc = .ok (.aastore, 1)) : pm_Go p l e R s m args below meth c Q D aC b A nL nc0 ns0 (pc, lv, .null :: .int i :: .ref q :: r, h) (pc + 1, lv, r, (h.1.set q (.inl (t, vs.set i.toNatClampNeg (.null))), h.2)) := by
  intro ad ls H locs cells slots F O _ _ kk
  refine va_astqN hx hb hK F.1 F.2.1 F.2.2.1 q t ((pm_ch_get hq).trans (by rw [pm_cc_arr h3])) ht (fun z => z.elim hi (fun z => absurd hl (Nat.not_lt.mpr z))) hd (fun H1 locs1 hP hD hS => ?_)
  have e : (pm_ch b aC ad h.1).set q (ad q, .inl (aC t, vs.length, .inr (.inr (.inr (.inr (va_up (fun j => pm_gr ad (vs.getD j .null)) i.toNatClampNeg (none))))))) = pm_ch b aC ad (h.1.set q (.inl (t, vs.set i.toNatClampNeg (.null)))) := by
    rw [pm_ch_set, pm_cc_arr h3, pm_gr_set ad vs hl (.null), List.length_set]
    rfl
  exact kk ad ls H1 locs1 cells slots (fun _ _ => rfl) ⟨e ▸ hP, e ▸ hD, hS, F.2.2.2.1, F.2.2.2.2⟩
theorem po_alen (hx : p.tables.exec = Jvm.exec) (hb : c.code = cc) (hK : va_K D vwCl (pm_tys aC) s) {q t : Nat} {ty : FieldType} {vs : List Value} (hq : h.1[q]? = some (.inl (t, vs))) (ht : (pm_tys aC)[t]? = some (aC t, ty)) (hd : decode cc pc = .ok (.arraylength, 1)) : pm_Go p l e R s m args below meth c Q D aC b A nL nc0 ns0 (pc, lv, .ref q :: r, h) (pc + 1, lv, .int (Int32.ofNat vs.length) :: r, h) := by
  intro ad ls H locs cells slots F O _ _ kk
  exact va_alen hx hb hK F.1 q t (pm_ch_get hq) ht rfl hd (kk ad ls H locs cells slots (fun _ _ => rfl) F)
theorem po_slen (hx : p.tables.exec = Jvm.exec) (hb : c.code = cc) (hX : va_X b sc.1 sc.2 s s.heap) (hbl : b < s.heap.size) (hbA : ¬ A b) {x : Nat} (hd : decode cc pc = .ok (.arraylength, 1)) : pm_Go p l e R s m args below meth c Q D aC b A nL nc0 ns0 (pc, lv, .retAddr x :: r, h) (pc + 1, lv, .int (Int32.ofNat sc.1) :: r, h) :=
  fun ad ls H locs cells slots F O _ _ kk => va_slen hx hb hX hbl hbA F.2.2.1 hd (kk ad ls H locs cells slots (fun _ _ => rfl) F)
theorem po_sld (hx : p.tables.exec = Jvm.exec) (hb : c.code = cc) (hX : va_X b sc.1 sc.2 s s.heap) (hbl : b < s.heap.size) (hbA : ¬ A b) {x : Nat} {i : Int32} (hi : ¬ i < 0) (hl : i.toNatClampNeg < sc.1) (hd : decode cc pc = .ok (.iaload, 1)) : pm_Go p l e R s m args below meth c Q D aC b A nL nc0 ns0 (pc, lv, .int i :: .retAddr x :: r, h) (pc + 1, lv, .int (sc.2 i.toNatClampNeg) :: r, h) :=
  fun ad ls H locs cells slots F O _ _ kk => va_sld hx hb hX hbl hbA F.2.2.1 (fun z => z.elim hi (fun z => absurd hl (Nat.not_lt.mpr z))) hd (kk ad ls H locs cells slots (fun _ _ => rfl) F)
theorem po_new (hx : p.tables.exec = Jvm.exec) (hb : c.code = cc) (hK : va_K D vwCl (pm_tys aC) s) {C : String} {T : u_T} {N ci i : Nat} (hus : ∀ w ∈ u_ws C T N, w.before args s = true) (hown : s.vm.findClass own = some m.cls) (hc : vwCl[ci]? = some (C, T, N)) (ty : Nat → FieldType) (hty : ∀ k, k < N → parseFieldDescriptor (T k).2.2.1 = some (ty k)) (hcl : (Cond.classLink own i C).before args s = true) (hinst : (Cond.instantiable C N).before args s = true) (hini : (Cond.initialized C).before args s = true) (hA : ∀ q, s.heap.size ≤ q → A q) (hfs : ∀ j, j < N → defaultValue (ty j) = vp_V (pm_df ci) j) (hN : (pm_df ci).length = N) (hd : decode cc pc = .ok (.new i, 3)) :
    pm_Go p l e R s m args below meth c Q D aC b A nL nc0 ns0 (pc, lv, r, h) (pc + 3, lv, .ref h.1.length :: r, (h.1 ++ [.inr (ci, pm_df ci)], h.2.1 + 1, h.2.2 + (pm_df ci).length)) := by
  intro ad ls H locs cells slots F O hc1 hs1 kk
  have F : pm_Fc s D aC b A nL nc0 ns0 ad lv h ls H locs cells slots := F
  have O : pm_ok lv (r) h.1 := O
  have hc1 : h.2.1 + 1 ≤ nc0 + R.cells := hc1
  have hs1 : h.2.2 + (pm_df ci).length ≤ ns0 + R.slots := hs1
  have f5 : cells + nc0 = h.2.1 := F.2.2.2.2.1
  have f6 : slots + ns0 = h.2.2 := F.2.2.2.2.2
  refine va_new hx hb hus (fun _ z => z) ty hty hown hcl hinst hini hK F.1 F.2.1 F.2.2.1 hA hc (fs := pm_df ci) hfs (by omega) (by omega) hd (fun q H1 hP hD hS => ?_)
  rw [← hN]
  have e0 : ∀ ad, pm_cc b aC ad (.inr (ci, pm_df ci)) = .inr (ci, pm_df ci) := fun ad => by show (Sum.inr (ci, (pm_df ci).map (pm_cv b ad)) : va_E) = _; rw [pm_df_cv]
  rw [← e0 ad] at hP hD
  have ha : ∀ k, k < h.1.length → (fun k => if k = h.1.length then q else ad k) k = ad k := fun k hk => if_neg (Nat.ne_of_lt hk)
  have e7 := pm_upA (b := b) (aC := aC) (ad := ad) q O.2.2 (.inr (ci, pm_df ci)) (by rw [e0, e0])
  have k2 : W p l e R s m args below meth c H1 locs (cells + 1) (slots + (pm_df ci).length) Q (F0 m (pc + 3) ls (pm_cv b (fun k => if k = h.1.length then q else ad k) (.ref h.1.length) :: r.map (pm_cv b (fun k => if k = h.1.length then q else ad k)))) := kk (fun k => if k = h.1.length then q else ad k) ls H1 locs (cells + 1) (slots + (pm_df ci).length) ha ⟨e7 ▸ hP, e7 ▸ hD, hS, by rw [pm_cl_ad ha O.1]; exact F.2.2.2.1, by show _ = h.2.1 + 1; omega, by show _ = h.2.2 + (pm_df ci).length; omega⟩
  rw [pm_cvs_ad ha (O.2.1)] at k2
  have e2 : pm_cv b (fun k => if k = h.1.length then q else ad k) (.ref h.1.length) = .ref q := by show Value.ref (if _ then _ else _) = _; rw [if_pos rfl]
  rw [e2] at k2
  exact k2
theorem po_newi (hx : p.tables.exec = Jvm.exec) (hb : c.code = cc) (hK : va_K D vwCl (pm_tys aC) s) {n : Int32} (harr : (Cond.arrayClass .int).before args s = true) (hA : ∀ q, s.heap.size ≤ q → A q) (hn : ¬ n < 0) (hl : n.toNatClampNeg ≤ 1000) (hd : decode cc pc = .ok (.newarray .int, 2)) :
    pm_Go p l e R s m args below meth c Q D aC b A nL nc0 ns0 (pc, lv, .int n :: r, h) (pc + 2, lv, .ref h.1.length :: r, (h.1 ++ [.inl (0, List.replicate n.toNatClampNeg (pm_dv 0))], h.2.1 + 1, h.2.2 + n.toNatClampNeg)) := by
  intro ad ls H locs cells slots F O hc1 hs1 kk
  have F : pm_Fc s D aC b A nL nc0 ns0 ad lv h ls H locs cells slots := F
  have O : pm_ok lv (.int n :: r) h.1 := O
  have hc1 : h.2.1 + 1 ≤ nc0 + R.cells := hc1
  have hs1 : h.2.2 + n.toNatClampNeg ≤ ns0 + R.slots := hs1
  have f5 : cells + nc0 = h.2.1 := F.2.2.2.2.1
  have f6 : slots + ns0 = h.2.2 := F.2.2.2.2.2
  refine va_newa hx hb (atype := .int) harr (ty := .int) rfl hK F.1 F.2.1 F.2.2.1 hA (a0 := (n.toNatClampNeg, .inl (fun _ => 0))) (fun _ => rfl) hn rfl (by simp only [componentBytes]; omega) (by omega) (by omega) hd (fun q cA H1 hK' hP hD hS => ?_)
  have ecA : cA = aC 0 := Option.some.inj (((hK'.2 7 (cA, .int) rfl).2).symm.trans (hK.2 0 (aC 0, .int) rfl).2)
  subst ecA
  have e0 : ∀ ad, pm_cc b aC ad (.inl (0, List.replicate n.toNatClampNeg (pm_dv 0))) = .inl (aC 0, n.toNatClampNeg, .inl (fun _ => 0)) := fun ad => by
    show (Sum.inl (aC 0, (List.replicate _ _).length, _) : va_E) = _
    rw [List.length_replicate, ← pm_dv_i n.toNatClampNeg]
    rfl
  rw [← e0 ad] at hP hD
  have ha : ∀ k, k < h.1.length → (fun k => if k = h.1.length then q else ad k) k = ad k := fun k hk => if_neg (Nat.ne_of_lt hk)
  have e7 := pm_upA (b := b) (aC := aC) (ad := ad) q O.2.2 (.inl (0, List.replicate n.toNatClampNeg (pm_dv 0))) (by rw [e0, e0])
  have k2 : W p l e R s m args below meth c H1 locs (cells + 1) (slots + n.toNatClampNeg) Q (F0 m (pc + 2) ls (pm_cv b (fun k => if k = h.1.length then q else ad k) (.ref h.1.length) :: r.map (pm_cv b (fun k => if k = h.1.length then q else ad k)))) := kk (fun k => if k = h.1.length then q else ad k) ls H1 locs (cells + 1) (slots + n.toNatClampNeg) ha ⟨e7 ▸ hP, e7 ▸ hD, hS, by rw [pm_cl_ad ha O.1]; exact F.2.2.2.1, by show _ = h.2.1 + 1; omega, by show _ = h.2.2 + n.toNatClampNeg; omega⟩
  rw [pm_cvs_ad ha (fun v hv => O.2.1 v (List.mem_cons_of_mem _ hv))] at k2
  have e2 : pm_cv b (fun k => if k = h.1.length then q else ad k) (.ref h.1.length) = .ref q := by show Value.ref (if _ then _ else _) = _; rw [if_pos rfl]
  rw [e2] at k2
  exact k2
theorem po_newl (hx : p.tables.exec = Jvm.exec) (hb : c.code = cc) (hK : va_K D vwCl (pm_tys aC) s) {n : Int32} (harr : (Cond.arrayClass .long).before args s = true) (hA : ∀ q, s.heap.size ≤ q → A q) (hn : ¬ n < 0) (hl : n.toNatClampNeg ≤ 1000) (hd : decode cc pc = .ok (.newarray .long, 2)) :
    pm_Go p l e R s m args below meth c Q D aC b A nL nc0 ns0 (pc, lv, .int n :: r, h) (pc + 2, lv, .ref h.1.length :: r, (h.1 ++ [.inl (1, List.replicate n.toNatClampNeg (pm_dv 1))], h.2.1 + 1, h.2.2 + n.toNatClampNeg)) := by
  intro ad ls H locs cells slots F O hc1 hs1 kk
  have F : pm_Fc s D aC b A nL nc0 ns0 ad lv h ls H locs cells slots := F
  have O : pm_ok lv (.int n :: r) h.1 := O
  have hc1 : h.2.1 + 1 ≤ nc0 + R.cells := hc1
  have hs1 : h.2.2 + n.toNatClampNeg ≤ ns0 + R.slots := hs1
  have f5 : cells + nc0 = h.2.1 := F.2.2.2.2.1
  have f6 : slots + ns0 = h.2.2 := F.2.2.2.2.2
  refine va_newa hx hb (atype := .long) harr (ty := .long) rfl hK F.1 F.2.1 F.2.2.1 hA (a0 := (n.toNatClampNeg, .inr (.inl (fun _ => 0)))) (fun _ => rfl) hn rfl (by simp only [componentBytes]; omega) (by omega) (by omega) hd (fun q cA H1 hK' hP hD hS => ?_)
  have ecA : cA = aC 1 := Option.some.inj (((hK'.2 7 (cA, .long) rfl).2).symm.trans (hK.2 1 (aC 1, .long) rfl).2)
  subst ecA
  have e0 : ∀ ad, pm_cc b aC ad (.inl (1, List.replicate n.toNatClampNeg (pm_dv 1))) = .inl (aC 1, n.toNatClampNeg, .inr (.inl (fun _ => 0))) := fun ad => by
    show (Sum.inl (aC 1, (List.replicate _ _).length, _) : va_E) = _
    rw [List.length_replicate, ← pm_dv_l n.toNatClampNeg]
    rfl
  rw [← e0 ad] at hP hD
  have ha : ∀ k, k < h.1.length → (fun k => if k = h.1.length then q else ad k) k = ad k := fun k hk => if_neg (Nat.ne_of_lt hk)
  have e7 := pm_upA (b := b) (aC := aC) (ad := ad) q O.2.2 (.inl (1, List.replicate n.toNatClampNeg (pm_dv 1))) (by rw [e0, e0])
  have k2 : W p l e R s m args below meth c H1 locs (cells + 1) (slots + n.toNatClampNeg) Q (F0 m (pc + 2) ls (pm_cv b (fun k => if k = h.1.length then q else ad k) (.ref h.1.length) :: r.map (pm_cv b (fun k => if k = h.1.length then q else ad k)))) := kk (fun k => if k = h.1.length then q else ad k) ls H1 locs (cells + 1) (slots + n.toNatClampNeg) ha ⟨e7 ▸ hP, e7 ▸ hD, hS, by rw [pm_cl_ad ha O.1]; exact F.2.2.2.1, by show _ = h.2.1 + 1; omega, by show _ = h.2.2 + n.toNatClampNeg; omega⟩
  rw [pm_cvs_ad ha (fun v hv => O.2.1 v (List.mem_cons_of_mem _ hv))] at k2
  have e2 : pm_cv b (fun k => if k = h.1.length then q else ad k) (.ref h.1.length) = .ref q := by show Value.ref (if _ then _ else _) = _; rw [if_pos rfl]
  rw [e2] at k2
  exact k2
theorem po_newz (hx : p.tables.exec = Jvm.exec) (hb : c.code = cc) (hK : va_K D vwCl (pm_tys aC) s) {n : Int32} (harr : (Cond.arrayClass .boolean).before args s = true) (hA : ∀ q, s.heap.size ≤ q → A q) (hn : ¬ n < 0) (hl : n.toNatClampNeg ≤ 1000) (hd : decode cc pc = .ok (.newarray .boolean, 2)) :
    pm_Go p l e R s m args below meth c Q D aC b A nL nc0 ns0 (pc, lv, .int n :: r, h) (pc + 2, lv, .ref h.1.length :: r, (h.1 ++ [.inl (2, List.replicate n.toNatClampNeg (pm_dv 2))], h.2.1 + 1, h.2.2 + n.toNatClampNeg)) := by
  intro ad ls H locs cells slots F O hc1 hs1 kk
  have F : pm_Fc s D aC b A nL nc0 ns0 ad lv h ls H locs cells slots := F
  have O : pm_ok lv (.int n :: r) h.1 := O
  have hc1 : h.2.1 + 1 ≤ nc0 + R.cells := hc1
  have hs1 : h.2.2 + n.toNatClampNeg ≤ ns0 + R.slots := hs1
  have f5 : cells + nc0 = h.2.1 := F.2.2.2.2.1
  have f6 : slots + ns0 = h.2.2 := F.2.2.2.2.2
  refine va_newa hx hb (atype := .boolean) harr (ty := .boolean) rfl hK F.1 F.2.1 F.2.2.1 hA (a0 := (n.toNatClampNeg, .inl (fun _ => 0))) (fun _ => rfl) hn rfl (by simp only [componentBytes]; omega) (by omega) (by omega) hd (fun q cA H1 hK' hP hD hS => ?_)
  have ecA : cA = aC 2 := Option.some.inj (((hK'.2 7 (cA, .boolean) rfl).2).symm.trans (hK.2 2 (aC 2, .boolean) rfl).2)
  subst ecA
  have e0 : ∀ ad, pm_cc b aC ad (.inl (2, List.replicate n.toNatClampNeg (pm_dv 2))) = .inl (aC 2, n.toNatClampNeg, .inl (fun _ => 0)) := fun ad => by
    show (Sum.inl (aC 2, (List.replicate _ _).length, _) : va_E) = _
    rw [List.length_replicate, ← pm_dv_i n.toNatClampNeg]
    rfl
  rw [← e0 ad] at hP hD
  have ha : ∀ k, k < h.1.length → (fun k => if k = h.1.length then q else ad k) k = ad k := fun k hk => if_neg (Nat.ne_of_lt hk)
  have e7 := pm_upA (b := b) (aC := aC) (ad := ad) q O.2.2 (.inl (2, List.replicate n.toNatClampNeg (pm_dv 2))) (by rw [e0, e0])
  have k2 : W p l e R s m args below meth c H1 locs (cells + 1) (slots + n.toNatClampNeg) Q (F0 m (pc + 2) ls (pm_cv b (fun k => if k = h.1.length then q else ad k) (.ref h.1.length) :: r.map (pm_cv b (fun k => if k = h.1.length then q else ad k)))) := kk (fun k => if k = h.1.length then q else ad k) ls H1 locs (cells + 1) (slots + n.toNatClampNeg) ha ⟨e7 ▸ hP, e7 ▸ hD, hS, by rw [pm_cl_ad ha O.1]; exact F.2.2.2.1, by show _ = h.2.1 + 1; omega, by show _ = h.2.2 + n.toNatClampNeg; omega⟩
  rw [pm_cvs_ad ha (fun v hv => O.2.1 v (List.mem_cons_of_mem _ hv))] at k2
  have e2 : pm_cv b (fun k => if k = h.1.length then q else ad k) (.ref h.1.length) = .ref q := by show Value.ref (if _ then _ else _) = _; rw [if_pos rfl]
  rw [e2] at k2
  exact k2
theorem po_newq (hx : p.tables.exec = Jvm.exec) (hb : c.code = cc) (hK : va_K D vwCl (pm_tys aC) s) {n : Int32} {t i : Nat} {C : String} (hown : s.vm.findClass own = some m.cls) (hcl : (Cond.classLink own i C).before args s = true) (hover : va_AO C s) (ht : (pm_tys aC)[t]? = some (aC t, .object C)) (h3 : 3 ≤ t) (hA : ∀ q, s.heap.size ≤ q → A q) (hn : ¬ n < 0) (hl : n.toNatClampNeg ≤ 1000) (hd : decode cc pc = .ok (.anewarray i, 3)) :
    pm_Go p l e R s m args below meth c Q D aC b A nL nc0 ns0 (pc, lv, .int n :: r, h) (pc + 3, lv, .ref h.1.length :: r, (h.1 ++ [.inl (t, List.replicate n.toNatClampNeg .null)], h.2.1 + 1, h.2.2 + n.toNatClampNeg)) := by
  intro ad ls H locs cells slots F O hc1 hs1 kk
  have F : pm_Fc s D aC b A nL nc0 ns0 ad lv h ls H locs cells slots := F
  have O : pm_ok lv (.int n :: r) h.1 := O
  have hc1 : h.2.1 + 1 ≤ nc0 + R.cells := hc1
  have hs1 : h.2.2 + n.toNatClampNeg ≤ ns0 + R.slots := hs1
  have f5 : cells + nc0 = h.2.1 := F.2.2.2.2.1
  have f6 : slots + ns0 = h.2.2 := F.2.2.2.2.2
  refine va_newq hx hb hown hcl hover hK F.1 F.2.1 F.2.2.1 hA hn rfl (by omega) (by omega) (by omega) hd (fun q cA H1 hK' hP hD hS => ?_)
  have ecA : cA = aC t := by
    obtain ⟨_, _, _, _, _, h4⟩ := (hK'.2 7 (cA, .object C) rfl).2
    obtain ⟨_, _, _, _, _, h5⟩ := (hK.2 t (aC t, .object C) ht).2
    exact Option.some.inj (h4.symm.trans h5)
  subst ecA
  have e0 : ∀ ad, pm_cc b aC ad (.inl (t, List.replicate n.toNatClampNeg .null)) = .inl (aC t, n.toNatClampNeg, .inr (.inr (.inr (.inr (fun _ => none))))) := fun ad => by
    rw [pm_cc_arr h3, List.length_replicate, pm_dv_r]
  rw [← e0 ad] at hP hD
  have ha : ∀ k, k < h.1.length → (fun k => if k = h.1.length then q else ad k) k = ad k := fun k hk => if_neg (Nat.ne_of_lt hk)
  have e7 := pm_upA (b := b) (aC := aC) (ad := ad) q O.2.2 (.inl (t, List.replicate n.toNatClampNeg .null)) (by rw [e0, e0])
  have k2 : W p l e R s m args below meth c H1 locs (cells + 1) (slots + n.toNatClampNeg) Q (F0 m (pc + 3) ls (pm_cv b (fun k => if k = h.1.length then q else ad k) (.ref h.1.length) :: r.map (pm_cv b (fun k => if k = h.1.length then q else ad k)))) := kk (fun k => if k = h.1.length then q else ad k) ls H1 locs (cells + 1) (slots + n.toNatClampNeg) ha ⟨e7 ▸ hP, e7 ▸ hD, hS, by rw [pm_cl_ad ha O.1]; exact F.2.2.2.1, by show _ = h.2.1 + 1; omega, by show _ = h.2.2 + n.toNatClampNeg; omega⟩
  rw [pm_cvs_ad ha (fun v hv => O.2.1 v (List.mem_cons_of_mem _ hv))] at k2
  have e2 : pm_cv b (fun k => if k = h.1.length then q else ad k) (.ref h.1.length) = .ref q := by show Value.ref (if _ then _ else _) = _; rw [if_pos rfl]
  rw [e2] at k2
  exact k2
theorem po_objinit (hx : p.tables.exec = Jvm.exec) (hb : c.code = cc) {q i : Nat} (hml : c.maxLocals = nL) (hown : s.vm.findClass own = some m.cls) (h1 : (Cond.methodLink own i Lib.objectInit).before args s = true) (h2 : (Cond.instanceMethod Lib.objectInit).before args s = true) (h3 : (Cond.code Lib.objectInit ⟨#[0xb1]⟩ 1 none).before args s = true) (hf : 1 ≤ R.frames) (hlo : 42 ≤ R.locals) (hsu : pm_sum r ≤ 8) (hd : decode cc pc = .ok (.invokespecial i, 3)) : pm_Go p l e R s m args below meth c Q D aC b A nL nc0 ns0 (pc, lv, .ref q :: r, h) (pc + 3, lv, r, h) := by
  intro ad ls H locs cells slots F O _ _ kk
  refine W.objInit hx hb hown h1 h2 h3 rfl (by rw [hml]; exact F.2.2.2.1.1) rfl hd hf ?_ (kk ad ls H locs cells slots (fun _ _ => rfl) F)
  have := pm_sum_cv b ad r
  unfold pm_sum at this hsu
  show 2 * 0 + _ + 12 ≤ _
  omega
theorem po_mmax (hx : p.tables.exec = Jvm.exec) (hb : c.code = cc) {x y : Int32} {i : Nat} (hml : c.maxLocals = nL) (hown : s.vm.findClass own = some m.cls) (h1 : (Cond.methodLink own i Lib.Math.max.name).before args s = true) (h2 : (Cond.static Lib.Math.max.name).before args s = true) (h3 : (Cond.initialized "java/lang/Math").before args s = true) (h4 : (Cond.code Lib.Math.max.name Lib.Math.max.code 2 (some .int)).before args s = true) (hf : 1 ≤ R.frames) (hlo : 42 ≤ R.locals) (hsu : pm_sum r ≤ 8) (hd : decode cc pc = .ok (.invokestatic i, 3)) : pm_Go p l e R s m args below meth c Q D aC b A nL nc0 ns0 (pc, lv, .int y :: .int x :: r, h) (pc + 3, lv, .int (if x < y then y else x) :: r, h) := by
  intro ad ls H locs cells slots F O hc1 hs1 kk
  refine va_mmax hx hb (by rw [hml]; exact F.2.2.2.1.1.symm) hown h1 h2 h3 h4 hf ?_ (by have f5 : cells + nc0 = h.2.1 := F.2.2.2.2.1; have hc1 : h.2.1 ≤ nc0 + R.cells := hc1; omega) (by have f6 : slots + ns0 = h.2.2 := F.2.2.2.2.2; have hs1 : h.2.2 ≤ ns0 + R.slots := hs1; omega) hd (kk ad ls H locs cells slots (fun _ _ => rfl) F)
  have := pm_sum_cv b ad r
  unfold pm_sum at this hsu
  omega
theorem po_copy (hx : p.tables.exec = Jvm.exec) (hb : c.code = cc) (hK : va_K D vwCl (pm_tys aC) s) {sp dp n : Int32} {i q w : Nat} {vs ws : List Value} (hml : c.maxLocals = nL) (hown : s.vm.findClass own = some m.cls) (h1 : (Cond.methodLink own i arraycopyName).before args s = true) (h2 : (Cond.native arraycopyName).before args s = true) (h3 : (Cond.static arraycopyName).before args s = true) (h4 : (Cond.initialized "java/lang/System").before args s = true) (hq : h.1[q]? = some (.inl (0, vs))) (hw : h.1[w]? = some (.inl (0, ws))) (hsp : ¬ sp < 0) (hdp : ¬ dp < 0) (hn : ¬ n < 0) (ha : sp.toNatClampNeg + n.toNatClampNeg ≤ vs.length) (hb2 : dp.toNatClampNeg + n.toNatClampNeg ≤ ws.length) (hf : 1 ≤ R.frames) (hlo : 42 ≤ R.locals) (hsu : pm_sum r ≤ 8) (hd : decode cc pc = .ok (.invokestatic i, 3)) :
    pm_Go p l e R s m args below meth c Q D aC b A nL nc0 ns0 (pc, lv, .int n :: .int dp :: .ref w :: .int sp :: .ref q :: r, h) (pc + 3, lv, r, (h.1.set w (.inl (0, pm_cpy vs ws sp.toNatClampNeg dp.toNatClampNeg n.toNatClampNeg)), h.2)) := by
  intro ad ls H locs cells slots F O hc1 hs1 kk
  refine va_copyi hx hb (by rw [hml]; exact F.2.2.2.1.1.symm) hown h1 h2 h3 h4 hK F.1 F.2.1 F.2.2.1 q w 0 0 (pm_ch_get hq) (pm_ch_get hw) rfl rfl rfl hsp hdp hn ha hb2 (fun _ _ => rfl) hf ?_ hd (fun H1 locs1 hP hD hS => ?_)
  · have := pm_sum_cv b ad r
    unfold pm_sum at this hsu
    have e9 : nativeFrameWords "java/lang/System" "arraycopy" 5 + 11 ≤ 34 := by decide +kernel
    omega
  · have e : (pm_ch b aC ad h.1).set w (ad w, .inl (aC 0, ws.length, .inl (va_cpy (fun j => pm_gi (vs.getD j .null)) (fun j => pm_gi (ws.getD j .null)) sp.toNatClampNeg dp.toNatClampNeg n.toNatClampNeg))) = pm_ch b aC ad (h.1.set w (.inl (0, pm_cpy vs ws sp.toNatClampNeg dp.toNatClampNeg n.toNatClampNeg))) := by
      rw [pm_ch_set, ← pm_gi_cpy vs ws hb2]
      congr 2
      show (Sum.inl (_, _, _) : va_E) = Sum.inl (_, (pm_cpy _ _ _ _ _).length, _)
      rw [pm_cpy_len]
      rfl
    exact kk ad ls H1 locs1 cells slots (fun _ _ => rfl) ⟨e ▸ hP, e ▸ hD, hS, F.2.2.2.1, F.2.2.2.2⟩
end PH
end
section
/-! ANY INSTRUCTION that stays in its frame -/
def pm_okS (s : pm_S) : Prop := pm_ok s.2.1 s.2.2.1 s.2.2.2.1
def pm_Ok2 (s0 s1 : pm_S) : Prop := pm_okS s1 ∧ s0.2.2.2.2.1 ≤ s1.2.2.2.2.1 ∧ s0.2.2.2.2.2 ≤ s1.2.2.2.2.2 ∧ s0.2.2.2.1.length ≤ s1.2.2.2.1.length
theorem pk_st {pc pc' : Nat} {lv : pm_L} {st st' : List Value} {h : pm_H} (O : pm_ok lv st h.1) (h1 : ∀ v ∈ st', pm_okv h.1.length v) : pm_Ok2 (pc, lv, st, h) (pc', lv, st', h) := ⟨⟨O.1, h1, O.2.2⟩, Nat.le_refl _, Nat.le_refl _, Nat.le_refl _⟩
theorem pk_lv {pc pc' : Nat} {lv lv' : pm_L} {st st' : List Value} {h : pm_H} (O : pm_ok lv st h.1) (h0 : ∀ q ∈ lv', pm_okv h.1.length q.2) (h1 : ∀ v ∈ st', pm_okv h.1.length v) : pm_Ok2 (pc, lv, st, h) (pc', lv', st', h) := ⟨⟨h0, h1, O.2.2⟩, Nat.le_refl _, Nat.le_refl _, Nat.le_refl _⟩
theorem pk_set {pc pc' : Nat} {lv : pm_L} {st st' : List Value} {h : pm_H} {q : Nat} {c : pm_C} (O : pm_ok lv st h.1) (h1 : ∀ v ∈ st', pm_okv h.1.length v) (hc : ∀ v ∈ pm_vals c, pm_okv h.1.length v) : pm_Ok2 (pc, lv, st, h) (pc', lv, st', (h.1.set q c, h.2)) := by
  refine ⟨⟨?_, ?_, ?_⟩, Nat.le_refl _, Nat.le_refl _, ?_⟩
  · show ∀ q' ∈ lv, pm_okv (h.1.set q c).length q'.2
    rw [List.length_set]; exact O.1
  · show ∀ v ∈ st', pm_okv (h.1.set q c).length v
    rw [List.length_set]; exact h1
  · show ∀ c' ∈ h.1.set q c, ∀ v ∈ pm_vals c', pm_okv (h.1.set q c).length v
    rw [List.length_set]
    intro c' hc'
    rcases List.mem_or_eq_of_mem_set hc' with z | z
    · exact O.2.2 c' z
    · rw [z]; exact hc
  · show h.1.length ≤ (h.1.set q c).length
    rw [List.length_set]; exact Nat.le_refl _
theorem pk_new {pc pc' : Nat} {lv : pm_L} {st st' : List Value} {h : pm_H} {c : pm_C} {k : Nat} (O : pm_ok lv st h.1) (h1 : ∀ v ∈ st', pm_okv h.1.length v) (hc : ∀ v ∈ pm_vals c, pm_okv 0 v) : pm_Ok2 (pc, lv, st, h) (pc', lv, .ref h.1.length :: st', (h.1 ++ [c], h.2.1 + 1, h.2.2 + k)) := by
  have hl : (h.1 ++ [c]).length = h.1.length + 1 := by simp
  refine ⟨⟨?_, ?_, ?_⟩, Nat.le_succ _, Nat.le_add_right _ _, ?_⟩
  · show ∀ q' ∈ lv, pm_okv (h.1 ++ [c]).length q'.2
    exact fun q' hq => pm_okv_mono (by omega) (O.1 q' hq)
  · show ∀ v ∈ Value.ref h.1.length :: st', pm_okv (h.1 ++ [c]).length v
    exact List.forall_mem_cons.mpr ⟨pm_okv_ref (by omega), fun v hv => pm_okv_mono (by omega) (h1 v hv)⟩
  · show ∀ c' ∈ h.1 ++ [c], ∀ v ∈ pm_vals c', pm_okv (h.1 ++ [c]).length v
    intro c' hc' v hv
    rcases List.mem_append.mp hc' with z | z
    · exact pm_okv_mono (by omega) (O.2.2 c' z v hv)
    · rw [List.mem_singleton.mp z] at hv
      exact pm_okv_mono (Nat.zero_le _) (hc v hv)
  · show h.1.length ≤ (h.1 ++ [c]).length
    omega
theorem pk_cell {n : Nat} {cs : List pm_C} (h : ∀ c ∈ cs, ∀ v ∈ pm_vals c, pm_okv n v) {q k : Nat} {c : pm_C} {v : Value} (hq : cs[q]? = some c) (hv : (pm_vals c)[k]? = some v) : pm_okv n v := h c (List.mem_of_getElem? hq) v (List.mem_of_getElem? hv)
theorem pk_vset {n k : Nat} {vs : List Value} {v : Value} (h : ∀ w ∈ vs, pm_okv n w) (hv : pm_okv n v) : ∀ w ∈ vs.set k v, pm_okv n w := by
  intro w hw
  rcases List.mem_or_eq_of_mem_set hw with z | z
  · exact h w z
  · rw [z]; exact hv
theorem pk_rep {n k : Nat} {v : Value} (hv : pm_okv n v) : ∀ w ∈ List.replicate k v, pm_okv n w := fun w hw => by rw [List.eq_of_mem_replicate hw]; exact hv
theorem pk_df (ci : Nat) : ∀ v ∈ pm_df ci, pm_okv 0 v := by
  have e : ∀ v ∈ pm_df ci, ∀ k, v ≠ .ref k := by
    unfold pm_df
    split <;> simp
  intro v hv k hk
  exact absurd hk (e v hv k)
theorem pk_cpy {n sp dp k : Nat} {vs ws : List Value} (h1 : ∀ v ∈ vs, pm_okv n v) (h2 : ∀ v ∈ ws, pm_okv n v) : ∀ v ∈ pm_cpy vs ws sp dp k, pm_okv n v := by
  intro v hv
  obtain ⟨j, -, rfl⟩ := List.mem_map.mp hv
  split
  · exact pm_okv_getD h1 _
  · exact pm_okv_getD h2 _
theorem pk_c {n : Nat} {a : Value} {r : List Value} (ha : pm_okv n a) (h : ∀ v ∈ r, pm_okv n v) : ∀ v ∈ a :: r, pm_okv n v := List.forall_mem_cons.mpr ⟨ha, h⟩
theorem pk_h {n : Nat} {a : Value} {r : List Value} (h : ∀ v ∈ a :: r, pm_okv n v) : pm_okv n a := h a List.mem_cons_self
theorem pk_t1 {n : Nat} {a : Value} {r : List Value} (h : ∀ v ∈ a :: r, pm_okv n v) : ∀ v ∈ r, pm_okv n v := fun v hv => h v (List.mem_cons_of_mem _ hv)
theorem pk_t2 {n : Nat} {a a2 : Value} {r : List Value} (h : ∀ v ∈ a :: a2 :: r, pm_okv n v) : ∀ v ∈ r, pm_okv n v := pk_t1 (pk_t1 h)
theorem pk_t3 {n : Nat} {a a2 a3 : Value} {r : List Value} (h : ∀ v ∈ a :: a2 :: a3 :: r, pm_okv n v) : ∀ v ∈ r, pm_okv n v := pk_t1 (pk_t2 h)
theorem pk_t5 {n : Nat} {a a2 a3 a4 a5 : Value} {r : List Value} (h : ∀ v ∈ a :: a2 :: a3 :: a4 :: a5 :: r, pm_okv n v) : ∀ v ∈ r, pm_okv n v := pk_t2 (pk_t3 h)
def pm_len (ins : Instr) : Nat := match ins with
  | .bipush _ | .iload _ | .lload _ | .aload _ | .istore _ | .lstore _ | .astore _ | .newarray _ => 2
  | .sipush _ | .ldc_w _ | .ldc2_w _ | .iinc _ _ | .goto _ | .ifCond _ _ | .if_icmp _ _ | .ifnull _ | .ifnonnull _ | .getfield _ | .putfield _ | .new _ | .anewarray _ | .invokevirtual _ | .invokespecial _ | .invokestatic _ => 3
  | .tableswitch _ _ _ _ => 0
  | _ => 1
def pm_atag (t : Nat) : String := match t with
  | 3 => RX2
  | 4 => RX3
  | 5 => RX5
  | _ => RX6
/-- what a row of a table must be: its length, its fields -/
def pm_chk (own : String) (ini : Bool) (ins : Instr) (len : Nat) (res : List Nat) : Bool := (pm_len ins == 0 || len == pm_len ins) && match ins, res with
  | .getfield _, [ci, k, lk] => (match vwCl[ci]? with
    | some q => decide (k < q.2.2) && decide (lk ≤ 1)
    | none => false)
  | .putfield _, [ci, k, lk] => (match vwCl[ci]? with
    | some q => decide (k < q.2.2) && ((decide (lk ≤ 1) && !(q.2.1 k).2.2.2) || (lk == 2 && (q.2.1 k).2.2.2 && decide ((q.2.1 k).1 = own) && ini))
    | none => false)
  | _, _ => true
/-- the words that a row needs (of the good ones; of nest mates) -/
def pm_need (own : String) (ins : Instr) (res : List Nat) : List Cond := match ins, res with
  | .getfield i, [ci, k, lk] => (match vwCl[ci]? with
    | some q => if lk = 1 then [] else [.fieldLink own i (q.2.1 k).1 (q.2.1 k).2.1 (q.2.1 k).2.2.1]
    | none => [])
  | .putfield i, [ci, k, lk] => (match vwCl[ci]? with
    | some q => if lk = 1 then [] else [.fieldLink own i (q.2.1 k).1 (q.2.1 k).2.1 (q.2.1 k).2.2.1]
    | none => [])
  | .new i, [ci] => (match vwCl[ci]? with
    | some q => [.classLink own i q.1, .instantiable q.1 q.2.2, .initialized q.1]
    | none => [])
  | .newarray a, _ => [.arrayClass (newarray.typeOf a)]
  | .anewarray i, [t] => [.classLink own i (pm_atag t)]
  | .ldc_w i, [v] => [.constant own i (Int32.ofNat v)]
  | .ldc2_w i, [v] => [.constantLong own i (Int64.ofNat v)]
  | .invokespecial i, [_, 6] => [.methodLink own i Lib.objectInit, .instanceMethod Lib.objectInit, .code Lib.objectInit ⟨#[0xb1]⟩ 1 none]
  | .invokestatic i, [_, 7] => [.methodLink own i Lib.Math.max.name, .static Lib.Math.max.name, .initialized "java/lang/Math", .code Lib.Math.max.name Lib.Math.max.code 2 (some .int)]
  | .invokestatic i, [_, 8] => [.methodLink own i arraycopyName, .native arraycopyName, .static arraycopyName, .initialized "java/lang/System"]
  | _, _ => []
def pm_needN (own : String) (ins : Instr) (res : List Nat) : List Cond := match ins, res with
  | .getfield i, [ci, k, lk] => (match vwCl[ci]? with
    | some q => if lk = 1 then [.fieldLinkNest own i (q.2.1 k).1 (q.2.1 k).2.1 (q.2.1 k).2.2.1 RX7] else []
    | none => [])
  | .putfield i, [ci, k, lk] => (match vwCl[ci]? with
    | some q => if lk = 1 then [.fieldLinkNest own i (q.2.1 k).1 (q.2.1 k).2.1 (q.2.1 k).2.2.1 RX7] else []
    | none => [])
  | _, _ => []
theorem pm_cls (ci : Nat) (q : vw_C) (h : vwCl[ci]? = some q) : (∀ k, k < q.2.2 → parseFieldDescriptor (q.2.1 k).2.2.1 = some (pm_ty ci k)) ∧ (∀ a, a < q.2.2 → ∀ b, b < q.2.2 → a ≠ b → (q.2.1 a).2.1 ≠ (q.2.1 b).2.1) ∧ (pm_df ci).length = q.2.2 ∧ ∀ j, j < q.2.2 → defaultValue (pm_ty ci j) = vp_V (pm_df ci) j := by
  match ci, h with
  | 0, h => cases h; exact ⟨tyX0_ok, nmX0, rfl, by decide +kernel⟩
  | 1, h => cases h; exact ⟨tyX1_ok, nmX1, rfl, by decide +kernel⟩
  | 2, h => cases h; exact ⟨tyX2_ok, nmX2, rfl, by decide +kernel⟩
  | 3, h => cases h; exact ⟨tyX3_ok, nmX3, rfl, by decide +kernel⟩
  | 4, h => cases h; exact ⟨tyX4_ok, nmX4, rfl, by decide +kernel⟩
  | 5, h => cases h; exact ⟨tyX5_ok, nmX5, rfl, by decide +kernel⟩
  | 6, h => cases h; exact ⟨tyX6_ok, nmX6, rfl, by decide +kernel⟩
  | 7, h => cases h; exact ⟨tyX7_ok, nmX7, rfl, by decide +kernel⟩
  | 8, h => cases h; exact ⟨tyX8_ok, nmX8, rfl, by decide +kernel⟩
  | n + 9, h => simp [vwCl] at h
theorem pq_aconst_null {p : Program} {l : Launch} {e : Env} {R : Room} {s : State} {m : MethodId} {args : Array Value} {below : List Frame} {meth : Method} {c : Code} {Q : State → Prop}
    {D : va_G} {aC : Nat → ClassId} {b : Nat} {sc : pm_Sc} {A : Nat → Prop} {nL nc0 ns0 rk : Nat} {np mc rkOf : Nat → Nat} {cc : ByteArray} {own : String} {ini : Bool} {len : Nat} {res : List Nat} {pc : Nat} {lv : pm_L} {st : List Value} {h : pm_H} {s1 : pm_S}
    (hx : p.tables.exec = Jvm.exec) (hb : c.code = cc) (hml : c.maxLocals = nL) (hown : s.vm.findClass own = some m.cls) (hK : va_K D vwCl (pm_tys aC) s) (hA : ∀ q, s.heap.size ≤ q → A q)
    (hX : va_X b sc.1 sc.2 s s.heap) (hbl : b < s.heap.size) (hbA : ¬ A b) (hus : ∀ (ci : Nat) (q : vw_C), vwCl[ci]? = some q → ∀ w ∈ u_ws q.1 q.2.1 q.2.2, w.before args s = true)
    (hn : ∀ w ∈ pm_need own (.aconst_null) res, w.before args s = true) (hnn : ∀ w ∈ pm_needN own (.aconst_null) res, w.before args s = true) (hao : ∀ t, 3 ≤ t → t ≤ 6 → va_AO (pm_atag t) s) (hck : pm_chk own ini (.aconst_null) len res = true) (hin : ini = true → meth.name = "<init>") (hrf : rk ≤ R.frames) (hrl : 42 * rk ≤ R.locals)
    (hd : decode cc pc = .ok (.aconst_null, len)) (hs : pm_do sc nL rk np mc rkOf (.aconst_null) res pc lv st h = some (.inl s1)) (O : pm_ok lv st h.1) : pm_Go p l e R s m args below meth c Q D aC b A nL nc0 ns0 (pc, lv, st, h) s1 ∧ pm_Ok2 (pc, lv, st, h) s1 := by
  have hlen : len = 1 := by simp only [pm_chk, pm_len, Bool.and_eq_true, Bool.or_eq_true, beq_iff_eq] at hck; omega
  subst hlen
  simp only [pm_do] at hs
  cases hs
  exact ⟨po_null hx hb hd, pk_st O (pk_c (pm_okv_null _) O.2.1)⟩
theorem pq_iconst {p : Program} {l : Launch} {e : Env} {R : Room} {s : State} {m : MethodId} {args : Array Value} {below : List Frame} {meth : Method} {c : Code} {Q : State → Prop}
    {D : va_G} {aC : Nat → ClassId} {b : Nat} {sc : pm_Sc} {A : Nat → Prop} {nL nc0 ns0 rk : Nat} {np mc rkOf : Nat → Nat} {cc : ByteArray} {own : String} {ini : Bool} {n : Int} {len : Nat} {res : List Nat} {pc : Nat} {lv : pm_L} {st : List Value} {h : pm_H} {s1 : pm_S}
    (hx : p.tables.exec = Jvm.exec) (hb : c.code = cc) (hml : c.maxLocals = nL) (hown : s.vm.findClass own = some m.cls) (hK : va_K D vwCl (pm_tys aC) s) (hA : ∀ q, s.heap.size ≤ q → A q)
    (hX : va_X b sc.1 sc.2 s s.heap) (hbl : b < s.heap.size) (hbA : ¬ A b) (hus : ∀ (ci : Nat) (q : vw_C), vwCl[ci]? = some q → ∀ w ∈ u_ws q.1 q.2.1 q.2.2, w.before args s = true)
    (hn : ∀ w ∈ pm_need own (.iconst n) res, w.before args s = true) (hnn : ∀ w ∈ pm_needN own (.iconst n) res, w.before args s = true) (hao : ∀ t, 3 ≤ t → t ≤ 6 → va_AO (pm_atag t) s) (hck : pm_chk own ini (.iconst n) len res = true) (hin : ini = true → meth.name = "<init>") (hrf : rk ≤ R.frames) (hrl : 42 * rk ≤ R.locals)
    (hd : decode cc pc = .ok (.iconst n, len)) (hs : pm_do sc nL rk np mc rkOf (.iconst n) res pc lv st h = some (.inl s1)) (O : pm_ok lv st h.1) : pm_Go p l e R s m args below meth c Q D aC b A nL nc0 ns0 (pc, lv, st, h) s1 ∧ pm_Ok2 (pc, lv, st, h) s1 := by
  have hlen : len = 1 := by simp only [pm_chk, pm_len, Bool.and_eq_true, Bool.or_eq_true, beq_iff_eq] at hck; omega
  subst hlen
  simp only [pm_do] at hs
  cases hs
  exact ⟨po_iconst hx hb hd, pk_st O (pk_c (pm_okv_int _ _) O.2.1)⟩
theorem pq_bipush {p : Program} {l : Launch} {e : Env} {R : Room} {s : State} {m : MethodId} {args : Array Value} {below : List Frame} {meth : Method} {c : Code} {Q : State → Prop}
    {D : va_G} {aC : Nat → ClassId} {b : Nat} {sc : pm_Sc} {A : Nat → Prop} {nL nc0 ns0 rk : Nat} {np mc rkOf : Nat → Nat} {cc : ByteArray} {own : String} {ini : Bool} {n : Int} {len : Nat} {res : List Nat} {pc : Nat} {lv : pm_L} {st : List Value} {h : pm_H} {s1 : pm_S}
    (hx : p.tables.exec = Jvm.exec) (hb : c.code = cc) (hml : c.maxLocals = nL) (hown : s.vm.findClass own = some m.cls) (hK : va_K D vwCl (pm_tys aC) s) (hA : ∀ q, s.heap.size ≤ q → A q)
    (hX : va_X b sc.1 sc.2 s s.heap) (hbl : b < s.heap.size) (hbA : ¬ A b) (hus : ∀ (ci : Nat) (q : vw_C), vwCl[ci]? = some q → ∀ w ∈ u_ws q.1 q.2.1 q.2.2, w.before args s = true)
    (hn : ∀ w ∈ pm_need own (.bipush n) res, w.before args s = true) (hnn : ∀ w ∈ pm_needN own (.bipush n) res, w.before args s = true) (hao : ∀ t, 3 ≤ t → t ≤ 6 → va_AO (pm_atag t) s) (hck : pm_chk own ini (.bipush n) len res = true) (hin : ini = true → meth.name = "<init>") (hrf : rk ≤ R.frames) (hrl : 42 * rk ≤ R.locals)
    (hd : decode cc pc = .ok (.bipush n, len)) (hs : pm_do sc nL rk np mc rkOf (.bipush n) res pc lv st h = some (.inl s1)) (O : pm_ok lv st h.1) : pm_Go p l e R s m args below meth c Q D aC b A nL nc0 ns0 (pc, lv, st, h) s1 ∧ pm_Ok2 (pc, lv, st, h) s1 := by
  have hlen : len = 2 := by simp only [pm_chk, pm_len, Bool.and_eq_true, Bool.or_eq_true, beq_iff_eq] at hck; omega
  subst hlen
  simp only [pm_do] at hs
  cases hs
  exact ⟨po_bipush hx hb hd, pk_st O (pk_c (pm_okv_int _ _) O.2.1)⟩
theorem pq_sipush {p : Program} {l : Launch} {e : Env} {R : Room} {s : State} {m : MethodId} {args : Array Value} {below : List Frame} {meth : Method} {c : Code} {Q : State → Prop}
    {D : va_G} {aC : Nat → ClassId} {b : Nat} {sc : pm_Sc} {A : Nat → Prop} {nL nc0 ns0 rk : Nat} {np mc rkOf : Nat → Nat} {cc : ByteArray} {own : String} {ini : Bool} {n : Int} {len : Nat} {res : List Nat} {pc : Nat} {lv : pm_L} {st : List Value} {h : pm_H} {s1 : pm_S}
    (hx : p.tables.exec = Jvm.exec) (hb : c.code = cc) (hml : c.maxLocals = nL) (hown : s.vm.findClass own = some m.cls) (hK : va_K D vwCl (pm_tys aC) s) (hA : ∀ q, s.heap.size ≤ q → A q)
    (hX : va_X b sc.1 sc.2 s s.heap) (hbl : b < s.heap.size) (hbA : ¬ A b) (hus : ∀ (ci : Nat) (q : vw_C), vwCl[ci]? = some q → ∀ w ∈ u_ws q.1 q.2.1 q.2.2, w.before args s = true)
    (hn : ∀ w ∈ pm_need own (.sipush n) res, w.before args s = true) (hnn : ∀ w ∈ pm_needN own (.sipush n) res, w.before args s = true) (hao : ∀ t, 3 ≤ t → t ≤ 6 → va_AO (pm_atag t) s) (hck : pm_chk own ini (.sipush n) len res = true) (hin : ini = true → meth.name = "<init>") (hrf : rk ≤ R.frames) (hrl : 42 * rk ≤ R.locals)
    (hd : decode cc pc = .ok (.sipush n, len)) (hs : pm_do sc nL rk np mc rkOf (.sipush n) res pc lv st h = some (.inl s1)) (O : pm_ok lv st h.1) : pm_Go p l e R s m args below meth c Q D aC b A nL nc0 ns0 (pc, lv, st, h) s1 ∧ pm_Ok2 (pc, lv, st, h) s1 := by
  have hlen : len = 3 := by simp only [pm_chk, pm_len, Bool.and_eq_true, Bool.or_eq_true, beq_iff_eq] at hck; omega
  subst hlen
  simp only [pm_do] at hs
  cases hs
  exact ⟨po_sipush hx hb hd, pk_st O (pk_c (pm_okv_int _ _) O.2.1)⟩
theorem pq_lconst {p : Program} {l : Launch} {e : Env} {R : Room} {s : State} {m : MethodId} {args : Array Value} {below : List Frame} {meth : Method} {c : Code} {Q : State → Prop}
    {D : va_G} {aC : Nat → ClassId} {b : Nat} {sc : pm_Sc} {A : Nat → Prop} {nL nc0 ns0 rk : Nat} {np mc rkOf : Nat → Nat} {cc : ByteArray} {own : String} {ini : Bool} {n : Fin 2} {len : Nat} {res : List Nat} {pc : Nat} {lv : pm_L} {st : List Value} {h : pm_H} {s1 : pm_S}
    (hx : p.tables.exec = Jvm.exec) (hb : c.code = cc) (hml : c.maxLocals = nL) (hown : s.vm.findClass own = some m.cls) (hK : va_K D vwCl (pm_tys aC) s) (hA : ∀ q, s.heap.size ≤ q → A q)
    (hX : va_X b sc.1 sc.2 s s.heap) (hbl : b < s.heap.size) (hbA : ¬ A b) (hus : ∀ (ci : Nat) (q : vw_C), vwCl[ci]? = some q → ∀ w ∈ u_ws q.1 q.2.1 q.2.2, w.before args s = true)
    (hn : ∀ w ∈ pm_need own (.lconst n) res, w.before args s = true) (hnn : ∀ w ∈ pm_needN own (.lconst n) res, w.before args s = true) (hao : ∀ t, 3 ≤ t → t ≤ 6 → va_AO (pm_atag t) s) (hck : pm_chk own ini (.lconst n) len res = true) (hin : ini = true → meth.name = "<init>") (hrf : rk ≤ R.frames) (hrl : 42 * rk ≤ R.locals)
    (hd : decode cc pc = .ok (.lconst n, len)) (hs : pm_do sc nL rk np mc rkOf (.lconst n) res pc lv st h = some (.inl s1)) (O : pm_ok lv st h.1) : pm_Go p l e R s m args below meth c Q D aC b A nL nc0 ns0 (pc, lv, st, h) s1 ∧ pm_Ok2 (pc, lv, st, h) s1 := by
  have hlen : len = 1 := by simp only [pm_chk, pm_len, Bool.and_eq_true, Bool.or_eq_true, beq_iff_eq] at hck; omega
  subst hlen
  simp only [pm_do] at hs
  cases hs
  exact ⟨po_lconst hx hb hd, pk_st O (pk_c (pm_okv_long _ _) O.2.1)⟩
theorem pq_iadd {p : Program} {l : Launch} {e : Env} {R : Room} {s : State} {m : MethodId} {args : Array Value} {below : List Frame} {meth : Method} {c : Code} {Q : State → Prop}
    {D : va_G} {aC : Nat → ClassId} {b : Nat} {sc : pm_Sc} {A : Nat → Prop} {nL nc0 ns0 rk : Nat} {np mc rkOf : Nat → Nat} {cc : ByteArray} {own : String} {ini : Bool} {len : Nat} {res : List Nat} {pc : Nat} {lv : pm_L} {st : List Value} {h : pm_H} {s1 : pm_S}
    (hx : p.tables.exec = Jvm.exec) (hb : c.code = cc) (hml : c.maxLocals = nL) (hown : s.vm.findClass own = some m.cls) (hK : va_K D vwCl (pm_tys aC) s) (hA : ∀ q, s.heap.size ≤ q → A q)
    (hX : va_X b sc.1 sc.2 s s.heap) (hbl : b < s.heap.size) (hbA : ¬ A b) (hus : ∀ (ci : Nat) (q : vw_C), vwCl[ci]? = some q → ∀ w ∈ u_ws q.1 q.2.1 q.2.2, w.before args s = true)
    (hn : ∀ w ∈ pm_need own (.iadd) res, w.before args s = true) (hnn : ∀ w ∈ pm_needN own (.iadd) res, w.before args s = true) (hao : ∀ t, 3 ≤ t → t ≤ 6 → va_AO (pm_atag t) s) (hck : pm_chk own ini (.iadd) len res = true) (hin : ini = true → meth.name = "<init>") (hrf : rk ≤ R.frames) (hrl : 42 * rk ≤ R.locals)
    (hd : decode cc pc = .ok (.iadd, len)) (hs : pm_do sc nL rk np mc rkOf (.iadd) res pc lv st h = some (.inl s1)) (O : pm_ok lv st h.1) : pm_Go p l e R s m args below meth c Q D aC b A nL nc0 ns0 (pc, lv, st, h) s1 ∧ pm_Ok2 (pc, lv, st, h) s1 := by
  have hlen : len = 1 := by simp only [pm_chk, pm_len, Bool.and_eq_true, Bool.or_eq_true, beq_iff_eq] at hck; omega
  subst hlen
  simp only [pm_do] at hs
  split at hs
  · cases hs
    exact ⟨po_iadd hx hb hd, pk_st O (pk_c (pm_okv_int _ _) (pk_t2 O.2.1))⟩
  · cases hs
theorem pq_isub {p : Program} {l : Launch} {e : Env} {R : Room} {s : State} {m : MethodId} {args : Array Value} {below : List Frame} {meth : Method} {c : Code} {Q : State → Prop}
    {D : va_G} {aC : Nat → ClassId} {b : Nat} {sc : pm_Sc} {A : Nat → Prop} {nL nc0 ns0 rk : Nat} {np mc rkOf : Nat → Nat} {cc : ByteArray} {own : String} {ini : Bool} {len : Nat} {res : List Nat} {pc : Nat} {lv : pm_L} {st : List Value} {h : pm_H} {s1 : pm_S}
    (hx : p.tables.exec = Jvm.exec) (hb : c.code = cc) (hml : c.maxLocals = nL) (hown : s.vm.findClass own = some m.cls) (hK : va_K D vwCl (pm_tys aC) s) (hA : ∀ q, s.heap.size ≤ q → A q)
    (hX : va_X b sc.1 sc.2 s s.heap) (hbl : b < s.heap.size) (hbA : ¬ A b) (hus : ∀ (ci : Nat) (q : vw_C), vwCl[ci]? = some q → ∀ w ∈ u_ws q.1 q.2.1 q.2.2, w.before args s = true)
    (hn : ∀ w ∈ pm_need own (.isub) res, w.before args s = true) (hnn : ∀ w ∈ pm_needN own (.isub) res, w.before args s = true) (hao : ∀ t, 3 ≤ t → t ≤ 6 → va_AO (pm_atag t) s) (hck : pm_chk own ini (.isub) len res = true) (hin : ini = true → meth.name = "<init>") (hrf : rk ≤ R.frames) (hrl : 42 * rk ≤ R.locals)
    (hd : decode cc pc = .ok (.isub, len)) (hs : pm_do sc nL rk np mc rkOf (.isub) res pc lv st h = some (.inl s1)) (O : pm_ok lv st h.1) : pm_Go p l e R s m args below meth c Q D aC b A nL nc0 ns0 (pc, lv, st, h) s1 ∧ pm_Ok2 (pc, lv, st, h) s1 := by
  have hlen : len = 1 := by simp only [pm_chk, pm_len, Bool.and_eq_true, Bool.or_eq_true, beq_iff_eq] at hck; omega
  subst hlen
  simp only [pm_do] at hs
  split at hs
  · cases hs
    exact ⟨po_isub hx hb hd, pk_st O (pk_c (pm_okv_int _ _) (pk_t2 O.2.1))⟩
  · cases hs
theorem pq_imul {p : Program} {l : Launch} {e : Env} {R : Room} {s : State} {m : MethodId} {args : Array Value} {below : List Frame} {meth : Method} {c : Code} {Q : State → Prop}
    {D : va_G} {aC : Nat → ClassId} {b : Nat} {sc : pm_Sc} {A : Nat → Prop} {nL nc0 ns0 rk : Nat} {np mc rkOf : Nat → Nat} {cc : ByteArray} {own : String} {ini : Bool} {len : Nat} {res : List Nat} {pc : Nat} {lv : pm_L} {st : List Value} {h : pm_H} {s1 : pm_S}
    (hx : p.tables.exec = Jvm.exec) (hb : c.code = cc) (hml : c.maxLocals = nL) (hown : s.vm.findClass own = some m.cls) (hK : va_K D vwCl (pm_tys aC) s) (hA : ∀ q, s.heap.size ≤ q → A q)
    (hX : va_X b sc.1 sc.2 s s.heap) (hbl : b < s.heap.size) (hbA : ¬ A b) (hus : ∀ (ci : Nat) (q : vw_C), vwCl[ci]? = some q → ∀ w ∈ u_ws q.1 q.2.1 q.2.2, w.before args s = true)
    (hn : ∀ w ∈ pm_need own (.imul) res, w.before args s = true) (hnn : ∀ w ∈ pm_needN own (.imul) res, w.before args s = true) (hao : ∀ t, 3 ≤ t → t ≤ 6 → va_AO (pm_atag t) s) (hck : pm_chk own ini (.imul) len res = true) (hin : ini = true → meth.name = "<init>") (hrf : rk ≤ R.frames) (hrl : 42 * rk ≤ R.locals)
    (hd : decode cc pc = .ok (.imul, len)) (hs : pm_do sc nL rk np mc rkOf (.imul) res pc lv st h = some (.inl s1)) (O : pm_ok lv st h.1) : pm_Go p l e R s m args below meth c Q D aC b A nL nc0 ns0 (pc, lv, st, h) s1 ∧ pm_Ok2 (pc, lv, st, h) s1 := by
  have hlen : len = 1 := by simp only [pm_chk, pm_len, Bool.and_eq_true, Bool.or_eq_true, beq_iff_eq] at hck; omega
  subst hlen
  simp only [pm_do] at hs
  split at hs
  · cases hs
    exact ⟨po_imul hx hb hd, pk_st O (pk_c (pm_okv_int _ _) (pk_t2 O.2.1))⟩
  · cases hs
theorem pq_iand {p : Program} {l : Launch} {e : Env} {R : Room} {s : State} {m : MethodId} {args : Array Value} {below : List Frame} {meth : Method} {c : Code} {Q : State → Prop}
    {D : va_G} {aC : Nat → ClassId} {b : Nat} {sc : pm_Sc} {A : Nat → Prop} {nL nc0 ns0 rk : Nat} {np mc rkOf : Nat → Nat} {cc : ByteArray} {own : String} {ini : Bool} {len : Nat} {res : List Nat} {pc : Nat} {lv : pm_L} {st : List Value} {h : pm_H} {s1 : pm_S}
    (hx : p.tables.exec = Jvm.exec) (hb : c.code = cc) (hml : c.maxLocals = nL) (hown : s.vm.findClass own = some m.cls) (hK : va_K D vwCl (pm_tys aC) s) (hA : ∀ q, s.heap.size ≤ q → A q)
    (hX : va_X b sc.1 sc.2 s s.heap) (hbl : b < s.heap.size) (hbA : ¬ A b) (hus : ∀ (ci : Nat) (q : vw_C), vwCl[ci]? = some q → ∀ w ∈ u_ws q.1 q.2.1 q.2.2, w.before args s = true)
    (hn : ∀ w ∈ pm_need own (.iand) res, w.before args s = true) (hnn : ∀ w ∈ pm_needN own (.iand) res, w.before args s = true) (hao : ∀ t, 3 ≤ t → t ≤ 6 → va_AO (pm_atag t) s) (hck : pm_chk own ini (.iand) len res = true) (hin : ini = true → meth.name = "<init>") (hrf : rk ≤ R.frames) (hrl : 42 * rk ≤ R.locals)
    (hd : decode cc pc = .ok (.iand, len)) (hs : pm_do sc nL rk np mc rkOf (.iand) res pc lv st h = some (.inl s1)) (O : pm_ok lv st h.1) : pm_Go p l e R s m args below meth c Q D aC b A nL nc0 ns0 (pc, lv, st, h) s1 ∧ pm_Ok2 (pc, lv, st, h) s1 := by
  have hlen : len = 1 := by simp only [pm_chk, pm_len, Bool.and_eq_true, Bool.or_eq_true, beq_iff_eq] at hck; omega
  subst hlen
  simp only [pm_do] at hs
  split at hs
  · cases hs
    exact ⟨po_iand hx hb hd, pk_st O (pk_c (pm_okv_int _ _) (pk_t2 O.2.1))⟩
  · cases hs
theorem pq_ior {p : Program} {l : Launch} {e : Env} {R : Room} {s : State} {m : MethodId} {args : Array Value} {below : List Frame} {meth : Method} {c : Code} {Q : State → Prop}
    {D : va_G} {aC : Nat → ClassId} {b : Nat} {sc : pm_Sc} {A : Nat → Prop} {nL nc0 ns0 rk : Nat} {np mc rkOf : Nat → Nat} {cc : ByteArray} {own : String} {ini : Bool} {len : Nat} {res : List Nat} {pc : Nat} {lv : pm_L} {st : List Value} {h : pm_H} {s1 : pm_S}
    (hx : p.tables.exec = Jvm.exec) (hb : c.code = cc) (hml : c.maxLocals = nL) (hown : s.vm.findClass own = some m.cls) (hK : va_K D vwCl (pm_tys aC) s) (hA : ∀ q, s.heap.size ≤ q → A q)
    (hX : va_X b sc.1 sc.2 s s.heap) (hbl : b < s.heap.size) (hbA : ¬ A b) (hus : ∀ (ci : Nat) (q : vw_C), vwCl[ci]? = some q → ∀ w ∈ u_ws q.1 q.2.1 q.2.2, w.before args s = true)
    (hn : ∀ w ∈ pm_need own (.ior) res, w.before args s = true) (hnn : ∀ w ∈ pm_needN own (.ior) res, w.before args s = true) (hao : ∀ t, 3 ≤ t → t ≤ 6 → va_AO (pm_atag t) s) (hck : pm_chk own ini (.ior) len res = true) (hin : ini = true → meth.name = "<init>") (hrf : rk ≤ R.frames) (hrl : 42 * rk ≤ R.locals)
    (hd : decode cc pc = .ok (.ior, len)) (hs : pm_do sc nL rk np mc rkOf (.ior) res pc lv st h = some (.inl s1)) (O : pm_ok lv st h.1) : pm_Go p l e R s m args below meth c Q D aC b A nL nc0 ns0 (pc, lv, st, h) s1 ∧ pm_Ok2 (pc, lv, st, h) s1 := by
  have hlen : len = 1 := by simp only [pm_chk, pm_len, Bool.and_eq_true, Bool.or_eq_true, beq_iff_eq] at hck; omega
  subst hlen
  simp only [pm_do] at hs
  split at hs
  · cases hs
    exact ⟨po_ior hx hb hd, pk_st O (pk_c (pm_okv_int _ _) (pk_t2 O.2.1))⟩
  · cases hs
theorem pq_ixor {p : Program} {l : Launch} {e : Env} {R : Room} {s : State} {m : MethodId} {args : Array Value} {below : List Frame} {meth : Method} {c : Code} {Q : State → Prop}
    {D : va_G} {aC : Nat → ClassId} {b : Nat} {sc : pm_Sc} {A : Nat → Prop} {nL nc0 ns0 rk : Nat} {np mc rkOf : Nat → Nat} {cc : ByteArray} {own : String} {ini : Bool} {len : Nat} {res : List Nat} {pc : Nat} {lv : pm_L} {st : List Value} {h : pm_H} {s1 : pm_S}
    (hx : p.tables.exec = Jvm.exec) (hb : c.code = cc) (hml : c.maxLocals = nL) (hown : s.vm.findClass own = some m.cls) (hK : va_K D vwCl (pm_tys aC) s) (hA : ∀ q, s.heap.size ≤ q → A q)
    (hX : va_X b sc.1 sc.2 s s.heap) (hbl : b < s.heap.size) (hbA : ¬ A b) (hus : ∀ (ci : Nat) (q : vw_C), vwCl[ci]? = some q → ∀ w ∈ u_ws q.1 q.2.1 q.2.2, w.before args s = true)
    (hn : ∀ w ∈ pm_need own (.ixor) res, w.before args s = true) (hnn : ∀ w ∈ pm_needN own (.ixor) res, w.before args s = true) (hao : ∀ t, 3 ≤ t → t ≤ 6 → va_AO (pm_atag t) s) (hck : pm_chk own ini (.ixor) len res = true) (hin : ini = true → meth.name = "<init>") (hrf : rk ≤ R.frames) (hrl : 42 * rk ≤ R.locals)
    (hd : decode cc pc = .ok (.ixor, len)) (hs : pm_do sc nL rk np mc rkOf (.ixor) res pc lv st h = some (.inl s1)) (O : pm_ok lv st h.1) : pm_Go p l e R s m args below meth c Q D aC b A nL nc0 ns0 (pc, lv, st, h) s1 ∧ pm_Ok2 (pc, lv, st, h) s1 := by
  have hlen : len = 1 := by simp only [pm_chk, pm_len, Bool.and_eq_true, Bool.or_eq_true, beq_iff_eq] at hck; omega
  subst hlen
  simp only [pm_do] at hs
  split at hs
  · cases hs
    exact ⟨po_ixor hx hb hd, pk_st O (pk_c (pm_okv_int _ _) (pk_t2 O.2.1))⟩
  · cases hs
theorem pq_ishl {p : Program} {l : Launch} {e : Env} {R : Room} {s : State} {m : MethodId} {args : Array Value} {below : List Frame} {meth : Method} {c : Code} {Q : State → Prop}
    {D : va_G} {aC : Nat → ClassId} {b : Nat} {sc : pm_Sc} {A : Nat → Prop} {nL nc0 ns0 rk : Nat} {np mc rkOf : Nat → Nat} {cc : ByteArray} {own : String} {ini : Bool} {len : Nat} {res : List Nat} {pc : Nat} {lv : pm_L} {st : List Value} {h : pm_H} {s1 : pm_S}
    (hx : p.tables.exec = Jvm.exec) (hb : c.code = cc) (hml : c.maxLocals = nL) (hown : s.vm.findClass own = some m.cls) (hK : va_K D vwCl (pm_tys aC) s) (hA : ∀ q, s.heap.size ≤ q → A q)
    (hX : va_X b sc.1 sc.2 s s.heap) (hbl : b < s.heap.size) (hbA : ¬ A b) (hus : ∀ (ci : Nat) (q : vw_C), vwCl[ci]? = some q → ∀ w ∈ u_ws q.1 q.2.1 q.2.2, w.before args s = true)
    (hn : ∀ w ∈ pm_need own (.ishl) res, w.before args s = true) (hnn : ∀ w ∈ pm_needN own (.ishl) res, w.before args s = true) (hao : ∀ t, 3 ≤ t → t ≤ 6 → va_AO (pm_atag t) s) (hck : pm_chk own ini (.ishl) len res = true) (hin : ini = true → meth.name = "<init>") (hrf : rk ≤ R.frames) (hrl : 42 * rk ≤ R.locals)
    (hd : decode cc pc = .ok (.ishl, len)) (hs : pm_do sc nL rk np mc rkOf (.ishl) res pc lv st h = some (.inl s1)) (O : pm_ok lv st h.1) : pm_Go p l e R s m args below meth c Q D aC b A nL nc0 ns0 (pc, lv, st, h) s1 ∧ pm_Ok2 (pc, lv, st, h) s1 := by
  have hlen : len = 1 := by simp only [pm_chk, pm_len, Bool.and_eq_true, Bool.or_eq_true, beq_iff_eq] at hck; omega
  subst hlen
  simp only [pm_do] at hs
  split at hs
  · cases hs
    exact ⟨po_ishl hx hb hd, pk_st O (pk_c (pm_okv_int _ _) (pk_t2 O.2.1))⟩
  · cases hs
theorem pq_ishr {p : Program} {l : Launch} {e : Env} {R : Room} {s : State} {m : MethodId} {args : Array Value} {below : List Frame} {meth : Method} {c : Code} {Q : State → Prop}
    {D : va_G} {aC : Nat → ClassId} {b : Nat} {sc : pm_Sc} {A : Nat → Prop} {nL nc0 ns0 rk : Nat} {np mc rkOf : Nat → Nat} {cc : ByteArray} {own : String} {ini : Bool} {len : Nat} {res : List Nat} {pc : Nat} {lv : pm_L} {st : List Value} {h : pm_H} {s1 : pm_S}
    (hx : p.tables.exec = Jvm.exec) (hb : c.code = cc) (hml : c.maxLocals = nL) (hown : s.vm.findClass own = some m.cls) (hK : va_K D vwCl (pm_tys aC) s) (hA : ∀ q, s.heap.size ≤ q → A q)
    (hX : va_X b sc.1 sc.2 s s.heap) (hbl : b < s.heap.size) (hbA : ¬ A b) (hus : ∀ (ci : Nat) (q : vw_C), vwCl[ci]? = some q → ∀ w ∈ u_ws q.1 q.2.1 q.2.2, w.before args s = true)
    (hn : ∀ w ∈ pm_need own (.ishr) res, w.before args s = true) (hnn : ∀ w ∈ pm_needN own (.ishr) res, w.before args s = true) (hao : ∀ t, 3 ≤ t → t ≤ 6 → va_AO (pm_atag t) s) (hck : pm_chk own ini (.ishr) len res = true) (hin : ini = true → meth.name = "<init>") (hrf : rk ≤ R.frames) (hrl : 42 * rk ≤ R.locals)
    (hd : decode cc pc = .ok (.ishr, len)) (hs : pm_do sc nL rk np mc rkOf (.ishr) res pc lv st h = some (.inl s1)) (O : pm_ok lv st h.1) : pm_Go p l e R s m args below meth c Q D aC b A nL nc0 ns0 (pc, lv, st, h) s1 ∧ pm_Ok2 (pc, lv, st, h) s1 := by
  have hlen : len = 1 := by simp only [pm_chk, pm_len, Bool.and_eq_true, Bool.or_eq_true, beq_iff_eq] at hck; omega
  subst hlen
  simp only [pm_do] at hs
  split at hs
  · cases hs
    exact ⟨po_ishr hx hb hd, pk_st O (pk_c (pm_okv_int _ _) (pk_t2 O.2.1))⟩
  · cases hs
theorem pq_iushr {p : Program} {l : Launch} {e : Env} {R : Room} {s : State} {m : MethodId} {args : Array Value} {below : List Frame} {meth : Method} {c : Code} {Q : State → Prop}
    {D : va_G} {aC : Nat → ClassId} {b : Nat} {sc : pm_Sc} {A : Nat → Prop} {nL nc0 ns0 rk : Nat} {np mc rkOf : Nat → Nat} {cc : ByteArray} {own : String} {ini : Bool} {len : Nat} {res : List Nat} {pc : Nat} {lv : pm_L} {st : List Value} {h : pm_H} {s1 : pm_S}
    (hx : p.tables.exec = Jvm.exec) (hb : c.code = cc) (hml : c.maxLocals = nL) (hown : s.vm.findClass own = some m.cls) (hK : va_K D vwCl (pm_tys aC) s) (hA : ∀ q, s.heap.size ≤ q → A q)
    (hX : va_X b sc.1 sc.2 s s.heap) (hbl : b < s.heap.size) (hbA : ¬ A b) (hus : ∀ (ci : Nat) (q : vw_C), vwCl[ci]? = some q → ∀ w ∈ u_ws q.1 q.2.1 q.2.2, w.before args s = true)
    (hn : ∀ w ∈ pm_need own (.iushr) res, w.before args s = true) (hnn : ∀ w ∈ pm_needN own (.iushr) res, w.before args s = true) (hao : ∀ t, 3 ≤ t → t ≤ 6 → va_AO (pm_atag t) s) (hck : pm_chk own ini (.iushr) len res = true) (hin : ini = true → meth.name = "<init>") (hrf : rk ≤ R.frames) (hrl : 42 * rk ≤ R.locals)
    (hd : decode cc pc = .ok (.iushr, len)) (hs : pm_do sc nL rk np mc rkOf (.iushr) res pc lv st h = some (.inl s1)) (O : pm_ok lv st h.1) : pm_Go p l e R s m args below meth c Q D aC b A nL nc0 ns0 (pc, lv, st, h) s1 ∧ pm_Ok2 (pc, lv, st, h) s1 := by
  have hlen : len = 1 := by simp only [pm_chk, pm_len, Bool.and_eq_true, Bool.or_eq_true, beq_iff_eq] at hck; omega
  subst hlen
  simp only [pm_do] at hs
  split at hs
  · cases hs
    exact ⟨po_iushr hx hb hd, pk_st O (pk_c (pm_okv_int _ _) (pk_t2 O.2.1))⟩
  · cases hs
theorem pq_lsub {p : Program} {l : Launch} {e : Env} {R : Room} {s : State} {m : MethodId} {args : Array Value} {below : List Frame} {meth : Method} {c : Code} {Q : State → Prop}
    {D : va_G} {aC : Nat → ClassId} {b : Nat} {sc : pm_Sc} {A : Nat → Prop} {nL nc0 ns0 rk : Nat} {np mc rkOf : Nat → Nat} {cc : ByteArray} {own : String} {ini : Bool} {len : Nat} {res : List Nat} {pc : Nat} {lv : pm_L} {st : List Value} {h : pm_H} {s1 : pm_S}
    (hx : p.tables.exec = Jvm.exec) (hb : c.code = cc) (hml : c.maxLocals = nL) (hown : s.vm.findClass own = some m.cls) (hK : va_K D vwCl (pm_tys aC) s) (hA : ∀ q, s.heap.size ≤ q → A q)
    (hX : va_X b sc.1 sc.2 s s.heap) (hbl : b < s.heap.size) (hbA : ¬ A b) (hus : ∀ (ci : Nat) (q : vw_C), vwCl[ci]? = some q → ∀ w ∈ u_ws q.1 q.2.1 q.2.2, w.before args s = true)
    (hn : ∀ w ∈ pm_need own (.lsub) res, w.before args s = true) (hnn : ∀ w ∈ pm_needN own (.lsub) res, w.before args s = true) (hao : ∀ t, 3 ≤ t → t ≤ 6 → va_AO (pm_atag t) s) (hck : pm_chk own ini (.lsub) len res = true) (hin : ini = true → meth.name = "<init>") (hrf : rk ≤ R.frames) (hrl : 42 * rk ≤ R.locals)
    (hd : decode cc pc = .ok (.lsub, len)) (hs : pm_do sc nL rk np mc rkOf (.lsub) res pc lv st h = some (.inl s1)) (O : pm_ok lv st h.1) : pm_Go p l e R s m args below meth c Q D aC b A nL nc0 ns0 (pc, lv, st, h) s1 ∧ pm_Ok2 (pc, lv, st, h) s1 := by
  have hlen : len = 1 := by simp only [pm_chk, pm_len, Bool.and_eq_true, Bool.or_eq_true, beq_iff_eq] at hck; omega
  subst hlen
  simp only [pm_do] at hs
  split at hs
  · cases hs
    exact ⟨po_lsub hx hb hd, pk_st O (pk_c (pm_okv_long _ _) (pk_t2 O.2.1))⟩
  · cases hs
theorem pq_land {p : Program} {l : Launch} {e : Env} {R : Room} {s : State} {m : MethodId} {args : Array Value} {below : List Frame} {meth : Method} {c : Code} {Q : State → Prop}
    {D : va_G} {aC : Nat → ClassId} {b : Nat} {sc : pm_Sc} {A : Nat → Prop} {nL nc0 ns0 rk : Nat} {np mc rkOf : Nat → Nat} {cc : ByteArray} {own : String} {ini : Bool} {len : Nat} {res : List Nat} {pc : Nat} {lv : pm_L} {st : List Value} {h : pm_H} {s1 : pm_S}
    (hx : p.tables.exec = Jvm.exec) (hb : c.code = cc) (hml : c.maxLocals = nL) (hown : s.vm.findClass own = some m.cls) (hK : va_K D vwCl (pm_tys aC) s) (hA : ∀ q, s.heap.size ≤ q → A q)
    (hX : va_X b sc.1 sc.2 s s.heap) (hbl : b < s.heap.size) (hbA : ¬ A b) (hus : ∀ (ci : Nat) (q : vw_C), vwCl[ci]? = some q → ∀ w ∈ u_ws q.1 q.2.1 q.2.2, w.before args s = true)
    (hn : ∀ w ∈ pm_need own (.land) res, w.before args s = true) (hnn : ∀ w ∈ pm_needN own (.land) res, w.before args s = true) (hao : ∀ t, 3 ≤ t → t ≤ 6 → va_AO (pm_atag t) s) (hck : pm_chk own ini (.land) len res = true) (hin : ini = true → meth.name = "<init>") (hrf : rk ≤ R.frames) (hrl : 42 * rk ≤ R.locals)
    (hd : decode cc pc = .ok (.land, len)) (hs : pm_do sc nL rk np mc rkOf (.land) res pc lv st h = some (.inl s1)) (O : pm_ok lv st h.1) : pm_Go p l e R s m args below meth c Q D aC b A nL nc0 ns0 (pc, lv, st, h) s1 ∧ pm_Ok2 (pc, lv, st, h) s1 := by
  have hlen : len = 1 := by simp only [pm_chk, pm_len, Bool.and_eq_true, Bool.or_eq_true, beq_iff_eq] at hck; omega
  subst hlen
  simp only [pm_do] at hs
  split at hs
  · cases hs
    exact ⟨po_land hx hb hd, pk_st O (pk_c (pm_okv_long _ _) (pk_t2 O.2.1))⟩
  · cases hs
theorem pq_lor {p : Program} {l : Launch} {e : Env} {R : Room} {s : State} {m : MethodId} {args : Array Value} {below : List Frame} {meth : Method} {c : Code} {Q : State → Prop}
    {D : va_G} {aC : Nat → ClassId} {b : Nat} {sc : pm_Sc} {A : Nat → Prop} {nL nc0 ns0 rk : Nat} {np mc rkOf : Nat → Nat} {cc : ByteArray} {own : String} {ini : Bool} {len : Nat} {res : List Nat} {pc : Nat} {lv : pm_L} {st : List Value} {h : pm_H} {s1 : pm_S}
    (hx : p.tables.exec = Jvm.exec) (hb : c.code = cc) (hml : c.maxLocals = nL) (hown : s.vm.findClass own = some m.cls) (hK : va_K D vwCl (pm_tys aC) s) (hA : ∀ q, s.heap.size ≤ q → A q)
    (hX : va_X b sc.1 sc.2 s s.heap) (hbl : b < s.heap.size) (hbA : ¬ A b) (hus : ∀ (ci : Nat) (q : vw_C), vwCl[ci]? = some q → ∀ w ∈ u_ws q.1 q.2.1 q.2.2, w.before args s = true)
    (hn : ∀ w ∈ pm_need own (.lor) res, w.before args s = true) (hnn : ∀ w ∈ pm_needN own (.lor) res, w.before args s = true) (hao : ∀ t, 3 ≤ t → t ≤ 6 → va_AO (pm_atag t) s) (hck : pm_chk own ini (.lor) len res = true) (hin : ini = true → meth.name = "<init>") (hrf : rk ≤ R.frames) (hrl : 42 * rk ≤ R.locals)
    (hd : decode cc pc = .ok (.lor, len)) (hs : pm_do sc nL rk np mc rkOf (.lor) res pc lv st h = some (.inl s1)) (O : pm_ok lv st h.1) : pm_Go p l e R s m args below meth c Q D aC b A nL nc0 ns0 (pc, lv, st, h) s1 ∧ pm_Ok2 (pc, lv, st, h) s1 := by
  have hlen : len = 1 := by simp only [pm_chk, pm_len, Bool.and_eq_true, Bool.or_eq_true, beq_iff_eq] at hck; omega
  subst hlen
  simp only [pm_do] at hs
  split at hs
  · cases hs
    exact ⟨po_lor hx hb hd, pk_st O (pk_c (pm_okv_long _ _) (pk_t2 O.2.1))⟩
  · cases hs
theorem pq_lshl {p : Program} {l : Launch} {e : Env} {R : Room} {s : State} {m : MethodId} {args : Array Value} {below : List Frame} {meth : Method} {c : Code} {Q : State → Prop}
    {D : va_G} {aC : Nat → ClassId} {b : Nat} {sc : pm_Sc} {A : Nat → Prop} {nL nc0 ns0 rk : Nat} {np mc rkOf : Nat → Nat} {cc : ByteArray} {own : String} {ini : Bool} {len : Nat} {res : List Nat} {pc : Nat} {lv : pm_L} {st : List Value} {h : pm_H} {s1 : pm_S}
    (hx : p.tables.exec = Jvm.exec) (hb : c.code = cc) (hml : c.maxLocals = nL) (hown : s.vm.findClass own = some m.cls) (hK : va_K D vwCl (pm_tys aC) s) (hA : ∀ q, s.heap.size ≤ q → A q)
    (hX : va_X b sc.1 sc.2 s s.heap) (hbl : b < s.heap.size) (hbA : ¬ A b) (hus : ∀ (ci : Nat) (q : vw_C), vwCl[ci]? = some q → ∀ w ∈ u_ws q.1 q.2.1 q.2.2, w.before args s = true)
    (hn : ∀ w ∈ pm_need own (.lshl) res, w.before args s = true) (hnn : ∀ w ∈ pm_needN own (.lshl) res, w.before args s = true) (hao : ∀ t, 3 ≤ t → t ≤ 6 → va_AO (pm_atag t) s) (hck : pm_chk own ini (.lshl) len res = true) (hin : ini = true → meth.name = "<init>") (hrf : rk ≤ R.frames) (hrl : 42 * rk ≤ R.locals)
    (hd : decode cc pc = .ok (.lshl, len)) (hs : pm_do sc nL rk np mc rkOf (.lshl) res pc lv st h = some (.inl s1)) (O : pm_ok lv st h.1) : pm_Go p l e R s m args below meth c Q D aC b A nL nc0 ns0 (pc, lv, st, h) s1 ∧ pm_Ok2 (pc, lv, st, h) s1 := by
  have hlen : len = 1 := by simp only [pm_chk, pm_len, Bool.and_eq_true, Bool.or_eq_true, beq_iff_eq] at hck; omega
  subst hlen
  simp only [pm_do] at hs
  split at hs
  · cases hs
    exact ⟨po_lshl hx hb hd, pk_st O (pk_c (pm_okv_long _ _) (pk_t2 O.2.1))⟩
  · cases hs
theorem pq_lshr {p : Program} {l : Launch} {e : Env} {R : Room} {s : State} {m : MethodId} {args : Array Value} {below : List Frame} {meth : Method} {c : Code} {Q : State → Prop}
    {D : va_G} {aC : Nat → ClassId} {b : Nat} {sc : pm_Sc} {A : Nat → Prop} {nL nc0 ns0 rk : Nat} {np mc rkOf : Nat → Nat} {cc : ByteArray} {own : String} {ini : Bool} {len : Nat} {res : List Nat} {pc : Nat} {lv : pm_L} {st : List Value} {h : pm_H} {s1 : pm_S}
    (hx : p.tables.exec = Jvm.exec) (hb : c.code = cc) (hml : c.maxLocals = nL) (hown : s.vm.findClass own = some m.cls) (hK : va_K D vwCl (pm_tys aC) s) (hA : ∀ q, s.heap.size ≤ q → A q)
    (hX : va_X b sc.1 sc.2 s s.heap) (hbl : b < s.heap.size) (hbA : ¬ A b) (hus : ∀ (ci : Nat) (q : vw_C), vwCl[ci]? = some q → ∀ w ∈ u_ws q.1 q.2.1 q.2.2, w.before args s = true)
    (hn : ∀ w ∈ pm_need own (.lshr) res, w.before args s = true) (hnn : ∀ w ∈ pm_needN own (.lshr) res, w.before args s = true) (hao : ∀ t, 3 ≤ t → t ≤ 6 → va_AO (pm_atag t) s) (hck : pm_chk own ini (.lshr) len res = true) (hin : ini = true → meth.name = "<init>") (hrf : rk ≤ R.frames) (hrl : 42 * rk ≤ R.locals)
    (hd : decode cc pc = .ok (.lshr, len)) (hs : pm_do sc nL rk np mc rkOf (.lshr) res pc lv st h = some (.inl s1)) (O : pm_ok lv st h.1) : pm_Go p l e R s m args below meth c Q D aC b A nL nc0 ns0 (pc, lv, st, h) s1 ∧ pm_Ok2 (pc, lv, st, h) s1 := by
  have hlen : len = 1 := by simp only [pm_chk, pm_len, Bool.and_eq_true, Bool.or_eq_true, beq_iff_eq] at hck; omega
  subst hlen
  simp only [pm_do] at hs
  split at hs
  · cases hs
    exact ⟨po_lshr hx hb hd, pk_st O (pk_c (pm_okv_long _ _) (pk_t2 O.2.1))⟩
  · cases hs
theorem pq_i2l {p : Program} {l : Launch} {e : Env} {R : Room} {s : State} {m : MethodId} {args : Array Value} {below : List Frame} {meth : Method} {c : Code} {Q : State → Prop}
    {D : va_G} {aC : Nat → ClassId} {b : Nat} {sc : pm_Sc} {A : Nat → Prop} {nL nc0 ns0 rk : Nat} {np mc rkOf : Nat → Nat} {cc : ByteArray} {own : String} {ini : Bool} {len : Nat} {res : List Nat} {pc : Nat} {lv : pm_L} {st : List Value} {h : pm_H} {s1 : pm_S}
    (hx : p.tables.exec = Jvm.exec) (hb : c.code = cc) (hml : c.maxLocals = nL) (hown : s.vm.findClass own = some m.cls) (hK : va_K D vwCl (pm_tys aC) s) (hA : ∀ q, s.heap.size ≤ q → A q)
    (hX : va_X b sc.1 sc.2 s s.heap) (hbl : b < s.heap.size) (hbA : ¬ A b) (hus : ∀ (ci : Nat) (q : vw_C), vwCl[ci]? = some q → ∀ w ∈ u_ws q.1 q.2.1 q.2.2, w.before args s = true)
    (hn : ∀ w ∈ pm_need own (.i2l) res, w.before args s = true) (hnn : ∀ w ∈ pm_needN own (.i2l) res, w.before args s = true) (hao : ∀ t, 3 ≤ t → t ≤ 6 → va_AO (pm_atag t) s) (hck : pm_chk own ini (.i2l) len res = true) (hin : ini = true → meth.name = "<init>") (hrf : rk ≤ R.frames) (hrl : 42 * rk ≤ R.locals)
    (hd : decode cc pc = .ok (.i2l, len)) (hs : pm_do sc nL rk np mc rkOf (.i2l) res pc lv st h = some (.inl s1)) (O : pm_ok lv st h.1) : pm_Go p l e R s m args below meth c Q D aC b A nL nc0 ns0 (pc, lv, st, h) s1 ∧ pm_Ok2 (pc, lv, st, h) s1 := by
  have hlen : len = 1 := by simp only [pm_chk, pm_len, Bool.and_eq_true, Bool.or_eq_true, beq_iff_eq] at hck; omega
  subst hlen
  simp only [pm_do] at hs
  split at hs
  · cases hs
    exact ⟨po_i2l hx hb hd, pk_st O (pk_c (pm_okv_long _ _) (pk_t1 O.2.1))⟩
  · cases hs
theorem pq_l2i {p : Program} {l : Launch} {e : Env} {R : Room} {s : State} {m : MethodId} {args : Array Value} {below : List Frame} {meth : Method} {c : Code} {Q : State → Prop}
    {D : va_G} {aC : Nat → ClassId} {b : Nat} {sc : pm_Sc} {A : Nat → Prop} {nL nc0 ns0 rk : Nat} {np mc rkOf : Nat → Nat} {cc : ByteArray} {own : String} {ini : Bool} {len : Nat} {res : List Nat} {pc : Nat} {lv : pm_L} {st : List Value} {h : pm_H} {s1 : pm_S}
    (hx : p.tables.exec = Jvm.exec) (hb : c.code = cc) (hml : c.maxLocals = nL) (hown : s.vm.findClass own = some m.cls) (hK : va_K D vwCl (pm_tys aC) s) (hA : ∀ q, s.heap.size ≤ q → A q)
    (hX : va_X b sc.1 sc.2 s s.heap) (hbl : b < s.heap.size) (hbA : ¬ A b) (hus : ∀ (ci : Nat) (q : vw_C), vwCl[ci]? = some q → ∀ w ∈ u_ws q.1 q.2.1 q.2.2, w.before args s = true)
    (hn : ∀ w ∈ pm_need own (.l2i) res, w.before args s = true) (hnn : ∀ w ∈ pm_needN own (.l2i) res, w.before args s = true) (hao : ∀ t, 3 ≤ t → t ≤ 6 → va_AO (pm_atag t) s) (hck : pm_chk own ini (.l2i) len res = true) (hin : ini = true → meth.name = "<init>") (hrf : rk ≤ R.frames) (hrl : 42 * rk ≤ R.locals)
    (hd : decode cc pc = .ok (.l2i, len)) (hs : pm_do sc nL rk np mc rkOf (.l2i) res pc lv st h = some (.inl s1)) (O : pm_ok lv st h.1) : pm_Go p l e R s m args below meth c Q D aC b A nL nc0 ns0 (pc, lv, st, h) s1 ∧ pm_Ok2 (pc, lv, st, h) s1 := by
  have hlen : len = 1 := by simp only [pm_chk, pm_len, Bool.and_eq_true, Bool.or_eq_true, beq_iff_eq] at hck; omega
  subst hlen
  simp only [pm_do] at hs
  split at hs
  · cases hs
    exact ⟨po_l2i hx hb hd, pk_st O (pk_c (pm_okv_int _ _) (pk_t1 O.2.1))⟩
  · cases hs
theorem pq_lcmp {p : Program} {l : Launch} {e : Env} {R : Room} {s : State} {m : MethodId} {args : Array Value} {below : List Frame} {meth : Method} {c : Code} {Q : State → Prop}
    {D : va_G} {aC : Nat → ClassId} {b : Nat} {sc : pm_Sc} {A : Nat → Prop} {nL nc0 ns0 rk : Nat} {np mc rkOf : Nat → Nat} {cc : ByteArray} {own : String} {ini : Bool} {len : Nat} {res : List Nat} {pc : Nat} {lv : pm_L} {st : List Value} {h : pm_H} {s1 : pm_S}
    (hx : p.tables.exec = Jvm.exec) (hb : c.code = cc) (hml : c.maxLocals = nL) (hown : s.vm.findClass own = some m.cls) (hK : va_K D vwCl (pm_tys aC) s) (hA : ∀ q, s.heap.size ≤ q → A q)
    (hX : va_X b sc.1 sc.2 s s.heap) (hbl : b < s.heap.size) (hbA : ¬ A b) (hus : ∀ (ci : Nat) (q : vw_C), vwCl[ci]? = some q → ∀ w ∈ u_ws q.1 q.2.1 q.2.2, w.before args s = true)
    (hn : ∀ w ∈ pm_need own (.lcmp) res, w.before args s = true) (hnn : ∀ w ∈ pm_needN own (.lcmp) res, w.before args s = true) (hao : ∀ t, 3 ≤ t → t ≤ 6 → va_AO (pm_atag t) s) (hck : pm_chk own ini (.lcmp) len res = true) (hin : ini = true → meth.name = "<init>") (hrf : rk ≤ R.frames) (hrl : 42 * rk ≤ R.locals)
    (hd : decode cc pc = .ok (.lcmp, len)) (hs : pm_do sc nL rk np mc rkOf (.lcmp) res pc lv st h = some (.inl s1)) (O : pm_ok lv st h.1) : pm_Go p l e R s m args below meth c Q D aC b A nL nc0 ns0 (pc, lv, st, h) s1 ∧ pm_Ok2 (pc, lv, st, h) s1 := by
  have hlen : len = 1 := by simp only [pm_chk, pm_len, Bool.and_eq_true, Bool.or_eq_true, beq_iff_eq] at hck; omega
  subst hlen
  simp only [pm_do] at hs
  split at hs
  · cases hs
    exact ⟨po_lcmp hx hb hd, pk_st O (pk_c (pm_okv_int _ _) (pk_t2 O.2.1))⟩
  · cases hs
theorem pq_irem {p : Program} {l : Launch} {e : Env} {R : Room} {s : State} {m : MethodId} {args : Array Value} {below : List Frame} {meth : Method} {c : Code} {Q : State → Prop}
    {D : va_G} {aC : Nat → ClassId} {b : Nat} {sc : pm_Sc} {A : Nat → Prop} {nL nc0 ns0 rk : Nat} {np mc rkOf : Nat → Nat} {cc : ByteArray} {own : String} {ini : Bool} {len : Nat} {res : List Nat} {pc : Nat} {lv : pm_L} {st : List Value} {h : pm_H} {s1 : pm_S}
    (hx : p.tables.exec = Jvm.exec) (hb : c.code = cc) (hml : c.maxLocals = nL) (hown : s.vm.findClass own = some m.cls) (hK : va_K D vwCl (pm_tys aC) s) (hA : ∀ q, s.heap.size ≤ q → A q)
    (hX : va_X b sc.1 sc.2 s s.heap) (hbl : b < s.heap.size) (hbA : ¬ A b) (hus : ∀ (ci : Nat) (q : vw_C), vwCl[ci]? = some q → ∀ w ∈ u_ws q.1 q.2.1 q.2.2, w.before args s = true)
    (hn : ∀ w ∈ pm_need own (.irem) res, w.before args s = true) (hnn : ∀ w ∈ pm_needN own (.irem) res, w.before args s = true) (hao : ∀ t, 3 ≤ t → t ≤ 6 → va_AO (pm_atag t) s) (hck : pm_chk own ini (.irem) len res = true) (hin : ini = true → meth.name = "<init>") (hrf : rk ≤ R.frames) (hrl : 42 * rk ≤ R.locals)
    (hd : decode cc pc = .ok (.irem, len)) (hs : pm_do sc nL rk np mc rkOf (.irem) res pc lv st h = some (.inl s1)) (O : pm_ok lv st h.1) : pm_Go p l e R s m args below meth c Q D aC b A nL nc0 ns0 (pc, lv, st, h) s1 ∧ pm_Ok2 (pc, lv, st, h) s1 := by
  have hlen : len = 1 := by simp only [pm_chk, pm_len, Bool.and_eq_true, Bool.or_eq_true, beq_iff_eq] at hck; omega
  subst hlen
  simp only [pm_do] at hs
  split at hs
  · split at hs
    · cases hs
    · next hne => cases hs; exact ⟨po_irem hx hb hne hd, pk_st O (pk_c (pm_okv_int _ _) (pk_t2 O.2.1))⟩
  · cases hs
theorem pq_ldc_w {p : Program} {l : Launch} {e : Env} {R : Room} {s : State} {m : MethodId} {args : Array Value} {below : List Frame} {meth : Method} {c : Code} {Q : State → Prop}
    {D : va_G} {aC : Nat → ClassId} {b : Nat} {sc : pm_Sc} {A : Nat → Prop} {nL nc0 ns0 rk : Nat} {np mc rkOf : Nat → Nat} {cc : ByteArray} {own : String} {ini : Bool} {i : Nat} {len : Nat} {res : List Nat} {pc : Nat} {lv : pm_L} {st : List Value} {h : pm_H} {s1 : pm_S}
    (hx : p.tables.exec = Jvm.exec) (hb : c.code = cc) (hml : c.maxLocals = nL) (hown : s.vm.findClass own = some m.cls) (hK : va_K D vwCl (pm_tys aC) s) (hA : ∀ q, s.heap.size ≤ q → A q)
    (hX : va_X b sc.1 sc.2 s s.heap) (hbl : b < s.heap.size) (hbA : ¬ A b) (hus : ∀ (ci : Nat) (q : vw_C), vwCl[ci]? = some q → ∀ w ∈ u_ws q.1 q.2.1 q.2.2, w.before args s = true)
    (hn : ∀ w ∈ pm_need own (.ldc_w i) res, w.before args s = true) (hnn : ∀ w ∈ pm_needN own (.ldc_w i) res, w.before args s = true) (hao : ∀ t, 3 ≤ t → t ≤ 6 → va_AO (pm_atag t) s) (hck : pm_chk own ini (.ldc_w i) len res = true) (hin : ini = true → meth.name = "<init>") (hrf : rk ≤ R.frames) (hrl : 42 * rk ≤ R.locals)
    (hd : decode cc pc = .ok (.ldc_w i, len)) (hs : pm_do sc nL rk np mc rkOf (.ldc_w i) res pc lv st h = some (.inl s1)) (O : pm_ok lv st h.1) : pm_Go p l e R s m args below meth c Q D aC b A nL nc0 ns0 (pc, lv, st, h) s1 ∧ pm_Ok2 (pc, lv, st, h) s1 := by
  have hlen : len = 3 := by simp only [pm_chk, pm_len, Bool.and_eq_true, Bool.or_eq_true, beq_iff_eq] at hck; omega
  subst hlen
  simp only [pm_do] at hs
  split at hs
  · cases hs
    exact ⟨po_ldcw hx hb hown (hn _ List.mem_cons_self) hd, pk_st O (pk_c (pm_okv_int _ _) O.2.1)⟩
  · cases hs
theorem pq_ldc2_w {p : Program} {l : Launch} {e : Env} {R : Room} {s : State} {m : MethodId} {args : Array Value} {below : List Frame} {meth : Method} {c : Code} {Q : State → Prop}
    {D : va_G} {aC : Nat → ClassId} {b : Nat} {sc : pm_Sc} {A : Nat → Prop} {nL nc0 ns0 rk : Nat} {np mc rkOf : Nat → Nat} {cc : ByteArray} {own : String} {ini : Bool} {i : Nat} {len : Nat} {res : List Nat} {pc : Nat} {lv : pm_L} {st : List Value} {h : pm_H} {s1 : pm_S}
    (hx : p.tables.exec = Jvm.exec) (hb : c.code = cc) (hml : c.maxLocals = nL) (hown : s.vm.findClass own = some m.cls) (hK : va_K D vwCl (pm_tys aC) s) (hA : ∀ q, s.heap.size ≤ q → A q)
    (hX : va_X b sc.1 sc.2 s s.heap) (hbl : b < s.heap.size) (hbA : ¬ A b) (hus : ∀ (ci : Nat) (q : vw_C), vwCl[ci]? = some q → ∀ w ∈ u_ws q.1 q.2.1 q.2.2, w.before args s = true)
    (hn : ∀ w ∈ pm_need own (.ldc2_w i) res, w.before args s = true) (hnn : ∀ w ∈ pm_needN own (.ldc2_w i) res, w.before args s = true) (hao : ∀ t, 3 ≤ t → t ≤ 6 → va_AO (pm_atag t) s) (hck : pm_chk own ini (.ldc2_w i) len res = true) (hin : ini = true → meth.name = "<init>") (hrf : rk ≤ R.frames) (hrl : 42 * rk ≤ R.locals)
    (hd : decode cc pc = .ok (.ldc2_w i, len)) (hs : pm_do sc nL rk np mc rkOf (.ldc2_w i) res pc lv st h = some (.inl s1)) (O : pm_ok lv st h.1) : pm_Go p l e R s m args below meth c Q D aC b A nL nc0 ns0 (pc, lv, st, h) s1 ∧ pm_Ok2 (pc, lv, st, h) s1 := by
  have hlen : len = 3 := by simp only [pm_chk, pm_len, Bool.and_eq_true, Bool.or_eq_true, beq_iff_eq] at hck; omega
  subst hlen
  simp only [pm_do] at hs
  split at hs
  · cases hs
    exact ⟨po_ldc2 hx hb hown (hn _ List.mem_cons_self) hd, pk_st O (pk_c (pm_okv_long _ _) O.2.1)⟩
  · cases hs
theorem pq_iload_n {p : Program} {l : Launch} {e : Env} {R : Room} {s : State} {m : MethodId} {args : Array Value} {below : List Frame} {meth : Method} {c : Code} {Q : State → Prop}
    {D : va_G} {aC : Nat → ClassId} {b : Nat} {sc : pm_Sc} {A : Nat → Prop} {nL nc0 ns0 rk : Nat} {np mc rkOf : Nat → Nat} {cc : ByteArray} {own : String} {ini : Bool} {k : Fin 4} {len : Nat} {res : List Nat} {pc : Nat} {lv : pm_L} {st : List Value} {h : pm_H} {s1 : pm_S}
    (hx : p.tables.exec = Jvm.exec) (hb : c.code = cc) (hml : c.maxLocals = nL) (hown : s.vm.findClass own = some m.cls) (hK : va_K D vwCl (pm_tys aC) s) (hA : ∀ q, s.heap.size ≤ q → A q)
    (hX : va_X b sc.1 sc.2 s s.heap) (hbl : b < s.heap.size) (hbA : ¬ A b) (hus : ∀ (ci : Nat) (q : vw_C), vwCl[ci]? = some q → ∀ w ∈ u_ws q.1 q.2.1 q.2.2, w.before args s = true)
    (hn : ∀ w ∈ pm_need own (.iload_n k) res, w.before args s = true) (hnn : ∀ w ∈ pm_needN own (.iload_n k) res, w.before args s = true) (hao : ∀ t, 3 ≤ t → t ≤ 6 → va_AO (pm_atag t) s) (hck : pm_chk own ini (.iload_n k) len res = true) (hin : ini = true → meth.name = "<init>") (hrf : rk ≤ R.frames) (hrl : 42 * rk ≤ R.locals)
    (hd : decode cc pc = .ok (.iload_n k, len)) (hs : pm_do sc nL rk np mc rkOf (.iload_n k) res pc lv st h = some (.inl s1)) (O : pm_ok lv st h.1) : pm_Go p l e R s m args below meth c Q D aC b A nL nc0 ns0 (pc, lv, st, h) s1 ∧ pm_Ok2 (pc, lv, st, h) s1 := by
  have hlen : len = 1 := by simp only [pm_chk, pm_len, Bool.and_eq_true, Bool.or_eq_true, beq_iff_eq] at hck; omega
  subst hlen
  simp only [pm_do] at hs
  split at hs
  · next x hl => cases hs; exact ⟨po_iload_n hx hb hl hd, pk_st O (pk_c (pm_okv_int _ _) O.2.1)⟩
  · cases hs
theorem pq_iload {p : Program} {l : Launch} {e : Env} {R : Room} {s : State} {m : MethodId} {args : Array Value} {below : List Frame} {meth : Method} {c : Code} {Q : State → Prop}
    {D : va_G} {aC : Nat → ClassId} {b : Nat} {sc : pm_Sc} {A : Nat → Prop} {nL nc0 ns0 rk : Nat} {np mc rkOf : Nat → Nat} {cc : ByteArray} {own : String} {ini : Bool} {k : Nat} {len : Nat} {res : List Nat} {pc : Nat} {lv : pm_L} {st : List Value} {h : pm_H} {s1 : pm_S}
    (hx : p.tables.exec = Jvm.exec) (hb : c.code = cc) (hml : c.maxLocals = nL) (hown : s.vm.findClass own = some m.cls) (hK : va_K D vwCl (pm_tys aC) s) (hA : ∀ q, s.heap.size ≤ q → A q)
    (hX : va_X b sc.1 sc.2 s s.heap) (hbl : b < s.heap.size) (hbA : ¬ A b) (hus : ∀ (ci : Nat) (q : vw_C), vwCl[ci]? = some q → ∀ w ∈ u_ws q.1 q.2.1 q.2.2, w.before args s = true)
    (hn : ∀ w ∈ pm_need own (.iload k) res, w.before args s = true) (hnn : ∀ w ∈ pm_needN own (.iload k) res, w.before args s = true) (hao : ∀ t, 3 ≤ t → t ≤ 6 → va_AO (pm_atag t) s) (hck : pm_chk own ini (.iload k) len res = true) (hin : ini = true → meth.name = "<init>") (hrf : rk ≤ R.frames) (hrl : 42 * rk ≤ R.locals)
    (hd : decode cc pc = .ok (.iload k, len)) (hs : pm_do sc nL rk np mc rkOf (.iload k) res pc lv st h = some (.inl s1)) (O : pm_ok lv st h.1) : pm_Go p l e R s m args below meth c Q D aC b A nL nc0 ns0 (pc, lv, st, h) s1 ∧ pm_Ok2 (pc, lv, st, h) s1 := by
  have hlen : len = 2 := by simp only [pm_chk, pm_len, Bool.and_eq_true, Bool.or_eq_true, beq_iff_eq] at hck; omega
  subst hlen
  simp only [pm_do] at hs
  split at hs
  · next x hl => cases hs; exact ⟨po_iload hx hb hl hd, pk_st O (pk_c (pm_okv_int _ _) O.2.1)⟩
  · cases hs
theorem pq_lload_n {p : Program} {l : Launch} {e : Env} {R : Room} {s : State} {m : MethodId} {args : Array Value} {below : List Frame} {meth : Method} {c : Code} {Q : State → Prop}
    {D : va_G} {aC : Nat → ClassId} {b : Nat} {sc : pm_Sc} {A : Nat → Prop} {nL nc0 ns0 rk : Nat} {np mc rkOf : Nat → Nat} {cc : ByteArray} {own : String} {ini : Bool} {k : Fin 4} {len : Nat} {res : List Nat} {pc : Nat} {lv : pm_L} {st : List Value} {h : pm_H} {s1 : pm_S}
    (hx : p.tables.exec = Jvm.exec) (hb : c.code = cc) (hml : c.maxLocals = nL) (hown : s.vm.findClass own = some m.cls) (hK : va_K D vwCl (pm_tys aC) s) (hA : ∀ q, s.heap.size ≤ q → A q)
    (hX : va_X b sc.1 sc.2 s s.heap) (hbl : b < s.heap.size) (hbA : ¬ A b) (hus : ∀ (ci : Nat) (q : vw_C), vwCl[ci]? = some q → ∀ w ∈ u_ws q.1 q.2.1 q.2.2, w.before args s = true)
    (hn : ∀ w ∈ pm_need own (.lload_n k) res, w.before args s = true) (hnn : ∀ w ∈ pm_needN own (.lload_n k) res, w.before args s = true) (hao : ∀ t, 3 ≤ t → t ≤ 6 → va_AO (pm_atag t) s) (hck : pm_chk own ini (.lload_n k) len res = true) (hin : ini = true → meth.name = "<init>") (hrf : rk ≤ R.frames) (hrl : 42 * rk ≤ R.locals)
    (hd : decode cc pc = .ok (.lload_n k, len)) (hs : pm_do sc nL rk np mc rkOf (.lload_n k) res pc lv st h = some (.inl s1)) (O : pm_ok lv st h.1) : pm_Go p l e R s m args below meth c Q D aC b A nL nc0 ns0 (pc, lv, st, h) s1 ∧ pm_Ok2 (pc, lv, st, h) s1 := by
  have hlen : len = 1 := by simp only [pm_chk, pm_len, Bool.and_eq_true, Bool.or_eq_true, beq_iff_eq] at hck; omega
  subst hlen
  simp only [pm_do] at hs
  split at hs
  · next x hl => cases hs; exact ⟨po_lload_n hx hb hl hd, pk_st O (pk_c (pm_okv_long _ _) O.2.1)⟩
  · cases hs
theorem pq_lload {p : Program} {l : Launch} {e : Env} {R : Room} {s : State} {m : MethodId} {args : Array Value} {below : List Frame} {meth : Method} {c : Code} {Q : State → Prop}
    {D : va_G} {aC : Nat → ClassId} {b : Nat} {sc : pm_Sc} {A : Nat → Prop} {nL nc0 ns0 rk : Nat} {np mc rkOf : Nat → Nat} {cc : ByteArray} {own : String} {ini : Bool} {k : Nat} {len : Nat} {res : List Nat} {pc : Nat} {lv : pm_L} {st : List Value} {h : pm_H} {s1 : pm_S}
    (hx : p.tables.exec = Jvm.exec) (hb : c.code = cc) (hml : c.maxLocals = nL) (hown : s.vm.findClass own = some m.cls) (hK : va_K D vwCl (pm_tys aC) s) (hA : ∀ q, s.heap.size ≤ q → A q)
    (hX : va_X b sc.1 sc.2 s s.heap) (hbl : b < s.heap.size) (hbA : ¬ A b) (hus : ∀ (ci : Nat) (q : vw_C), vwCl[ci]? = some q → ∀ w ∈ u_ws q.1 q.2.1 q.2.2, w.before args s = true)
    (hn : ∀ w ∈ pm_need own (.lload k) res, w.before args s = true) (hnn : ∀ w ∈ pm_needN own (.lload k) res, w.before args s = true) (hao : ∀ t, 3 ≤ t → t ≤ 6 → va_AO (pm_atag t) s) (hck : pm_chk own ini (.lload k) len res = true) (hin : ini = true → meth.name = "<init>") (hrf : rk ≤ R.frames) (hrl : 42 * rk ≤ R.locals)
    (hd : decode cc pc = .ok (.lload k, len)) (hs : pm_do sc nL rk np mc rkOf (.lload k) res pc lv st h = some (.inl s1)) (O : pm_ok lv st h.1) : pm_Go p l e R s m args below meth c Q D aC b A nL nc0 ns0 (pc, lv, st, h) s1 ∧ pm_Ok2 (pc, lv, st, h) s1 := by
  have hlen : len = 2 := by simp only [pm_chk, pm_len, Bool.and_eq_true, Bool.or_eq_true, beq_iff_eq] at hck; omega
  subst hlen
  simp only [pm_do] at hs
  split at hs
  · next x hl => cases hs; exact ⟨po_lload hx hb hl hd, pk_st O (pk_c (pm_okv_long _ _) O.2.1)⟩
  · cases hs
theorem pq_aload_n {p : Program} {l : Launch} {e : Env} {R : Room} {s : State} {m : MethodId} {args : Array Value} {below : List Frame} {meth : Method} {c : Code} {Q : State → Prop}
    {D : va_G} {aC : Nat → ClassId} {b : Nat} {sc : pm_Sc} {A : Nat → Prop} {nL nc0 ns0 rk : Nat} {np mc rkOf : Nat → Nat} {cc : ByteArray} {own : String} {ini : Bool} {k : Fin 4} {len : Nat} {res : List Nat} {pc : Nat} {lv : pm_L} {st : List Value} {h : pm_H} {s1 : pm_S}
    (hx : p.tables.exec = Jvm.exec) (hb : c.code = cc) (hml : c.maxLocals = nL) (hown : s.vm.findClass own = some m.cls) (hK : va_K D vwCl (pm_tys aC) s) (hA : ∀ q, s.heap.size ≤ q → A q)
    (hX : va_X b sc.1 sc.2 s s.heap) (hbl : b < s.heap.size) (hbA : ¬ A b) (hus : ∀ (ci : Nat) (q : vw_C), vwCl[ci]? = some q → ∀ w ∈ u_ws q.1 q.2.1 q.2.2, w.before args s = true)
    (hn : ∀ w ∈ pm_need own (.aload_n k) res, w.before args s = true) (hnn : ∀ w ∈ pm_needN own (.aload_n k) res, w.before args s = true) (hao : ∀ t, 3 ≤ t → t ≤ 6 → va_AO (pm_atag t) s) (hck : pm_chk own ini (.aload_n k) len res = true) (hin : ini = true → meth.name = "<init>") (hrf : rk ≤ R.frames) (hrl : 42 * rk ≤ R.locals)
    (hd : decode cc pc = .ok (.aload_n k, len)) (hs : pm_do sc nL rk np mc rkOf (.aload_n k) res pc lv st h = some (.inl s1)) (O : pm_ok lv st h.1) : pm_Go p l e R s m args below meth c Q D aC b A nL nc0 ns0 (pc, lv, st, h) s1 ∧ pm_Ok2 (pc, lv, st, h) s1 := by
  have hlen : len = 1 := by simp only [pm_chk, pm_len, Bool.and_eq_true, Bool.or_eq_true, beq_iff_eq] at hck; omega
  subst hlen
  simp only [pm_do] at hs
  split at hs
  · next x hl => cases hs; exact ⟨po_aload_n hx hb hl hd, pk_st O (pk_c (O.1 _ (pm_ld_mem hl)) O.2.1)⟩
  · next hl => cases hs; exact ⟨po_aload_nN hx hb hl hd, pk_st O (pk_c (pm_okv_null _) O.2.1)⟩
  · next x hl => cases hs; exact ⟨po_aload_nS hx hb hl hd, pk_st O (pk_c (pm_okv_ra _ _) O.2.1)⟩
  · cases hs
theorem pq_aload {p : Program} {l : Launch} {e : Env} {R : Room} {s : State} {m : MethodId} {args : Array Value} {below : List Frame} {meth : Method} {c : Code} {Q : State → Prop}
    {D : va_G} {aC : Nat → ClassId} {b : Nat} {sc : pm_Sc} {A : Nat → Prop} {nL nc0 ns0 rk : Nat} {np mc rkOf : Nat → Nat} {cc : ByteArray} {own : String} {ini : Bool} {k : Nat} {len : Nat} {res : List Nat} {pc : Nat} {lv : pm_L} {st : List Value} {h : pm_H} {s1 : pm_S}
    (hx : p.tables.exec = Jvm.exec) (hb : c.code = cc) (hml : c.maxLocals = nL) (hown : s.vm.findClass own = some m.cls) (hK : va_K D vwCl (pm_tys aC) s) (hA : ∀ q, s.heap.size ≤ q → A q)
    (hX : va_X b sc.1 sc.2 s s.heap) (hbl : b < s.heap.size) (hbA : ¬ A b) (hus : ∀ (ci : Nat) (q : vw_C), vwCl[ci]? = some q → ∀ w ∈ u_ws q.1 q.2.1 q.2.2, w.before args s = true)
    (hn : ∀ w ∈ pm_need own (.aload k) res, w.before args s = true) (hnn : ∀ w ∈ pm_needN own (.aload k) res, w.before args s = true) (hao : ∀ t, 3 ≤ t → t ≤ 6 → va_AO (pm_atag t) s) (hck : pm_chk own ini (.aload k) len res = true) (hin : ini = true → meth.name = "<init>") (hrf : rk ≤ R.frames) (hrl : 42 * rk ≤ R.locals)
    (hd : decode cc pc = .ok (.aload k, len)) (hs : pm_do sc nL rk np mc rkOf (.aload k) res pc lv st h = some (.inl s1)) (O : pm_ok lv st h.1) : pm_Go p l e R s m args below meth c Q D aC b A nL nc0 ns0 (pc, lv, st, h) s1 ∧ pm_Ok2 (pc, lv, st, h) s1 := by
  have hlen : len = 2 := by simp only [pm_chk, pm_len, Bool.and_eq_true, Bool.or_eq_true, beq_iff_eq] at hck; omega
  subst hlen
  simp only [pm_do] at hs
  split at hs
  · next x hl => cases hs; exact ⟨po_aload hx hb hl hd, pk_st O (pk_c (O.1 _ (pm_ld_mem hl)) O.2.1)⟩
  · next hl => cases hs; exact ⟨po_aloadN hx hb hl hd, pk_st O (pk_c (pm_okv_null _) O.2.1)⟩
  · next x hl => cases hs; exact ⟨po_aloadS hx hb hl hd, pk_st O (pk_c (pm_okv_ra _ _) O.2.1)⟩
  · cases hs
theorem pq_istore_n {p : Program} {l : Launch} {e : Env} {R : Room} {s : State} {m : MethodId} {args : Array Value} {below : List Frame} {meth : Method} {c : Code} {Q : State → Prop}
    {D : va_G} {aC : Nat → ClassId} {b : Nat} {sc : pm_Sc} {A : Nat → Prop} {nL nc0 ns0 rk : Nat} {np mc rkOf : Nat → Nat} {cc : ByteArray} {own : String} {ini : Bool} {k : Fin 4} {len : Nat} {res : List Nat} {pc : Nat} {lv : pm_L} {st : List Value} {h : pm_H} {s1 : pm_S}
    (hx : p.tables.exec = Jvm.exec) (hb : c.code = cc) (hml : c.maxLocals = nL) (hown : s.vm.findClass own = some m.cls) (hK : va_K D vwCl (pm_tys aC) s) (hA : ∀ q, s.heap.size ≤ q → A q)
    (hX : va_X b sc.1 sc.2 s s.heap) (hbl : b < s.heap.size) (hbA : ¬ A b) (hus : ∀ (ci : Nat) (q : vw_C), vwCl[ci]? = some q → ∀ w ∈ u_ws q.1 q.2.1 q.2.2, w.before args s = true)
    (hn : ∀ w ∈ pm_need own (.istore_n k) res, w.before args s = true) (hnn : ∀ w ∈ pm_needN own (.istore_n k) res, w.before args s = true) (hao : ∀ t, 3 ≤ t → t ≤ 6 → va_AO (pm_atag t) s) (hck : pm_chk own ini (.istore_n k) len res = true) (hin : ini = true → meth.name = "<init>") (hrf : rk ≤ R.frames) (hrl : 42 * rk ≤ R.locals)
    (hd : decode cc pc = .ok (.istore_n k, len)) (hs : pm_do sc nL rk np mc rkOf (.istore_n k) res pc lv st h = some (.inl s1)) (O : pm_ok lv st h.1) : pm_Go p l e R s m args below meth c Q D aC b A nL nc0 ns0 (pc, lv, st, h) s1 ∧ pm_Ok2 (pc, lv, st, h) s1 := by
  have hlen : len = 1 := by simp only [pm_chk, pm_len, Bool.and_eq_true, Bool.or_eq_true, beq_iff_eq] at hck; omega
  subst hlen
  simp only [pm_do] at hs
  split at hs
  · split at hs
    · next hk => cases hs; exact ⟨po_istore_n hx hb hd hk, pk_lv O (pm_s1_ok O.1 (pm_okv_int _ _)) (pk_t1 O.2.1)⟩
    · cases hs
  · cases hs
theorem pq_istore {p : Program} {l : Launch} {e : Env} {R : Room} {s : State} {m : MethodId} {args : Array Value} {below : List Frame} {meth : Method} {c : Code} {Q : State → Prop}
    {D : va_G} {aC : Nat → ClassId} {b : Nat} {sc : pm_Sc} {A : Nat → Prop} {nL nc0 ns0 rk : Nat} {np mc rkOf : Nat → Nat} {cc : ByteArray} {own : String} {ini : Bool} {k : Nat} {len : Nat} {res : List Nat} {pc : Nat} {lv : pm_L} {st : List Value} {h : pm_H} {s1 : pm_S}
    (hx : p.tables.exec = Jvm.exec) (hb : c.code = cc) (hml : c.maxLocals = nL) (hown : s.vm.findClass own = some m.cls) (hK : va_K D vwCl (pm_tys aC) s) (hA : ∀ q, s.heap.size ≤ q → A q)
    (hX : va_X b sc.1 sc.2 s s.heap) (hbl : b < s.heap.size) (hbA : ¬ A b) (hus : ∀ (ci : Nat) (q : vw_C), vwCl[ci]? = some q → ∀ w ∈ u_ws q.1 q.2.1 q.2.2, w.before args s = true)
    (hn : ∀ w ∈ pm_need own (.istore k) res, w.before args s = true) (hnn : ∀ w ∈ pm_needN own (.istore k) res, w.before args s = true) (hao : ∀ t, 3 ≤ t → t ≤ 6 → va_AO (pm_atag t) s) (hck : pm_chk own ini (.istore k) len res = true) (hin : ini = true → meth.name = "<init>") (hrf : rk ≤ R.frames) (hrl : 42 * rk ≤ R.locals)
    (hd : decode cc pc = .ok (.istore k, len)) (hs : pm_do sc nL rk np mc rkOf (.istore k) res pc lv st h = some (.inl s1)) (O : pm_ok lv st h.1) : pm_Go p l e R s m args below meth c Q D aC b A nL nc0 ns0 (pc, lv, st, h) s1 ∧ pm_Ok2 (pc, lv, st, h) s1 := by
  have hlen : len = 2 := by simp only [pm_chk, pm_len, Bool.and_eq_true, Bool.or_eq_true, beq_iff_eq] at hck; omega
  subst hlen
  simp only [pm_do] at hs
  split at hs
  · split at hs
    · next hk => cases hs; exact ⟨po_istore hx hb hd hk, pk_lv O (pm_s1_ok O.1 (pm_okv_int _ _)) (pk_t1 O.2.1)⟩
    · cases hs
  · cases hs
theorem pq_lstore_n {p : Program} {l : Launch} {e : Env} {R : Room} {s : State} {m : MethodId} {args : Array Value} {below : List Frame} {meth : Method} {c : Code} {Q : State → Prop}
    {D : va_G} {aC : Nat → ClassId} {b : Nat} {sc : pm_Sc} {A : Nat → Prop} {nL nc0 ns0 rk : Nat} {np mc rkOf : Nat → Nat} {cc : ByteArray} {own : String} {ini : Bool} {k : Fin 4} {len : Nat} {res : List Nat} {pc : Nat} {lv : pm_L} {st : List Value} {h : pm_H} {s1 : pm_S}
    (hx : p.tables.exec = Jvm.exec) (hb : c.code = cc) (hml : c.maxLocals = nL) (hown : s.vm.findClass own = some m.cls) (hK : va_K D vwCl (pm_tys aC) s) (hA : ∀ q, s.heap.size ≤ q → A q)
    (hX : va_X b sc.1 sc.2 s s.heap) (hbl : b < s.heap.size) (hbA : ¬ A b) (hus : ∀ (ci : Nat) (q : vw_C), vwCl[ci]? = some q → ∀ w ∈ u_ws q.1 q.2.1 q.2.2, w.before args s = true)
    (hn : ∀ w ∈ pm_need own (.lstore_n k) res, w.before args s = true) (hnn : ∀ w ∈ pm_needN own (.lstore_n k) res, w.before args s = true) (hao : ∀ t, 3 ≤ t → t ≤ 6 → va_AO (pm_atag t) s) (hck : pm_chk own ini (.lstore_n k) len res = true) (hin : ini = true → meth.name = "<init>") (hrf : rk ≤ R.frames) (hrl : 42 * rk ≤ R.locals)
    (hd : decode cc pc = .ok (.lstore_n k, len)) (hs : pm_do sc nL rk np mc rkOf (.lstore_n k) res pc lv st h = some (.inl s1)) (O : pm_ok lv st h.1) : pm_Go p l e R s m args below meth c Q D aC b A nL nc0 ns0 (pc, lv, st, h) s1 ∧ pm_Ok2 (pc, lv, st, h) s1 := by
  have hlen : len = 1 := by simp only [pm_chk, pm_len, Bool.and_eq_true, Bool.or_eq_true, beq_iff_eq] at hck; omega
  subst hlen
  simp only [pm_do] at hs
  split at hs
  · split at hs
    · next hk => cases hs; exact ⟨po_lstore_n hx hb hd hk, pk_lv O (pm_s2_ok O.1 (pm_okv_long _ _)) (pk_t1 O.2.1)⟩
    · cases hs
  · cases hs
theorem pq_lstore {p : Program} {l : Launch} {e : Env} {R : Room} {s : State} {m : MethodId} {args : Array Value} {below : List Frame} {meth : Method} {c : Code} {Q : State → Prop}
    {D : va_G} {aC : Nat → ClassId} {b : Nat} {sc : pm_Sc} {A : Nat → Prop} {nL nc0 ns0 rk : Nat} {np mc rkOf : Nat → Nat} {cc : ByteArray} {own : String} {ini : Bool} {k : Nat} {len : Nat} {res : List Nat} {pc : Nat} {lv : pm_L} {st : List Value} {h : pm_H} {s1 : pm_S}
    (hx : p.tables.exec = Jvm.exec) (hb : c.code = cc) (hml : c.maxLocals = nL) (hown : s.vm.findClass own = some m.cls) (hK : va_K D vwCl (pm_tys aC) s) (hA : ∀ q, s.heap.size ≤ q → A q)
    (hX : va_X b sc.1 sc.2 s s.heap) (hbl : b < s.heap.size) (hbA : ¬ A b) (hus : ∀ (ci : Nat) (q : vw_C), vwCl[ci]? = some q → ∀ w ∈ u_ws q.1 q.2.1 q.2.2, w.before args s = true)
    (hn : ∀ w ∈ pm_need own (.lstore k) res, w.before args s = true) (hnn : ∀ w ∈ pm_needN own (.lstore k) res, w.before args s = true) (hao : ∀ t, 3 ≤ t → t ≤ 6 → va_AO (pm_atag t) s) (hck : pm_chk own ini (.lstore k) len res = true) (hin : ini = true → meth.name = "<init>") (hrf : rk ≤ R.frames) (hrl : 42 * rk ≤ R.locals)
    (hd : decode cc pc = .ok (.lstore k, len)) (hs : pm_do sc nL rk np mc rkOf (.lstore k) res pc lv st h = some (.inl s1)) (O : pm_ok lv st h.1) : pm_Go p l e R s m args below meth c Q D aC b A nL nc0 ns0 (pc, lv, st, h) s1 ∧ pm_Ok2 (pc, lv, st, h) s1 := by
  have hlen : len = 2 := by simp only [pm_chk, pm_len, Bool.and_eq_true, Bool.or_eq_true, beq_iff_eq] at hck; omega
  subst hlen
  simp only [pm_do] at hs
  split at hs
  · split at hs
    · next hk => cases hs; exact ⟨po_lstore hx hb hd hk, pk_lv O (pm_s2_ok O.1 (pm_okv_long _ _)) (pk_t1 O.2.1)⟩
    · cases hs
  · cases hs
theorem pq_astore_n {p : Program} {l : Launch} {e : Env} {R : Room} {s : State} {m : MethodId} {args : Array Value} {below : List Frame} {meth : Method} {c : Code} {Q : State → Prop}
    {D : va_G} {aC : Nat → ClassId} {b : Nat} {sc : pm_Sc} {A : Nat → Prop} {nL nc0 ns0 rk : Nat} {np mc rkOf : Nat → Nat} {cc : ByteArray} {own : String} {ini : Bool} {k : Fin 4} {len : Nat} {res : List Nat} {pc : Nat} {lv : pm_L} {st : List Value} {h : pm_H} {s1 : pm_S}
    (hx : p.tables.exec = Jvm.exec) (hb : c.code = cc) (hml : c.maxLocals = nL) (hown : s.vm.findClass own = some m.cls) (hK : va_K D vwCl (pm_tys aC) s) (hA : ∀ q, s.heap.size ≤ q → A q)
    (hX : va_X b sc.1 sc.2 s s.heap) (hbl : b < s.heap.size) (hbA : ¬ A b) (hus : ∀ (ci : Nat) (q : vw_C), vwCl[ci]? = some q → ∀ w ∈ u_ws q.1 q.2.1 q.2.2, w.before args s = true)
    (hn : ∀ w ∈ pm_need own (.astore_n k) res, w.before args s = true) (hnn : ∀ w ∈ pm_needN own (.astore_n k) res, w.before args s = true) (hao : ∀ t, 3 ≤ t → t ≤ 6 → va_AO (pm_atag t) s) (hck : pm_chk own ini (.astore_n k) len res = true) (hin : ini = true → meth.name = "<init>") (hrf : rk ≤ R.frames) (hrl : 42 * rk ≤ R.locals)
    (hd : decode cc pc = .ok (.astore_n k, len)) (hs : pm_do sc nL rk np mc rkOf (.astore_n k) res pc lv st h = some (.inl s1)) (O : pm_ok lv st h.1) : pm_Go p l e R s m args below meth c Q D aC b A nL nc0 ns0 (pc, lv, st, h) s1 ∧ pm_Ok2 (pc, lv, st, h) s1 := by
  have hlen : len = 1 := by simp only [pm_chk, pm_len, Bool.and_eq_true, Bool.or_eq_true, beq_iff_eq] at hck; omega
  subst hlen
  simp only [pm_do] at hs
  split at hs
  · split at hs
    · next hk => cases hs; exact ⟨po_astore_n hx hb hd hk, pk_lv O (pm_s1_ok O.1 (pk_h O.2.1)) (pk_t1 O.2.1)⟩
    · cases hs
  · split at hs
    · next hk => cases hs; exact ⟨po_astore_nN hx hb hd hk, pk_lv O (pm_s1_ok O.1 (pm_okv_null _)) (pk_t1 O.2.1)⟩
    · cases hs
  · cases hs
theorem pq_astore {p : Program} {l : Launch} {e : Env} {R : Room} {s : State} {m : MethodId} {args : Array Value} {below : List Frame} {meth : Method} {c : Code} {Q : State → Prop}
    {D : va_G} {aC : Nat → ClassId} {b : Nat} {sc : pm_Sc} {A : Nat → Prop} {nL nc0 ns0 rk : Nat} {np mc rkOf : Nat → Nat} {cc : ByteArray} {own : String} {ini : Bool} {k : Nat} {len : Nat} {res : List Nat} {pc : Nat} {lv : pm_L} {st : List Value} {h : pm_H} {s1 : pm_S}
    (hx : p.tables.exec = Jvm.exec) (hb : c.code = cc) (hml : c.maxLocals = nL) (hown : s.vm.findClass own = some m.cls) (hK : va_K D vwCl (pm_tys aC) s) (hA : ∀ q, s.heap.size ≤ q → A q)
    (hX : va_X b sc.1 sc.2 s s.heap) (hbl : b < s.heap.size) (hbA : ¬ A b) (hus : ∀ (ci : Nat) (q : vw_C), vwCl[ci]? = some q → ∀ w ∈ u_ws q.1 q.2.1 q.2.2, w.before args s = true)
    (hn : ∀ w ∈ pm_need own (.astore k) res, w.before args s = true) (hnn : ∀ w ∈ pm_needN own (.astore k) res, w.before args s = true) (hao : ∀ t, 3 ≤ t → t ≤ 6 → va_AO (pm_atag t) s) (hck : pm_chk own ini (.astore k) len res = true) (hin : ini = true → meth.name = "<init>") (hrf : rk ≤ R.frames) (hrl : 42 * rk ≤ R.locals)
    (hd : decode cc pc = .ok (.astore k, len)) (hs : pm_do sc nL rk np mc rkOf (.astore k) res pc lv st h = some (.inl s1)) (O : pm_ok lv st h.1) : pm_Go p l e R s m args below meth c Q D aC b A nL nc0 ns0 (pc, lv, st, h) s1 ∧ pm_Ok2 (pc, lv, st, h) s1 := by
  have hlen : len = 2 := by simp only [pm_chk, pm_len, Bool.and_eq_true, Bool.or_eq_true, beq_iff_eq] at hck; omega
  subst hlen
  simp only [pm_do] at hs
  split at hs
  · split at hs
    · next hk => cases hs; exact ⟨po_astore hx hb hd hk, pk_lv O (pm_s1_ok O.1 (pk_h O.2.1)) (pk_t1 O.2.1)⟩
    · cases hs
  · split at hs
    · next hk => cases hs; exact ⟨po_astoreN hx hb hd hk, pk_lv O (pm_s1_ok O.1 (pm_okv_null _)) (pk_t1 O.2.1)⟩
    · cases hs
  · cases hs
theorem pq_iinc {p : Program} {l : Launch} {e : Env} {R : Room} {s : State} {m : MethodId} {args : Array Value} {below : List Frame} {meth : Method} {c : Code} {Q : State → Prop}
    {D : va_G} {aC : Nat → ClassId} {b : Nat} {sc : pm_Sc} {A : Nat → Prop} {nL nc0 ns0 rk : Nat} {np mc rkOf : Nat → Nat} {cc : ByteArray} {own : String} {ini : Bool} {k : Nat} {n : Int} {len : Nat} {res : List Nat} {pc : Nat} {lv : pm_L} {st : List Value} {h : pm_H} {s1 : pm_S}
    (hx : p.tables.exec = Jvm.exec) (hb : c.code = cc) (hml : c.maxLocals = nL) (hown : s.vm.findClass own = some m.cls) (hK : va_K D vwCl (pm_tys aC) s) (hA : ∀ q, s.heap.size ≤ q → A q)
    (hX : va_X b sc.1 sc.2 s s.heap) (hbl : b < s.heap.size) (hbA : ¬ A b) (hus : ∀ (ci : Nat) (q : vw_C), vwCl[ci]? = some q → ∀ w ∈ u_ws q.1 q.2.1 q.2.2, w.before args s = true)
    (hn : ∀ w ∈ pm_need own (.iinc k n) res, w.before args s = true) (hnn : ∀ w ∈ pm_needN own (.iinc k n) res, w.before args s = true) (hao : ∀ t, 3 ≤ t → t ≤ 6 → va_AO (pm_atag t) s) (hck : pm_chk own ini (.iinc k n) len res = true) (hin : ini = true → meth.name = "<init>") (hrf : rk ≤ R.frames) (hrl : 42 * rk ≤ R.locals)
    (hd : decode cc pc = .ok (.iinc k n, len)) (hs : pm_do sc nL rk np mc rkOf (.iinc k n) res pc lv st h = some (.inl s1)) (O : pm_ok lv st h.1) : pm_Go p l e R s m args below meth c Q D aC b A nL nc0 ns0 (pc, lv, st, h) s1 ∧ pm_Ok2 (pc, lv, st, h) s1 := by
  have hlen : len = 3 := by simp only [pm_chk, pm_len, Bool.and_eq_true, Bool.or_eq_true, beq_iff_eq] at hck; omega
  subst hlen
  simp only [pm_do] at hs
  split at hs
  · next x hl =>
    split at hs
    · next hk => cases hs; exact ⟨po_iinc hx hb hd hl hk, pk_lv O (pm_s1_ok O.1 (pm_okv_int _ _)) O.2.1⟩
    · cases hs
  · cases hs
theorem pq_dup {p : Program} {l : Launch} {e : Env} {R : Room} {s : State} {m : MethodId} {args : Array Value} {below : List Frame} {meth : Method} {c : Code} {Q : State → Prop}
    {D : va_G} {aC : Nat → ClassId} {b : Nat} {sc : pm_Sc} {A : Nat → Prop} {nL nc0 ns0 rk : Nat} {np mc rkOf : Nat → Nat} {cc : ByteArray} {own : String} {ini : Bool} {len : Nat} {res : List Nat} {pc : Nat} {lv : pm_L} {st : List Value} {h : pm_H} {s1 : pm_S}
    (hx : p.tables.exec = Jvm.exec) (hb : c.code = cc) (hml : c.maxLocals = nL) (hown : s.vm.findClass own = some m.cls) (hK : va_K D vwCl (pm_tys aC) s) (hA : ∀ q, s.heap.size ≤ q → A q)
    (hX : va_X b sc.1 sc.2 s s.heap) (hbl : b < s.heap.size) (hbA : ¬ A b) (hus : ∀ (ci : Nat) (q : vw_C), vwCl[ci]? = some q → ∀ w ∈ u_ws q.1 q.2.1 q.2.2, w.before args s = true)
    (hn : ∀ w ∈ pm_need own (.dup) res, w.before args s = true) (hnn : ∀ w ∈ pm_needN own (.dup) res, w.before args s = true) (hao : ∀ t, 3 ≤ t → t ≤ 6 → va_AO (pm_atag t) s) (hck : pm_chk own ini (.dup) len res = true) (hin : ini = true → meth.name = "<init>") (hrf : rk ≤ R.frames) (hrl : 42 * rk ≤ R.locals)
    (hd : decode cc pc = .ok (.dup, len)) (hs : pm_do sc nL rk np mc rkOf (.dup) res pc lv st h = some (.inl s1)) (O : pm_ok lv st h.1) : pm_Go p l e R s m args below meth c Q D aC b A nL nc0 ns0 (pc, lv, st, h) s1 ∧ pm_Ok2 (pc, lv, st, h) s1 := by
  have hlen : len = 1 := by simp only [pm_chk, pm_len, Bool.and_eq_true, Bool.or_eq_true, beq_iff_eq] at hck; omega
  subst hlen
  simp only [pm_do] at hs
  split at hs
  · split at hs
    · next hk => cases hs; exact ⟨po_dup hx hb hk hd, pk_st O (pk_c (pk_h O.2.1) O.2.1)⟩
    · cases hs
  · cases hs
theorem pq_pop {p : Program} {l : Launch} {e : Env} {R : Room} {s : State} {m : MethodId} {args : Array Value} {below : List Frame} {meth : Method} {c : Code} {Q : State → Prop}
    {D : va_G} {aC : Nat → ClassId} {b : Nat} {sc : pm_Sc} {A : Nat → Prop} {nL nc0 ns0 rk : Nat} {np mc rkOf : Nat → Nat} {cc : ByteArray} {own : String} {ini : Bool} {len : Nat} {res : List Nat} {pc : Nat} {lv : pm_L} {st : List Value} {h : pm_H} {s1 : pm_S}
    (hx : p.tables.exec = Jvm.exec) (hb : c.code = cc) (hml : c.maxLocals = nL) (hown : s.vm.findClass own = some m.cls) (hK : va_K D vwCl (pm_tys aC) s) (hA : ∀ q, s.heap.size ≤ q → A q)
    (hX : va_X b sc.1 sc.2 s s.heap) (hbl : b < s.heap.size) (hbA : ¬ A b) (hus : ∀ (ci : Nat) (q : vw_C), vwCl[ci]? = some q → ∀ w ∈ u_ws q.1 q.2.1 q.2.2, w.before args s = true)
    (hn : ∀ w ∈ pm_need own (.pop) res, w.before args s = true) (hnn : ∀ w ∈ pm_needN own (.pop) res, w.before args s = true) (hao : ∀ t, 3 ≤ t → t ≤ 6 → va_AO (pm_atag t) s) (hck : pm_chk own ini (.pop) len res = true) (hin : ini = true → meth.name = "<init>") (hrf : rk ≤ R.frames) (hrl : 42 * rk ≤ R.locals)
    (hd : decode cc pc = .ok (.pop, len)) (hs : pm_do sc nL rk np mc rkOf (.pop) res pc lv st h = some (.inl s1)) (O : pm_ok lv st h.1) : pm_Go p l e R s m args below meth c Q D aC b A nL nc0 ns0 (pc, lv, st, h) s1 ∧ pm_Ok2 (pc, lv, st, h) s1 := by
  have hlen : len = 1 := by simp only [pm_chk, pm_len, Bool.and_eq_true, Bool.or_eq_true, beq_iff_eq] at hck; omega
  subst hlen
  simp only [pm_do] at hs
  split at hs
  · split at hs
    · next hk => cases hs; exact ⟨po_pop hx hb hk hd, pk_st O (pk_t1 O.2.1)⟩
    · cases hs
  · cases hs
theorem pq_dup2 {p : Program} {l : Launch} {e : Env} {R : Room} {s : State} {m : MethodId} {args : Array Value} {below : List Frame} {meth : Method} {c : Code} {Q : State → Prop}
    {D : va_G} {aC : Nat → ClassId} {b : Nat} {sc : pm_Sc} {A : Nat → Prop} {nL nc0 ns0 rk : Nat} {np mc rkOf : Nat → Nat} {cc : ByteArray} {own : String} {ini : Bool} {len : Nat} {res : List Nat} {pc : Nat} {lv : pm_L} {st : List Value} {h : pm_H} {s1 : pm_S}
    (hx : p.tables.exec = Jvm.exec) (hb : c.code = cc) (hml : c.maxLocals = nL) (hown : s.vm.findClass own = some m.cls) (hK : va_K D vwCl (pm_tys aC) s) (hA : ∀ q, s.heap.size ≤ q → A q)
    (hX : va_X b sc.1 sc.2 s s.heap) (hbl : b < s.heap.size) (hbA : ¬ A b) (hus : ∀ (ci : Nat) (q : vw_C), vwCl[ci]? = some q → ∀ w ∈ u_ws q.1 q.2.1 q.2.2, w.before args s = true)
    (hn : ∀ w ∈ pm_need own (.dup2) res, w.before args s = true) (hnn : ∀ w ∈ pm_needN own (.dup2) res, w.before args s = true) (hao : ∀ t, 3 ≤ t → t ≤ 6 → va_AO (pm_atag t) s) (hck : pm_chk own ini (.dup2) len res = true) (hin : ini = true → meth.name = "<init>") (hrf : rk ≤ R.frames) (hrl : 42 * rk ≤ R.locals)
    (hd : decode cc pc = .ok (.dup2, len)) (hs : pm_do sc nL rk np mc rkOf (.dup2) res pc lv st h = some (.inl s1)) (O : pm_ok lv st h.1) : pm_Go p l e R s m args below meth c Q D aC b A nL nc0 ns0 (pc, lv, st, h) s1 ∧ pm_Ok2 (pc, lv, st, h) s1 := by
  have hlen : len = 1 := by simp only [pm_chk, pm_len, Bool.and_eq_true, Bool.or_eq_true, beq_iff_eq] at hck; omega
  subst hlen
  simp only [pm_do] at hs
  split at hs
  · split at hs
    · next hk => cases hs; exact ⟨po_dup2 hx hb hk.1 hk.2 hd, pk_st O (pk_c (pk_h O.2.1) (pk_c (pk_h (pk_t1 O.2.1)) O.2.1))⟩
    · cases hs
  · cases hs
theorem pq_goto {p : Program} {l : Launch} {e : Env} {R : Room} {s : State} {m : MethodId} {args : Array Value} {below : List Frame} {meth : Method} {c : Code} {Q : State → Prop}
    {D : va_G} {aC : Nat → ClassId} {b : Nat} {sc : pm_Sc} {A : Nat → Prop} {nL nc0 ns0 rk : Nat} {np mc rkOf : Nat → Nat} {cc : ByteArray} {own : String} {ini : Bool} {off : Int} {len : Nat} {res : List Nat} {pc : Nat} {lv : pm_L} {st : List Value} {h : pm_H} {s1 : pm_S}
    (hx : p.tables.exec = Jvm.exec) (hb : c.code = cc) (hml : c.maxLocals = nL) (hown : s.vm.findClass own = some m.cls) (hK : va_K D vwCl (pm_tys aC) s) (hA : ∀ q, s.heap.size ≤ q → A q)
    (hX : va_X b sc.1 sc.2 s s.heap) (hbl : b < s.heap.size) (hbA : ¬ A b) (hus : ∀ (ci : Nat) (q : vw_C), vwCl[ci]? = some q → ∀ w ∈ u_ws q.1 q.2.1 q.2.2, w.before args s = true)
    (hn : ∀ w ∈ pm_need own (.goto off) res, w.before args s = true) (hnn : ∀ w ∈ pm_needN own (.goto off) res, w.before args s = true) (hao : ∀ t, 3 ≤ t → t ≤ 6 → va_AO (pm_atag t) s) (hck : pm_chk own ini (.goto off) len res = true) (hin : ini = true → meth.name = "<init>") (hrf : rk ≤ R.frames) (hrl : 42 * rk ≤ R.locals)
    (hd : decode cc pc = .ok (.goto off, len)) (hs : pm_do sc nL rk np mc rkOf (.goto off) res pc lv st h = some (.inl s1)) (O : pm_ok lv st h.1) : pm_Go p l e R s m args below meth c Q D aC b A nL nc0 ns0 (pc, lv, st, h) s1 ∧ pm_Ok2 (pc, lv, st, h) s1 := by
  have hlen : len = 3 := by simp only [pm_chk, pm_len, Bool.and_eq_true, Bool.or_eq_true, beq_iff_eq] at hck; omega
  subst hlen
  simp only [pm_do] at hs
  split at hs
  · next t ht => cases hs; exact ⟨po_goto hx hb ht hd, pk_st O O.2.1⟩
  · cases hs
theorem pq_ifCond {p : Program} {l : Launch} {e : Env} {R : Room} {s : State} {m : MethodId} {args : Array Value} {below : List Frame} {meth : Method} {c : Code} {Q : State → Prop}
    {D : va_G} {aC : Nat → ClassId} {b : Nat} {sc : pm_Sc} {A : Nat → Prop} {nL nc0 ns0 rk : Nat} {np mc rkOf : Nat → Nat} {cc : ByteArray} {own : String} {ini : Bool} {q : ClassFile.Cond} {off : Int} {len : Nat} {res : List Nat} {pc : Nat} {lv : pm_L} {st : List Value} {h : pm_H} {s1 : pm_S}
    (hx : p.tables.exec = Jvm.exec) (hb : c.code = cc) (hml : c.maxLocals = nL) (hown : s.vm.findClass own = some m.cls) (hK : va_K D vwCl (pm_tys aC) s) (hA : ∀ q, s.heap.size ≤ q → A q)
    (hX : va_X b sc.1 sc.2 s s.heap) (hbl : b < s.heap.size) (hbA : ¬ A b) (hus : ∀ (ci : Nat) (q : vw_C), vwCl[ci]? = some q → ∀ w ∈ u_ws q.1 q.2.1 q.2.2, w.before args s = true)
    (hn : ∀ w ∈ pm_need own (.ifCond q off) res, w.before args s = true) (hnn : ∀ w ∈ pm_needN own (.ifCond q off) res, w.before args s = true) (hao : ∀ t, 3 ≤ t → t ≤ 6 → va_AO (pm_atag t) s) (hck : pm_chk own ini (.ifCond q off) len res = true) (hin : ini = true → meth.name = "<init>") (hrf : rk ≤ R.frames) (hrl : 42 * rk ≤ R.locals)
    (hd : decode cc pc = .ok (.ifCond q off, len)) (hs : pm_do sc nL rk np mc rkOf (.ifCond q off) res pc lv st h = some (.inl s1)) (O : pm_ok lv st h.1) : pm_Go p l e R s m args below meth c Q D aC b A nL nc0 ns0 (pc, lv, st, h) s1 ∧ pm_Ok2 (pc, lv, st, h) s1 := by
  have hlen : len = 3 := by simp only [pm_chk, pm_len, Bool.and_eq_true, Bool.or_eq_true, beq_iff_eq] at hck; omega
  subst hlen
  simp only [pm_do] at hs
  split at hs
  · next ht => cases hs; exact ⟨po_ifCond hx hb hd ht, pk_st O (pk_t1 O.2.1)⟩
  · cases hs
theorem pq_if_icmp {p : Program} {l : Launch} {e : Env} {R : Room} {s : State} {m : MethodId} {args : Array Value} {below : List Frame} {meth : Method} {c : Code} {Q : State → Prop}
    {D : va_G} {aC : Nat → ClassId} {b : Nat} {sc : pm_Sc} {A : Nat → Prop} {nL nc0 ns0 rk : Nat} {np mc rkOf : Nat → Nat} {cc : ByteArray} {own : String} {ini : Bool} {q : ClassFile.Cond} {off : Int} {len : Nat} {res : List Nat} {pc : Nat} {lv : pm_L} {st : List Value} {h : pm_H} {s1 : pm_S}
    (hx : p.tables.exec = Jvm.exec) (hb : c.code = cc) (hml : c.maxLocals = nL) (hown : s.vm.findClass own = some m.cls) (hK : va_K D vwCl (pm_tys aC) s) (hA : ∀ q, s.heap.size ≤ q → A q)
    (hX : va_X b sc.1 sc.2 s s.heap) (hbl : b < s.heap.size) (hbA : ¬ A b) (hus : ∀ (ci : Nat) (q : vw_C), vwCl[ci]? = some q → ∀ w ∈ u_ws q.1 q.2.1 q.2.2, w.before args s = true)
    (hn : ∀ w ∈ pm_need own (.if_icmp q off) res, w.before args s = true) (hnn : ∀ w ∈ pm_needN own (.if_icmp q off) res, w.before args s = true) (hao : ∀ t, 3 ≤ t → t ≤ 6 → va_AO (pm_atag t) s) (hck : pm_chk own ini (.if_icmp q off) len res = true) (hin : ini = true → meth.name = "<init>") (hrf : rk ≤ R.frames) (hrl : 42 * rk ≤ R.locals)
    (hd : decode cc pc = .ok (.if_icmp q off, len)) (hs : pm_do sc nL rk np mc rkOf (.if_icmp q off) res pc lv st h = some (.inl s1)) (O : pm_ok lv st h.1) : pm_Go p l e R s m args below meth c Q D aC b A nL nc0 ns0 (pc, lv, st, h) s1 ∧ pm_Ok2 (pc, lv, st, h) s1 := by
  have hlen : len = 3 := by simp only [pm_chk, pm_len, Bool.and_eq_true, Bool.or_eq_true, beq_iff_eq] at hck; omega
  subst hlen
  simp only [pm_do] at hs
  split at hs
  · next ht => cases hs; exact ⟨po_if_icmp hx hb hd ht, pk_st O (pk_t2 O.2.1)⟩
  · cases hs
theorem pq_ifnull {p : Program} {l : Launch} {e : Env} {R : Room} {s : State} {m : MethodId} {args : Array Value} {below : List Frame} {meth : Method} {c : Code} {Q : State → Prop}
    {D : va_G} {aC : Nat → ClassId} {b : Nat} {sc : pm_Sc} {A : Nat → Prop} {nL nc0 ns0 rk : Nat} {np mc rkOf : Nat → Nat} {cc : ByteArray} {own : String} {ini : Bool} {off : Int} {len : Nat} {res : List Nat} {pc : Nat} {lv : pm_L} {st : List Value} {h : pm_H} {s1 : pm_S}
    (hx : p.tables.exec = Jvm.exec) (hb : c.code = cc) (hml : c.maxLocals = nL) (hown : s.vm.findClass own = some m.cls) (hK : va_K D vwCl (pm_tys aC) s) (hA : ∀ q, s.heap.size ≤ q → A q)
    (hX : va_X b sc.1 sc.2 s s.heap) (hbl : b < s.heap.size) (hbA : ¬ A b) (hus : ∀ (ci : Nat) (q : vw_C), vwCl[ci]? = some q → ∀ w ∈ u_ws q.1 q.2.1 q.2.2, w.before args s = true)
    (hn : ∀ w ∈ pm_need own (.ifnull off) res, w.before args s = true) (hnn : ∀ w ∈ pm_needN own (.ifnull off) res, w.before args s = true) (hao : ∀ t, 3 ≤ t → t ≤ 6 → va_AO (pm_atag t) s) (hck : pm_chk own ini (.ifnull off) len res = true) (hin : ini = true → meth.name = "<init>") (hrf : rk ≤ R.frames) (hrl : 42 * rk ≤ R.locals)
    (hd : decode cc pc = .ok (.ifnull off, len)) (hs : pm_do sc nL rk np mc rkOf (.ifnull off) res pc lv st h = some (.inl s1)) (O : pm_ok lv st h.1) : pm_Go p l e R s m args below meth c Q D aC b A nL nc0 ns0 (pc, lv, st, h) s1 ∧ pm_Ok2 (pc, lv, st, h) s1 := by
  have hlen : len = 3 := by simp only [pm_chk, pm_len, Bool.and_eq_true, Bool.or_eq_true, beq_iff_eq] at hck; omega
  subst hlen
  simp only [pm_do] at hs
  split at hs
  · next ht => cases hs; exact ⟨po_ifnullN hx hb ht hd, pk_st O (pk_t1 O.2.1)⟩
  · next ht => cases hs; exact ⟨po_ifnull hx hb hd, pk_st O (pk_t1 O.2.1)⟩
  · cases hs
theorem pq_ifnonnull {p : Program} {l : Launch} {e : Env} {R : Room} {s : State} {m : MethodId} {args : Array Value} {below : List Frame} {meth : Method} {c : Code} {Q : State → Prop}
    {D : va_G} {aC : Nat → ClassId} {b : Nat} {sc : pm_Sc} {A : Nat → Prop} {nL nc0 ns0 rk : Nat} {np mc rkOf : Nat → Nat} {cc : ByteArray} {own : String} {ini : Bool} {off : Int} {len : Nat} {res : List Nat} {pc : Nat} {lv : pm_L} {st : List Value} {h : pm_H} {s1 : pm_S}
    (hx : p.tables.exec = Jvm.exec) (hb : c.code = cc) (hml : c.maxLocals = nL) (hown : s.vm.findClass own = some m.cls) (hK : va_K D vwCl (pm_tys aC) s) (hA : ∀ q, s.heap.size ≤ q → A q)
    (hX : va_X b sc.1 sc.2 s s.heap) (hbl : b < s.heap.size) (hbA : ¬ A b) (hus : ∀ (ci : Nat) (q : vw_C), vwCl[ci]? = some q → ∀ w ∈ u_ws q.1 q.2.1 q.2.2, w.before args s = true)
    (hn : ∀ w ∈ pm_need own (.ifnonnull off) res, w.before args s = true) (hnn : ∀ w ∈ pm_needN own (.ifnonnull off) res, w.before args s = true) (hao : ∀ t, 3 ≤ t → t ≤ 6 → va_AO (pm_atag t) s) (hck : pm_chk own ini (.ifnonnull off) len res = true) (hin : ini = true → meth.name = "<init>") (hrf : rk ≤ R.frames) (hrl : 42 * rk ≤ R.locals)
    (hd : decode cc pc = .ok (.ifnonnull off, len)) (hs : pm_do sc nL rk np mc rkOf (.ifnonnull off) res pc lv st h = some (.inl s1)) (O : pm_ok lv st h.1) : pm_Go p l e R s m args below meth c Q D aC b A nL nc0 ns0 (pc, lv, st, h) s1 ∧ pm_Ok2 (pc, lv, st, h) s1 := by
  have hlen : len = 3 := by simp only [pm_chk, pm_len, Bool.and_eq_true, Bool.or_eq_true, beq_iff_eq] at hck; omega
  subst hlen
  simp only [pm_do] at hs
  split at hs
  · next ht => cases hs; exact ⟨po_ifnonnull hx hb ht hd, pk_st O (pk_t1 O.2.1)⟩
  · next ht => cases hs; exact ⟨po_ifnonnullN hx hb hd, pk_st O (pk_t1 O.2.1)⟩
  · cases hs
theorem pq_tableswitch {p : Program} {l : Launch} {e : Env} {R : Room} {s : State} {m : MethodId} {args : Array Value} {below : List Frame} {meth : Method} {c : Code} {Q : State → Prop}
    {D : va_G} {aC : Nat → ClassId} {b : Nat} {sc : pm_Sc} {A : Nat → Prop} {nL nc0 ns0 rk : Nat} {np mc rkOf : Nat → Nat} {cc : ByteArray} {own : String} {ini : Bool} {d lo hi : Int} {offs : Array Int} {len : Nat} {res : List Nat} {pc : Nat} {lv : pm_L} {st : List Value} {h : pm_H} {s1 : pm_S}
    (hx : p.tables.exec = Jvm.exec) (hb : c.code = cc) (hml : c.maxLocals = nL) (hown : s.vm.findClass own = some m.cls) (hK : va_K D vwCl (pm_tys aC) s) (hA : ∀ q, s.heap.size ≤ q → A q)
    (hX : va_X b sc.1 sc.2 s s.heap) (hbl : b < s.heap.size) (hbA : ¬ A b) (hus : ∀ (ci : Nat) (q : vw_C), vwCl[ci]? = some q → ∀ w ∈ u_ws q.1 q.2.1 q.2.2, w.before args s = true)
    (hn : ∀ w ∈ pm_need own (.tableswitch d lo hi offs) res, w.before args s = true) (hnn : ∀ w ∈ pm_needN own (.tableswitch d lo hi offs) res, w.before args s = true) (hao : ∀ t, 3 ≤ t → t ≤ 6 → va_AO (pm_atag t) s) (hck : pm_chk own ini (.tableswitch d lo hi offs) len res = true) (hin : ini = true → meth.name = "<init>") (hrf : rk ≤ R.frames) (hrl : 42 * rk ≤ R.locals)
    (hd : decode cc pc = .ok (.tableswitch d lo hi offs, len)) (hs : pm_do sc nL rk np mc rkOf (.tableswitch d lo hi offs) res pc lv st h = some (.inl s1)) (O : pm_ok lv st h.1) : pm_Go p l e R s m args below meth c Q D aC b A nL nc0 ns0 (pc, lv, st, h) s1 ∧ pm_Ok2 (pc, lv, st, h) s1 := by
  simp only [pm_do] at hs
  split at hs
  · split at hs
    · next hr =>
      split at hs
      · next ht => cases hs; exact ⟨po_tableOut hx hb hd hr ht, pk_st O (pk_t1 O.2.1)⟩
      · cases hs
    · next hr =>
      split at hs
      · next ho =>
        split at hs
        · next ht => cases hs; exact ⟨po_tableIn hx hb hd hr ho ht, pk_st O (pk_t1 O.2.1)⟩
        · cases hs
      · cases hs
  · cases hs
end
section
theorem pm_tyq {aC : Nat → ClassId} {t : Nat} (h3 : 3 ≤ t) (h6 : t ≤ 6) : (pm_tys aC)[t]? = some (aC t, .object (pm_atag t)) := by
  match t, h3, h6 with
  | 3, _, _ | 4, _, _ | 5, _, _ | 6, _, _ => rfl
  | n + 7, _, z => omega
theorem pm_elc {t : Nat} (h3 : 3 ≤ t) (h6 : t ≤ 6) : ∃ (T : u_T) (N : Nat), vwCl[pm_el t]? = some (pm_atag t, T, N) := by
  match t, h3, h6 with
  | 3, _, _ => exact ⟨_, _, rfl⟩
  | 4, _, _ => exact ⟨_, _, rfl⟩
  | 5, _, _ => exact ⟨_, _, rfl⟩
  | 6, _, _ => exact ⟨_, _, rfl⟩
  | n + 7, _, z => omega
theorem pq_getfield {p : Program} {l : Launch} {e : Env} {R : Room} {s : State} {m : MethodId} {args : Array Value} {below : List Frame} {meth : Method} {c : Code} {Q : State → Prop}
    {D : va_G} {aC : Nat → ClassId} {b : Nat} {sc : pm_Sc} {A : Nat → Prop} {nL nc0 ns0 rk : Nat} {np mc rkOf : Nat → Nat} {cc : ByteArray} {own : String} {ini : Bool} {i : Nat} {len : Nat} {res : List Nat} {pc : Nat} {lv : pm_L} {st : List Value} {h : pm_H} {s1 : pm_S}
    (hx : p.tables.exec = Jvm.exec) (hb : c.code = cc) (hml : c.maxLocals = nL) (hown : s.vm.findClass own = some m.cls) (hK : va_K D vwCl (pm_tys aC) s) (hA : ∀ q, s.heap.size ≤ q → A q)
    (hX : va_X b sc.1 sc.2 s s.heap) (hbl : b < s.heap.size) (hbA : ¬ A b) (hus : ∀ (ci : Nat) (q : vw_C), vwCl[ci]? = some q → ∀ w ∈ u_ws q.1 q.2.1 q.2.2, w.before args s = true)
    (hn : ∀ w ∈ pm_need own (.getfield i) res, w.before args s = true) (hnn : ∀ w ∈ pm_needN own (.getfield i) res, w.before args s = true) (hao : ∀ t, 3 ≤ t → t ≤ 6 → va_AO (pm_atag t) s) (hck : pm_chk own ini (.getfield i) len res = true) (hin : ini = true → meth.name = "<init>") (hrf : rk ≤ R.frames) (hrl : 42 * rk ≤ R.locals)
    (hd : decode cc pc = .ok (.getfield i, len)) (hs : pm_do sc nL rk np mc rkOf (.getfield i) res pc lv st h = some (.inl s1)) (O : pm_ok lv st h.1) : pm_Go p l e R s m args below meth c Q D aC b A nL nc0 ns0 (pc, lv, st, h) s1 ∧ pm_Ok2 (pc, lv, st, h) s1 := by
  have hlen : len = 3 := by simp only [pm_chk, pm_len, Bool.and_eq_true, Bool.or_eq_true, beq_iff_eq] at hck; omega
  subst hlen
  simp only [pm_do] at hs
  split at hs
  · next ci k lk q r =>
    split at hs
    · next c0 fs hq =>
      split at hs
      · next hc0 =>
        subst hc0
        split at hs
        · next v hv =>
          cases hs
          simp only [pm_chk, Bool.and_eq_true] at hck
          cases hcl : vwCl[c0]? with
          | none => rw [hcl] at hck; cases hck.2
          | some w =>
            rw [hcl] at hck
            obtain ⟨C, T, N⟩ := w
            have hk : k < N := of_decide_eq_true (Bool.and_eq_true _ _ ▸ hck.2).1
            have ov := pk_cell (c := .inr (c0, fs)) O.2.2 hq hv
            by_cases hlk : lk = 1
            · have h1 : (Cond.fieldLinkNest own i (T k).1 (T k).2.1 (T k).2.2.1 RX7).before args s = true := hnn _ (by simp only [pm_needN, hcl, hlk, if_true]; exact List.mem_cons_self)
              exact ⟨po_getfieldN hx hb (hus c0 _ hcl) hown hK hcl hk hq h1 hv hd, pk_st O (pk_c ov (pk_t1 O.2.1))⟩
            · have h1 : (Cond.fieldLink own i (T k).1 (T k).2.1 (T k).2.2.1).before args s = true := hn _ (by simp only [pm_need, hcl, hlk, if_false]; exact List.mem_cons_self)
              exact ⟨po_getfield hx hb (hus c0 _ hcl) hown hK hcl hk hq h1 hv hd, pk_st O (pk_c ov (pk_t1 O.2.1))⟩
        · cases hs
      · cases hs
    · cases hs
  · cases hs
theorem pq_putfield {p : Program} {l : Launch} {e : Env} {R : Room} {s : State} {m : MethodId} {args : Array Value} {below : List Frame} {meth : Method} {c : Code} {Q : State → Prop}
    {D : va_G} {aC : Nat → ClassId} {b : Nat} {sc : pm_Sc} {A : Nat → Prop} {nL nc0 ns0 rk : Nat} {np mc rkOf : Nat → Nat} {cc : ByteArray} {own : String} {ini : Bool} {i : Nat} {len : Nat} {res : List Nat} {pc : Nat} {lv : pm_L} {st : List Value} {h : pm_H} {s1 : pm_S}
    (hx : p.tables.exec = Jvm.exec) (hb : c.code = cc) (hml : c.maxLocals = nL) (hown : s.vm.findClass own = some m.cls) (hK : va_K D vwCl (pm_tys aC) s) (hA : ∀ q, s.heap.size ≤ q → A q)
    (hX : va_X b sc.1 sc.2 s s.heap) (hbl : b < s.heap.size) (hbA : ¬ A b) (hus : ∀ (ci : Nat) (q : vw_C), vwCl[ci]? = some q → ∀ w ∈ u_ws q.1 q.2.1 q.2.2, w.before args s = true)
    (hn : ∀ w ∈ pm_need own (.putfield i) res, w.before args s = true) (hnn : ∀ w ∈ pm_needN own (.putfield i) res, w.before args s = true) (hao : ∀ t, 3 ≤ t → t ≤ 6 → va_AO (pm_atag t) s) (hck : pm_chk own ini (.putfield i) len res = true) (hin : ini = true → meth.name = "<init>") (hrf : rk ≤ R.frames) (hrl : 42 * rk ≤ R.locals)
    (hd : decode cc pc = .ok (.putfield i, len)) (hs : pm_do sc nL rk np mc rkOf (.putfield i) res pc lv st h = some (.inl s1)) (O : pm_ok lv st h.1) : pm_Go p l e R s m args below meth c Q D aC b A nL nc0 ns0 (pc, lv, st, h) s1 ∧ pm_Ok2 (pc, lv, st, h) s1 := by
  have hlen : len = 3 := by simp only [pm_chk, pm_len, Bool.and_eq_true, Bool.or_eq_true, beq_iff_eq] at hck; omega
  subst hlen
  simp only [pm_do] at hs
  split at hs
  · next ci k lk v q r =>
    split at hs
    · next c0 fs hq =>
      split at hs
      · next hc0 =>
        obtain ⟨rfl, hl, hfit⟩ := hc0
        cases hs
        have ov : ∀ w ∈ pm_vals (.inr (c0, fs.set k v)), pm_okv h.1.length w := pk_vset (fun w hw => O.2.2 _ (List.mem_of_getElem? hq) w hw) (pk_h O.2.1)
        have OK : pm_Ok2 (pc, lv, v :: .ref q :: r, h) (pc + 3, lv, r, (h.1.set q (.inr (c0, fs.set k v)), h.2)) := pk_set O (pk_t2 O.2.1) ov
        simp only [pm_chk, Bool.and_eq_true] at hck
        cases hcl : vwCl[c0]? with
        | none => rw [hcl] at hck; cases hck.2
        | some w =>
          rw [hcl] at hck
          obtain ⟨C, T, N⟩ := w
          obtain ⟨t1, t2, -, -⟩ := pm_cls c0 _ hcl
          have hck := hck.2
          simp only [Bool.and_eq_true, Bool.or_eq_true, decide_eq_true_eq, Bool.not_eq_true', beq_iff_eq] at hck
          have hk : k < N := hck.1
          by_cases hlk : lk = 1
          · have h1 : (Cond.fieldLinkNest own i (T k).1 (T k).2.1 (T k).2.2.1 RX7).before args s = true := hnn _ (by simp only [pm_needN, hcl, hlk, if_true]; exact List.mem_cons_self)
            have hfin : (T k).2.2.2 = false := by
              rcases hck.2 with z | z
              · exact z.2
              · omega
            exact ⟨po_putfieldN hx hb (hus c0 _ hcl) hown hK hcl hk hq (pm_ty c0) t1 t2 hfit hl h1 hfin hd, OK⟩
          · have h1 : (Cond.fieldLink own i (T k).1 (T k).2.1 (T k).2.2.1).before args s = true := hn _ (by simp only [pm_need, hcl, hlk, if_false]; exact List.mem_cons_self)
            rcases hck.2 with z | z
            · exact ⟨po_putfield hx hb (hus c0 _ hcl) hown hK hcl hk hq (pm_ty c0) t1 t2 hfit hl h1 z.2 hd, OK⟩
            · exact ⟨po_putfieldF hx hb (hus c0 _ hcl) hown hK hcl hk hq (pm_ty c0) t1 t2 hfit hl h1 z.1.1.2 (hin z.2) z.1.2 hd, OK⟩
      · cases hs
    · cases hs
  · cases hs
theorem pq_arraylength {p : Program} {l : Launch} {e : Env} {R : Room} {s : State} {m : MethodId} {args : Array Value} {below : List Frame} {meth : Method} {c : Code} {Q : State → Prop}
    {D : va_G} {aC : Nat → ClassId} {b : Nat} {sc : pm_Sc} {A : Nat → Prop} {nL nc0 ns0 rk : Nat} {np mc rkOf : Nat → Nat} {cc : ByteArray} {own : String} {ini : Bool} {len : Nat} {res : List Nat} {pc : Nat} {lv : pm_L} {st : List Value} {h : pm_H} {s1 : pm_S}
    (hx : p.tables.exec = Jvm.exec) (hb : c.code = cc) (hml : c.maxLocals = nL) (hown : s.vm.findClass own = some m.cls) (hK : va_K D vwCl (pm_tys aC) s) (hA : ∀ q, s.heap.size ≤ q → A q)
    (hX : va_X b sc.1 sc.2 s s.heap) (hbl : b < s.heap.size) (hbA : ¬ A b) (hus : ∀ (ci : Nat) (q : vw_C), vwCl[ci]? = some q → ∀ w ∈ u_ws q.1 q.2.1 q.2.2, w.before args s = true)
    (hn : ∀ w ∈ pm_need own (.arraylength) res, w.before args s = true) (hnn : ∀ w ∈ pm_needN own (.arraylength) res, w.before args s = true) (hao : ∀ t, 3 ≤ t → t ≤ 6 → va_AO (pm_atag t) s) (hck : pm_chk own ini (.arraylength) len res = true) (hin : ini = true → meth.name = "<init>") (hrf : rk ≤ R.frames) (hrl : 42 * rk ≤ R.locals)
    (hd : decode cc pc = .ok (.arraylength, len)) (hs : pm_do sc nL rk np mc rkOf (.arraylength) res pc lv st h = some (.inl s1)) (O : pm_ok lv st h.1) : pm_Go p l e R s m args below meth c Q D aC b A nL nc0 ns0 (pc, lv, st, h) s1 ∧ pm_Ok2 (pc, lv, st, h) s1 := by
  have hlen : len = 1 := by simp only [pm_chk, pm_len, Bool.and_eq_true, Bool.or_eq_true, beq_iff_eq] at hck; omega
  subst hlen
  simp only [pm_do] at hs
  split at hs
  · split at hs
    · next t vs hq =>
      split at hs
      · next ht =>
        cases hs
        have e1 : ∃ ty, (pm_tys aC)[t]? = some (aC t, ty) := by
          match t, ht with
          | 0, _ | 1, _ | 2, _ | 3, _ | 4, _ | 5, _ | 6, _ => exact ⟨_, rfl⟩
          | n + 7, z => omega
        obtain ⟨ty, e1⟩ := e1
        exact ⟨po_alen hx hb hK hq e1 hd, pk_st O (pk_c (pm_okv_int _ _) (pk_t1 O.2.1))⟩
      · cases hs
    · cases hs
  · cases hs
    exact ⟨po_slen hx hb hX hbl hbA hd, pk_st O (pk_c (pm_okv_int _ _) (pk_t1 O.2.1))⟩
  · cases hs
theorem pq_iaload {p : Program} {l : Launch} {e : Env} {R : Room} {s : State} {m : MethodId} {args : Array Value} {below : List Frame} {meth : Method} {c : Code} {Q : State → Prop}
    {D : va_G} {aC : Nat → ClassId} {b : Nat} {sc : pm_Sc} {A : Nat → Prop} {nL nc0 ns0 rk : Nat} {np mc rkOf : Nat → Nat} {cc : ByteArray} {own : String} {ini : Bool} {len : Nat} {res : List Nat} {pc : Nat} {lv : pm_L} {st : List Value} {h : pm_H} {s1 : pm_S}
    (hx : p.tables.exec = Jvm.exec) (hb : c.code = cc) (hml : c.maxLocals = nL) (hown : s.vm.findClass own = some m.cls) (hK : va_K D vwCl (pm_tys aC) s) (hA : ∀ q, s.heap.size ≤ q → A q)
    (hX : va_X b sc.1 sc.2 s s.heap) (hbl : b < s.heap.size) (hbA : ¬ A b) (hus : ∀ (ci : Nat) (q : vw_C), vwCl[ci]? = some q → ∀ w ∈ u_ws q.1 q.2.1 q.2.2, w.before args s = true)
    (hn : ∀ w ∈ pm_need own (.iaload) res, w.before args s = true) (hnn : ∀ w ∈ pm_needN own (.iaload) res, w.before args s = true) (hao : ∀ t, 3 ≤ t → t ≤ 6 → va_AO (pm_atag t) s) (hck : pm_chk own ini (.iaload) len res = true) (hin : ini = true → meth.name = "<init>") (hrf : rk ≤ R.frames) (hrl : 42 * rk ≤ R.locals)
    (hd : decode cc pc = .ok (.iaload, len)) (hs : pm_do sc nL rk np mc rkOf (.iaload) res pc lv st h = some (.inl s1)) (O : pm_ok lv st h.1) : pm_Go p l e R s m args below meth c Q D aC b A nL nc0 ns0 (pc, lv, st, h) s1 ∧ pm_Ok2 (pc, lv, st, h) s1 := by
  have hlen : len = 1 := by simp only [pm_chk, pm_len, Bool.and_eq_true, Bool.or_eq_true, beq_iff_eq] at hck; omega
  subst hlen
  simp only [pm_do] at hs
  split at hs
  · split at hs
    · next hq =>
      split at hs
      · cases hs
      · next hi =>
        split at hs
        · next x hv => cases hs; exact ⟨po_iaload hx hb hK hq hi hv hd, pk_st O (pk_c (pm_okv_int _ _) (pk_t2 O.2.1))⟩
        · cases hs
    · cases hs
  · split at hs
    · next hi => cases hs; exact ⟨po_sld hx hb hX hbl hbA hi.1 hi.2 hd, pk_st O (pk_c (pm_okv_int _ _) (pk_t2 O.2.1))⟩
    · cases hs
  · cases hs
theorem pq_laload {p : Program} {l : Launch} {e : Env} {R : Room} {s : State} {m : MethodId} {args : Array Value} {below : List Frame} {meth : Method} {c : Code} {Q : State → Prop}
    {D : va_G} {aC : Nat → ClassId} {b : Nat} {sc : pm_Sc} {A : Nat → Prop} {nL nc0 ns0 rk : Nat} {np mc rkOf : Nat → Nat} {cc : ByteArray} {own : String} {ini : Bool} {len : Nat} {res : List Nat} {pc : Nat} {lv : pm_L} {st : List Value} {h : pm_H} {s1 : pm_S}
    (hx : p.tables.exec = Jvm.exec) (hb : c.code = cc) (hml : c.maxLocals = nL) (hown : s.vm.findClass own = some m.cls) (hK : va_K D vwCl (pm_tys aC) s) (hA : ∀ q, s.heap.size ≤ q → A q)
    (hX : va_X b sc.1 sc.2 s s.heap) (hbl : b < s.heap.size) (hbA : ¬ A b) (hus : ∀ (ci : Nat) (q : vw_C), vwCl[ci]? = some q → ∀ w ∈ u_ws q.1 q.2.1 q.2.2, w.before args s = true)
    (hn : ∀ w ∈ pm_need own (.laload) res, w.before args s = true) (hnn : ∀ w ∈ pm_needN own (.laload) res, w.before args s = true) (hao : ∀ t, 3 ≤ t → t ≤ 6 → va_AO (pm_atag t) s) (hck : pm_chk own ini (.laload) len res = true) (hin : ini = true → meth.name = "<init>") (hrf : rk ≤ R.frames) (hrl : 42 * rk ≤ R.locals)
    (hd : decode cc pc = .ok (.laload, len)) (hs : pm_do sc nL rk np mc rkOf (.laload) res pc lv st h = some (.inl s1)) (O : pm_ok lv st h.1) : pm_Go p l e R s m args below meth c Q D aC b A nL nc0 ns0 (pc, lv, st, h) s1 ∧ pm_Ok2 (pc, lv, st, h) s1 := by
  have hlen : len = 1 := by simp only [pm_chk, pm_len, Bool.and_eq_true, Bool.or_eq_true, beq_iff_eq] at hck; omega
  subst hlen
  simp only [pm_do] at hs
  split at hs
  · split at hs
    · next hq =>
      split at hs
      · cases hs
      · next hi =>
        split at hs
        · next x hv => cases hs; exact ⟨po_laload hx hb hK hq hi hv hd, pk_st O (pk_c (pm_okv_long _ _) (pk_t2 O.2.1))⟩
        · cases hs
    · cases hs
  · cases hs
theorem pq_baload {p : Program} {l : Launch} {e : Env} {R : Room} {s : State} {m : MethodId} {args : Array Value} {below : List Frame} {meth : Method} {c : Code} {Q : State → Prop}
    {D : va_G} {aC : Nat → ClassId} {b : Nat} {sc : pm_Sc} {A : Nat → Prop} {nL nc0 ns0 rk : Nat} {np mc rkOf : Nat → Nat} {cc : ByteArray} {own : String} {ini : Bool} {len : Nat} {res : List Nat} {pc : Nat} {lv : pm_L} {st : List Value} {h : pm_H} {s1 : pm_S}
    (hx : p.tables.exec = Jvm.exec) (hb : c.code = cc) (hml : c.maxLocals = nL) (hown : s.vm.findClass own = some m.cls) (hK : va_K D vwCl (pm_tys aC) s) (hA : ∀ q, s.heap.size ≤ q → A q)
    (hX : va_X b sc.1 sc.2 s s.heap) (hbl : b < s.heap.size) (hbA : ¬ A b) (hus : ∀ (ci : Nat) (q : vw_C), vwCl[ci]? = some q → ∀ w ∈ u_ws q.1 q.2.1 q.2.2, w.before args s = true)
    (hn : ∀ w ∈ pm_need own (.baload) res, w.before args s = true) (hnn : ∀ w ∈ pm_needN own (.baload) res, w.before args s = true) (hao : ∀ t, 3 ≤ t → t ≤ 6 → va_AO (pm_atag t) s) (hck : pm_chk own ini (.baload) len res = true) (hin : ini = true → meth.name = "<init>") (hrf : rk ≤ R.frames) (hrl : 42 * rk ≤ R.locals)
    (hd : decode cc pc = .ok (.baload, len)) (hs : pm_do sc nL rk np mc rkOf (.baload) res pc lv st h = some (.inl s1)) (O : pm_ok lv st h.1) : pm_Go p l e R s m args below meth c Q D aC b A nL nc0 ns0 (pc, lv, st, h) s1 ∧ pm_Ok2 (pc, lv, st, h) s1 := by
  have hlen : len = 1 := by simp only [pm_chk, pm_len, Bool.and_eq_true, Bool.or_eq_true, beq_iff_eq] at hck; omega
  subst hlen
  simp only [pm_do] at hs
  split at hs
  · split at hs
    · next hq =>
      split at hs
      · cases hs
      · next hi =>
        split at hs
        · next x hv => cases hs; exact ⟨po_baload hx hb hK hq hi hv hd, pk_st O (pk_c (pm_okv_int _ _) (pk_t2 O.2.1))⟩
        · cases hs
    · cases hs
  · cases hs
theorem pq_aaload {p : Program} {l : Launch} {e : Env} {R : Room} {s : State} {m : MethodId} {args : Array Value} {below : List Frame} {meth : Method} {c : Code} {Q : State → Prop}
    {D : va_G} {aC : Nat → ClassId} {b : Nat} {sc : pm_Sc} {A : Nat → Prop} {nL nc0 ns0 rk : Nat} {np mc rkOf : Nat → Nat} {cc : ByteArray} {own : String} {ini : Bool} {len : Nat} {res : List Nat} {pc : Nat} {lv : pm_L} {st : List Value} {h : pm_H} {s1 : pm_S}
    (hx : p.tables.exec = Jvm.exec) (hb : c.code = cc) (hml : c.maxLocals = nL) (hown : s.vm.findClass own = some m.cls) (hK : va_K D vwCl (pm_tys aC) s) (hA : ∀ q, s.heap.size ≤ q → A q)
    (hX : va_X b sc.1 sc.2 s s.heap) (hbl : b < s.heap.size) (hbA : ¬ A b) (hus : ∀ (ci : Nat) (q : vw_C), vwCl[ci]? = some q → ∀ w ∈ u_ws q.1 q.2.1 q.2.2, w.before args s = true)
    (hn : ∀ w ∈ pm_need own (.aaload) res, w.before args s = true) (hnn : ∀ w ∈ pm_needN own (.aaload) res, w.before args s = true) (hao : ∀ t, 3 ≤ t → t ≤ 6 → va_AO (pm_atag t) s) (hck : pm_chk own ini (.aaload) len res = true) (hin : ini = true → meth.name = "<init>") (hrf : rk ≤ R.frames) (hrl : 42 * rk ≤ R.locals)
    (hd : decode cc pc = .ok (.aaload, len)) (hs : pm_do sc nL rk np mc rkOf (.aaload) res pc lv st h = some (.inl s1)) (O : pm_ok lv st h.1) : pm_Go p l e R s m args below meth c Q D aC b A nL nc0 ns0 (pc, lv, st, h) s1 ∧ pm_Ok2 (pc, lv, st, h) s1 := by
  have hlen : len = 1 := by simp only [pm_chk, pm_len, Bool.and_eq_true, Bool.or_eq_true, beq_iff_eq] at hck; omega
  subst hlen
  simp only [pm_do] at hs
  split at hs
  · split at hs
    · next t vs hq =>
      split at hs
      · cases hs
      · next hi =>
        have h3 : 3 ≤ t := by omega
        have e1 := pm_tyq (aC := aC) h3 (by omega)
        split at hs
        · next x hv => cases hs; exact ⟨po_aaload hx hb hK hq e1 h3 (fun z => hi (Or.inl z)) hv hd, pk_st O (pk_c (pk_cell (c := .inl (t, vs)) O.2.2 hq hv) (pk_t2 O.2.1))⟩
        · next hv => cases hs; exact ⟨po_aaloadN (x := 0) hx hb hK hq e1 h3 (fun z => hi (Or.inl z)) hv hd, pk_st O (pk_c (pm_okv_null _) (pk_t2 O.2.1))⟩
        · cases hs
    · cases hs
  · cases hs
theorem pq_iastore {p : Program} {l : Launch} {e : Env} {R : Room} {s : State} {m : MethodId} {args : Array Value} {below : List Frame} {meth : Method} {c : Code} {Q : State → Prop}
    {D : va_G} {aC : Nat → ClassId} {b : Nat} {sc : pm_Sc} {A : Nat → Prop} {nL nc0 ns0 rk : Nat} {np mc rkOf : Nat → Nat} {cc : ByteArray} {own : String} {ini : Bool} {len : Nat} {res : List Nat} {pc : Nat} {lv : pm_L} {st : List Value} {h : pm_H} {s1 : pm_S}
    (hx : p.tables.exec = Jvm.exec) (hb : c.code = cc) (hml : c.maxLocals = nL) (hown : s.vm.findClass own = some m.cls) (hK : va_K D vwCl (pm_tys aC) s) (hA : ∀ q, s.heap.size ≤ q → A q)
    (hX : va_X b sc.1 sc.2 s s.heap) (hbl : b < s.heap.size) (hbA : ¬ A b) (hus : ∀ (ci : Nat) (q : vw_C), vwCl[ci]? = some q → ∀ w ∈ u_ws q.1 q.2.1 q.2.2, w.before args s = true)
    (hn : ∀ w ∈ pm_need own (.iastore) res, w.before args s = true) (hnn : ∀ w ∈ pm_needN own (.iastore) res, w.before args s = true) (hao : ∀ t, 3 ≤ t → t ≤ 6 → va_AO (pm_atag t) s) (hck : pm_chk own ini (.iastore) len res = true) (hin : ini = true → meth.name = "<init>") (hrf : rk ≤ R.frames) (hrl : 42 * rk ≤ R.locals)
    (hd : decode cc pc = .ok (.iastore, len)) (hs : pm_do sc nL rk np mc rkOf (.iastore) res pc lv st h = some (.inl s1)) (O : pm_ok lv st h.1) : pm_Go p l e R s m args below meth c Q D aC b A nL nc0 ns0 (pc, lv, st, h) s1 ∧ pm_Ok2 (pc, lv, st, h) s1 := by
  have hlen : len = 1 := by simp only [pm_chk, pm_len, Bool.and_eq_true, Bool.or_eq_true, beq_iff_eq] at hck; omega
  subst hlen
  simp only [pm_do] at hs
  split at hs
  · split at hs
    · next vs hq =>
      split at hs
      · next hi =>
        cases hs
        exact ⟨po_iastore hx hb hK hq hi.1 hi.2 hd, pk_set O (pk_t3 O.2.1) (pk_vset (fun w hw => O.2.2 _ (List.mem_of_getElem? hq) w hw) (pm_okv_int _ _))⟩
      · cases hs
    · cases hs
  · cases hs
theorem pq_lastore {p : Program} {l : Launch} {e : Env} {R : Room} {s : State} {m : MethodId} {args : Array Value} {below : List Frame} {meth : Method} {c : Code} {Q : State → Prop}
    {D : va_G} {aC : Nat → ClassId} {b : Nat} {sc : pm_Sc} {A : Nat → Prop} {nL nc0 ns0 rk : Nat} {np mc rkOf : Nat → Nat} {cc : ByteArray} {own : String} {ini : Bool} {len : Nat} {res : List Nat} {pc : Nat} {lv : pm_L} {st : List Value} {h : pm_H} {s1 : pm_S}
    (hx : p.tables.exec = Jvm.exec) (hb : c.code = cc) (hml : c.maxLocals = nL) (hown : s.vm.findClass own = some m.cls) (hK : va_K D vwCl (pm_tys aC) s) (hA : ∀ q, s.heap.size ≤ q → A q)
    (hX : va_X b sc.1 sc.2 s s.heap) (hbl : b < s.heap.size) (hbA : ¬ A b) (hus : ∀ (ci : Nat) (q : vw_C), vwCl[ci]? = some q → ∀ w ∈ u_ws q.1 q.2.1 q.2.2, w.before args s = true)
    (hn : ∀ w ∈ pm_need own (.lastore) res, w.before args s = true) (hnn : ∀ w ∈ pm_needN own (.lastore) res, w.before args s = true) (hao : ∀ t, 3 ≤ t → t ≤ 6 → va_AO (pm_atag t) s) (hck : pm_chk own ini (.lastore) len res = true) (hin : ini = true → meth.name = "<init>") (hrf : rk ≤ R.frames) (hrl : 42 * rk ≤ R.locals)
    (hd : decode cc pc = .ok (.lastore, len)) (hs : pm_do sc nL rk np mc rkOf (.lastore) res pc lv st h = some (.inl s1)) (O : pm_ok lv st h.1) : pm_Go p l e R s m args below meth c Q D aC b A nL nc0 ns0 (pc, lv, st, h) s1 ∧ pm_Ok2 (pc, lv, st, h) s1 := by
  have hlen : len = 1 := by simp only [pm_chk, pm_len, Bool.and_eq_true, Bool.or_eq_true, beq_iff_eq] at hck; omega
  subst hlen
  simp only [pm_do] at hs
  split at hs
  · split at hs
    · next vs hq =>
      split at hs
      · next hi =>
        cases hs
        exact ⟨po_lastore hx hb hK hq hi.1 hi.2 hd, pk_set O (pk_t3 O.2.1) (pk_vset (fun w hw => O.2.2 _ (List.mem_of_getElem? hq) w hw) (pm_okv_long _ _))⟩
      · cases hs
    · cases hs
  · cases hs
theorem pq_bastore {p : Program} {l : Launch} {e : Env} {R : Room} {s : State} {m : MethodId} {args : Array Value} {below : List Frame} {meth : Method} {c : Code} {Q : State → Prop}
    {D : va_G} {aC : Nat → ClassId} {b : Nat} {sc : pm_Sc} {A : Nat → Prop} {nL nc0 ns0 rk : Nat} {np mc rkOf : Nat → Nat} {cc : ByteArray} {own : String} {ini : Bool} {len : Nat} {res : List Nat} {pc : Nat} {lv : pm_L} {st : List Value} {h : pm_H} {s1 : pm_S}
    (hx : p.tables.exec = Jvm.exec) (hb : c.code = cc) (hml : c.maxLocals = nL) (hown : s.vm.findClass own = some m.cls) (hK : va_K D vwCl (pm_tys aC) s) (hA : ∀ q, s.heap.size ≤ q → A q)
    (hX : va_X b sc.1 sc.2 s s.heap) (hbl : b < s.heap.size) (hbA : ¬ A b) (hus : ∀ (ci : Nat) (q : vw_C), vwCl[ci]? = some q → ∀ w ∈ u_ws q.1 q.2.1 q.2.2, w.before args s = true)
    (hn : ∀ w ∈ pm_need own (.bastore) res, w.before args s = true) (hnn : ∀ w ∈ pm_needN own (.bastore) res, w.before args s = true) (hao : ∀ t, 3 ≤ t → t ≤ 6 → va_AO (pm_atag t) s) (hck : pm_chk own ini (.bastore) len res = true) (hin : ini = true → meth.name = "<init>") (hrf : rk ≤ R.frames) (hrl : 42 * rk ≤ R.locals)
    (hd : decode cc pc = .ok (.bastore, len)) (hs : pm_do sc nL rk np mc rkOf (.bastore) res pc lv st h = some (.inl s1)) (O : pm_ok lv st h.1) : pm_Go p l e R s m args below meth c Q D aC b A nL nc0 ns0 (pc, lv, st, h) s1 ∧ pm_Ok2 (pc, lv, st, h) s1 := by
  have hlen : len = 1 := by simp only [pm_chk, pm_len, Bool.and_eq_true, Bool.or_eq_true, beq_iff_eq] at hck; omega
  subst hlen
  simp only [pm_do] at hs
  split at hs
  · split at hs
    · next vs hq =>
      split at hs
      · next hi =>
        cases hs
        exact ⟨po_bastore hx hb hK hq hi.1 hi.2.1 hi.2.2 hd, pk_set O (pk_t3 O.2.1) (pk_vset (fun w hw => O.2.2 _ (List.mem_of_getElem? hq) w hw) (pm_okv_int _ _))⟩
      · cases hs
    · cases hs
  · cases hs
theorem pq_aastore {p : Program} {l : Launch} {e : Env} {R : Room} {s : State} {m : MethodId} {args : Array Value} {below : List Frame} {meth : Method} {c : Code} {Q : State → Prop}
    {D : va_G} {aC : Nat → ClassId} {b : Nat} {sc : pm_Sc} {A : Nat → Prop} {nL nc0 ns0 rk : Nat} {np mc rkOf : Nat → Nat} {cc : ByteArray} {own : String} {ini : Bool} {len : Nat} {res : List Nat} {pc : Nat} {lv : pm_L} {st : List Value} {h : pm_H} {s1 : pm_S}
    (hx : p.tables.exec = Jvm.exec) (hb : c.code = cc) (hml : c.maxLocals = nL) (hown : s.vm.findClass own = some m.cls) (hK : va_K D vwCl (pm_tys aC) s) (hA : ∀ q, s.heap.size ≤ q → A q)
    (hX : va_X b sc.1 sc.2 s s.heap) (hbl : b < s.heap.size) (hbA : ¬ A b) (hus : ∀ (ci : Nat) (q : vw_C), vwCl[ci]? = some q → ∀ w ∈ u_ws q.1 q.2.1 q.2.2, w.before args s = true)
    (hn : ∀ w ∈ pm_need own (.aastore) res, w.before args s = true) (hnn : ∀ w ∈ pm_needN own (.aastore) res, w.before args s = true) (hao : ∀ t, 3 ≤ t → t ≤ 6 → va_AO (pm_atag t) s) (hck : pm_chk own ini (.aastore) len res = true) (hin : ini = true → meth.name = "<init>") (hrf : rk ≤ R.frames) (hrl : 42 * rk ≤ R.locals)
    (hd : decode cc pc = .ok (.aastore, len)) (hs : pm_do sc nL rk np mc rkOf (.aastore) res pc lv st h = some (.inl s1)) (O : pm_ok lv st h.1) : pm_Go p l e R s m args below meth c Q D aC b A nL nc0 ns0 (pc, lv, st, h) s1 ∧ pm_Ok2 (pc, lv, st, h) s1 := by
  have hlen : len = 1 := by simp only [pm_chk, pm_len, Bool.and_eq_true, Bool.or_eq_true, beq_iff_eq] at hck; omega
  subst hlen
  simp only [pm_do] at hs
  split at hs
  · split at hs
    · next t vs c0 ws hq hw =>
      split at hs
      · next hi =>
        obtain ⟨i1, i2, h3, h6, rfl⟩ := hi
        cases hs
        have e1 := pm_tyq (aC := aC) h3 h6
        obtain ⟨T, N, e2⟩ := pm_elc h3 h6
        exact ⟨po_aastore hx hb hK hw e2 hq e1 h3 i1 i2 hd, pk_set O (pk_t3 O.2.1) (pk_vset (fun w hw => O.2.2 _ (List.mem_of_getElem? hq) w hw) (pk_h O.2.1))⟩
      · cases hs
    · cases hs
  · split at hs
    · next t vs hq =>
      split at hs
      · next hi =>
        obtain ⟨i1, i2, h3, h6⟩ := hi
        cases hs
        have e1 := pm_tyq (aC := aC) h3 h6
        exact ⟨po_aastoreN hx hb hK hq e1 h3 i1 i2 hd, pk_set O (pk_t3 O.2.1) (pk_vset (fun w hw => O.2.2 _ (List.mem_of_getElem? hq) w hw) (pm_okv_null _))⟩
      · cases hs
    · cases hs
  · cases hs
theorem pq_new {p : Program} {l : Launch} {e : Env} {R : Room} {s : State} {m : MethodId} {args : Array Value} {below : List Frame} {meth : Method} {c : Code} {Q : State → Prop}
    {D : va_G} {aC : Nat → ClassId} {b : Nat} {sc : pm_Sc} {A : Nat → Prop} {nL nc0 ns0 rk : Nat} {np mc rkOf : Nat → Nat} {cc : ByteArray} {own : String} {ini : Bool} {i : Nat} {len : Nat} {res : List Nat} {pc : Nat} {lv : pm_L} {st : List Value} {h : pm_H} {s1 : pm_S}
    (hx : p.tables.exec = Jvm.exec) (hb : c.code = cc) (hml : c.maxLocals = nL) (hown : s.vm.findClass own = some m.cls) (hK : va_K D vwCl (pm_tys aC) s) (hA : ∀ q, s.heap.size ≤ q → A q)
    (hX : va_X b sc.1 sc.2 s s.heap) (hbl : b < s.heap.size) (hbA : ¬ A b) (hus : ∀ (ci : Nat) (q : vw_C), vwCl[ci]? = some q → ∀ w ∈ u_ws q.1 q.2.1 q.2.2, w.before args s = true)
    (hn : ∀ w ∈ pm_need own (.new i) res, w.before args s = true) (hnn : ∀ w ∈ pm_needN own (.new i) res, w.before args s = true) (hao : ∀ t, 3 ≤ t → t ≤ 6 → va_AO (pm_atag t) s) (hck : pm_chk own ini (.new i) len res = true) (hin : ini = true → meth.name = "<init>") (hrf : rk ≤ R.frames) (hrl : 42 * rk ≤ R.locals)
    (hd : decode cc pc = .ok (.new i, len)) (hs : pm_do sc nL rk np mc rkOf (.new i) res pc lv st h = some (.inl s1)) (O : pm_ok lv st h.1) : pm_Go p l e R s m args below meth c Q D aC b A nL nc0 ns0 (pc, lv, st, h) s1 ∧ pm_Ok2 (pc, lv, st, h) s1 := by
  have hlen : len = 3 := by simp only [pm_chk, pm_len, Bool.and_eq_true, Bool.or_eq_true, beq_iff_eq] at hck; omega
  subst hlen
  simp only [pm_do] at hs
  split at hs
  · next ci =>
    split at hs
    · next hci =>
      cases hs
      cases hcl : vwCl[ci]? with
      | none => exact absurd (List.getElem?_eq_none_iff.mp hcl) (by simp [vwCl]; omega)
      | some w =>
        obtain ⟨t1, -, t3, t4⟩ := pm_cls ci _ hcl
        have hn' : ∀ z ∈ [Cond.classLink own i w.1, .instantiable w.1 w.2.2, .initialized w.1], z.before args s = true := fun z hz => hn z (by simp only [pm_need, hcl]; exact hz)
        exact ⟨po_new hx hb hK (hus ci _ hcl) hown hcl (pm_ty ci) t1 (hn' _ (by simp)) (hn' _ (by simp)) (hn' _ (by simp)) hA t4 t3 hd, pk_new O O.2.1 (pk_df ci)⟩
    · cases hs
  · cases hs
theorem pq_newarray {p : Program} {l : Launch} {e : Env} {R : Room} {s : State} {m : MethodId} {args : Array Value} {below : List Frame} {meth : Method} {c : Code} {Q : State → Prop}
    {D : va_G} {aC : Nat → ClassId} {b : Nat} {sc : pm_Sc} {A : Nat → Prop} {nL nc0 ns0 rk : Nat} {np mc rkOf : Nat → Nat} {cc : ByteArray} {own : String} {ini : Bool} {a : ArrayType} {len : Nat} {res : List Nat} {pc : Nat} {lv : pm_L} {st : List Value} {h : pm_H} {s1 : pm_S}
    (hx : p.tables.exec = Jvm.exec) (hb : c.code = cc) (hml : c.maxLocals = nL) (hown : s.vm.findClass own = some m.cls) (hK : va_K D vwCl (pm_tys aC) s) (hA : ∀ q, s.heap.size ≤ q → A q)
    (hX : va_X b sc.1 sc.2 s s.heap) (hbl : b < s.heap.size) (hbA : ¬ A b) (hus : ∀ (ci : Nat) (q : vw_C), vwCl[ci]? = some q → ∀ w ∈ u_ws q.1 q.2.1 q.2.2, w.before args s = true)
    (hn : ∀ w ∈ pm_need own (.newarray a) res, w.before args s = true) (hnn : ∀ w ∈ pm_needN own (.newarray a) res, w.before args s = true) (hao : ∀ t, 3 ≤ t → t ≤ 6 → va_AO (pm_atag t) s) (hck : pm_chk own ini (.newarray a) len res = true) (hin : ini = true → meth.name = "<init>") (hrf : rk ≤ R.frames) (hrl : 42 * rk ≤ R.locals)
    (hd : decode cc pc = .ok (.newarray a, len)) (hs : pm_do sc nL rk np mc rkOf (.newarray a) res pc lv st h = some (.inl s1)) (O : pm_ok lv st h.1) : pm_Go p l e R s m args below meth c Q D aC b A nL nc0 ns0 (pc, lv, st, h) s1 ∧ pm_Ok2 (pc, lv, st, h) s1 := by
  have hlen : len = 2 := by simp only [pm_chk, pm_len, Bool.and_eq_true, Bool.or_eq_true, beq_iff_eq] at hck; omega
  subst hlen
  simp only [pm_do] at hs
  split at hs
  · split at hs
    · next hi =>
      obtain ⟨h1, h2, h3⟩ := hi
      cases hs
      have harr := hn _ (by simp only [pm_need]; exact List.mem_cons_self)
      rcases h1 with ⟨rfl, rfl⟩ | ⟨rfl, rfl⟩ | ⟨rfl, rfl⟩
      · exact ⟨po_newi hx hb hK harr hA h2 h3 hd, pk_new O (pk_t1 O.2.1) (pk_rep (pm_okv_int _ _))⟩
      · exact ⟨po_newl hx hb hK harr hA h2 h3 hd, pk_new O (pk_t1 O.2.1) (pk_rep (pm_okv_long _ _))⟩
      · exact ⟨po_newz hx hb hK harr hA h2 h3 hd, pk_new O (pk_t1 O.2.1) (pk_rep (pm_okv_int _ _))⟩
    · cases hs
  · cases hs
theorem pq_anewarray {p : Program} {l : Launch} {e : Env} {R : Room} {s : State} {m : MethodId} {args : Array Value} {below : List Frame} {meth : Method} {c : Code} {Q : State → Prop}
    {D : va_G} {aC : Nat → ClassId} {b : Nat} {sc : pm_Sc} {A : Nat → Prop} {nL nc0 ns0 rk : Nat} {np mc rkOf : Nat → Nat} {cc : ByteArray} {own : String} {ini : Bool} {i : Nat} {len : Nat} {res : List Nat} {pc : Nat} {lv : pm_L} {st : List Value} {h : pm_H} {s1 : pm_S}
    (hx : p.tables.exec = Jvm.exec) (hb : c.code = cc) (hml : c.maxLocals = nL) (hown : s.vm.findClass own = some m.cls) (hK : va_K D vwCl (pm_tys aC) s) (hA : ∀ q, s.heap.size ≤ q → A q)
    (hX : va_X b sc.1 sc.2 s s.heap) (hbl : b < s.heap.size) (hbA : ¬ A b) (hus : ∀ (ci : Nat) (q : vw_C), vwCl[ci]? = some q → ∀ w ∈ u_ws q.1 q.2.1 q.2.2, w.before args s = true)
    (hn : ∀ w ∈ pm_need own (.anewarray i) res, w.before args s = true) (hnn : ∀ w ∈ pm_needN own (.anewarray i) res, w.before args s = true) (hao : ∀ t, 3 ≤ t → t ≤ 6 → va_AO (pm_atag t) s) (hck : pm_chk own ini (.anewarray i) len res = true) (hin : ini = true → meth.name = "<init>") (hrf : rk ≤ R.frames) (hrl : 42 * rk ≤ R.locals)
    (hd : decode cc pc = .ok (.anewarray i, len)) (hs : pm_do sc nL rk np mc rkOf (.anewarray i) res pc lv st h = some (.inl s1)) (O : pm_ok lv st h.1) : pm_Go p l e R s m args below meth c Q D aC b A nL nc0 ns0 (pc, lv, st, h) s1 ∧ pm_Ok2 (pc, lv, st, h) s1 := by
  have hlen : len = 3 := by simp only [pm_chk, pm_len, Bool.and_eq_true, Bool.or_eq_true, beq_iff_eq] at hck; omega
  subst hlen
  simp only [pm_do] at hs
  split at hs
  · next t n r =>
    split at hs
    · next hi =>
      obtain ⟨h3, h6, h1, h2⟩ := hi
      cases hs
      exact ⟨po_newq hx hb hK hown (hn _ (by simp only [pm_need]; exact List.mem_cons_self)) (hao t h3 h6) (pm_tyq h3 h6) h3 hA h1 h2 hd, pk_new O (pk_t1 O.2.1) (pk_rep (pm_okv_null _))⟩
    · cases hs
  · cases hs
theorem pq_invokespecial {p : Program} {l : Launch} {e : Env} {R : Room} {s : State} {m : MethodId} {args : Array Value} {below : List Frame} {meth : Method} {c : Code} {Q : State → Prop}
    {D : va_G} {aC : Nat → ClassId} {b : Nat} {sc : pm_Sc} {A : Nat → Prop} {nL nc0 ns0 rk : Nat} {np mc rkOf : Nat → Nat} {cc : ByteArray} {own : String} {ini : Bool} {i : Nat} {len : Nat} {res : List Nat} {pc : Nat} {lv : pm_L} {st : List Value} {h : pm_H} {s1 : pm_S}
    (hx : p.tables.exec = Jvm.exec) (hb : c.code = cc) (hml : c.maxLocals = nL) (hown : s.vm.findClass own = some m.cls) (hK : va_K D vwCl (pm_tys aC) s) (hA : ∀ q, s.heap.size ≤ q → A q)
    (hX : va_X b sc.1 sc.2 s s.heap) (hbl : b < s.heap.size) (hbA : ¬ A b) (hus : ∀ (ci : Nat) (q : vw_C), vwCl[ci]? = some q → ∀ w ∈ u_ws q.1 q.2.1 q.2.2, w.before args s = true)
    (hn : ∀ w ∈ pm_need own (.invokespecial i) res, w.before args s = true) (hnn : ∀ w ∈ pm_needN own (.invokespecial i) res, w.before args s = true) (hao : ∀ t, 3 ≤ t → t ≤ 6 → va_AO (pm_atag t) s) (hck : pm_chk own ini (.invokespecial i) len res = true) (hin : ini = true → meth.name = "<init>") (hrf : rk ≤ R.frames) (hrl : 42 * rk ≤ R.locals)
    (hd : decode cc pc = .ok (.invokespecial i, len)) (hs : pm_do sc nL rk np mc rkOf (.invokespecial i) res pc lv st h = some (.inl s1)) (O : pm_ok lv st h.1) : pm_Go p l e R s m args below meth c Q D aC b A nL nc0 ns0 (pc, lv, st, h) s1 ∧ pm_Ok2 (pc, lv, st, h) s1 := by
  have hlen : len = 3 := by simp only [pm_chk, pm_len, Bool.and_eq_true, Bool.or_eq_true, beq_iff_eq] at hck; omega
  subst hlen
  simp only [pm_do] at hs
  split at hs
  · split at hs
    · next hk =>
      subst hk
      split at hs
      · split at hs
        · next hi =>
          cases hs
          have hn' : ∀ z ∈ [Cond.methodLink own i Lib.objectInit, .instanceMethod Lib.objectInit, .code Lib.objectInit ⟨#[0xb1]⟩ 1 none], z.before args s = true := fun z hz => hn z (by simp only [pm_need]; exact hz)
          exact ⟨po_objinit hx hb hml hown (hn' _ (by simp)) (hn' _ (by simp)) (hn' _ (by simp)) (by omega) (by omega) hi.1 hd, pk_st O (pk_t1 O.2.1)⟩
        · cases hs
      · cases hs
    · split at hs
      · split at hs
        · split at hs
          · cases hs
          · cases hs
        · cases hs
      · cases hs
  · cases hs
theorem pq_invokestatic {p : Program} {l : Launch} {e : Env} {R : Room} {s : State} {m : MethodId} {args : Array Value} {below : List Frame} {meth : Method} {c : Code} {Q : State → Prop}
    {D : va_G} {aC : Nat → ClassId} {b : Nat} {sc : pm_Sc} {A : Nat → Prop} {nL nc0 ns0 rk : Nat} {np mc rkOf : Nat → Nat} {cc : ByteArray} {own : String} {ini : Bool} {i : Nat} {len : Nat} {res : List Nat} {pc : Nat} {lv : pm_L} {st : List Value} {h : pm_H} {s1 : pm_S}
    (hx : p.tables.exec = Jvm.exec) (hb : c.code = cc) (hml : c.maxLocals = nL) (hown : s.vm.findClass own = some m.cls) (hK : va_K D vwCl (pm_tys aC) s) (hA : ∀ q, s.heap.size ≤ q → A q)
    (hX : va_X b sc.1 sc.2 s s.heap) (hbl : b < s.heap.size) (hbA : ¬ A b) (hus : ∀ (ci : Nat) (q : vw_C), vwCl[ci]? = some q → ∀ w ∈ u_ws q.1 q.2.1 q.2.2, w.before args s = true)
    (hn : ∀ w ∈ pm_need own (.invokestatic i) res, w.before args s = true) (hnn : ∀ w ∈ pm_needN own (.invokestatic i) res, w.before args s = true) (hao : ∀ t, 3 ≤ t → t ≤ 6 → va_AO (pm_atag t) s) (hck : pm_chk own ini (.invokestatic i) len res = true) (hin : ini = true → meth.name = "<init>") (hrf : rk ≤ R.frames) (hrl : 42 * rk ≤ R.locals)
    (hd : decode cc pc = .ok (.invokestatic i, len)) (hs : pm_do sc nL rk np mc rkOf (.invokestatic i) res pc lv st h = some (.inl s1)) (O : pm_ok lv st h.1) : pm_Go p l e R s m args below meth c Q D aC b A nL nc0 ns0 (pc, lv, st, h) s1 ∧ pm_Ok2 (pc, lv, st, h) s1 := by
  have hlen : len = 3 := by simp only [pm_chk, pm_len, Bool.and_eq_true, Bool.or_eq_true, beq_iff_eq] at hck; omega
  subst hlen
  simp only [pm_do] at hs
  split at hs
  · split at hs
    · next hk =>
      subst hk
      split at hs
      · split at hs
        · next hi =>
          cases hs
          have hn' : ∀ z ∈ [Cond.methodLink own i Lib.Math.max.name, .static Lib.Math.max.name, .initialized "java/lang/Math", .code Lib.Math.max.name Lib.Math.max.code 2 (some .int)], z.before args s = true := fun z hz => hn z (by simp only [pm_need]; exact hz)
          exact ⟨po_mmax hx hb hml hown (hn' _ (by simp)) (hn' _ (by simp)) (hn' _ (by simp)) (hn' _ (by simp)) (by omega) (by omega) hi.1 hd, pk_st O (pk_c (pm_okv_int _ _) (pk_t2 O.2.1))⟩
        · cases hs
      · cases hs
    · split at hs
      · next hk =>
        subst hk
        split at hs
        · split at hs
          · next vs ws hq hw =>
            split at hs
            · next hi =>
              obtain ⟨i1, i2, i3, i4, i5, i6, i7⟩ := hi
              cases hs
              have hn' : ∀ z ∈ [Cond.methodLink own i arraycopyName, .native arraycopyName, .static arraycopyName, .initialized "java/lang/System"], z.before args s = true := fun z hz => hn z (by simp only [pm_need]; exact hz)
              exact ⟨po_copy hx hb hK hml hown (hn' _ (by simp)) (hn' _ (by simp)) (hn' _ (by simp)) (hn' _ (by simp)) hq hw i3 i4 i5 i6 i7 (by omega) (by omega) i1 hd, pk_set O (pk_t5 O.2.1) (pk_cpy (fun v hv => O.2.2 _ (List.mem_of_getElem? hq) v hv) (fun v hv => O.2.2 _ (List.mem_of_getElem? hw) v hv))⟩
            · cases hs
          · cases hs
        · cases hs
      · split at hs
        · split at hs
          · cases hs
          · cases hs
        · cases hs
  · cases hs
end
section
/-! any instruction that stays in its frame -/
theorem pm_one {p : Program} {l : Launch} {e : Env} {R : Room} {s : State} {m : MethodId} {args : Array Value} {below : List Frame} {meth : Method} {c : Code} {Q : State → Prop}
    {D : va_G} {aC : Nat → ClassId} {b : Nat} {sc : pm_Sc} {A : Nat → Prop} {nL nc0 ns0 rk : Nat} {np mc rkOf : Nat → Nat} {cc : ByteArray} {own : String} {ini : Bool} {ins : Instr} {len : Nat} {res : List Nat} {pc : Nat} {lv : pm_L} {st : List Value} {h : pm_H} {s1 : pm_S}
    (hx : p.tables.exec = Jvm.exec) (hb : c.code = cc) (hml : c.maxLocals = nL) (hown : s.vm.findClass own = some m.cls) (hK : va_K D vwCl (pm_tys aC) s) (hA : ∀ q, s.heap.size ≤ q → A q)
    (hX : va_X b sc.1 sc.2 s s.heap) (hbl : b < s.heap.size) (hbA : ¬ A b) (hus : ∀ (ci : Nat) (q : vw_C), vwCl[ci]? = some q → ∀ w ∈ u_ws q.1 q.2.1 q.2.2, w.before args s = true)
    (hn : ∀ w ∈ pm_need own ins res, w.before args s = true) (hnn : ∀ w ∈ pm_needN own ins res, w.before args s = true) (hao : ∀ t, 3 ≤ t → t ≤ 6 → va_AO (pm_atag t) s) (hck : pm_chk own ini ins len res = true) (hin : ini = true → meth.name = "<init>") (hrf : rk ≤ R.frames) (hrl : 42 * rk ≤ R.locals)
    (hd : decode cc pc = .ok (ins, len)) (hs : pm_do sc nL rk np mc rkOf ins res pc lv st h = some (.inl s1)) (O : pm_ok lv st h.1) : pm_Go p l e R s m args below meth c Q D aC b A nL nc0 ns0 (pc, lv, st, h) s1 ∧ pm_Ok2 (pc, lv, st, h) s1 := by
  cases ins
  case aconst_null => exact pq_aconst_null hx hb hml hown hK hA hX hbl hbA hus hn hnn hao hck hin hrf hrl hd hs O
  case iconst => exact pq_iconst hx hb hml hown hK hA hX hbl hbA hus hn hnn hao hck hin hrf hrl hd hs O
  case bipush => exact pq_bipush hx hb hml hown hK hA hX hbl hbA hus hn hnn hao hck hin hrf hrl hd hs O
  case sipush => exact pq_sipush hx hb hml hown hK hA hX hbl hbA hus hn hnn hao hck hin hrf hrl hd hs O
  case lconst => exact pq_lconst hx hb hml hown hK hA hX hbl hbA hus hn hnn hao hck hin hrf hrl hd hs O
  case iadd => exact pq_iadd hx hb hml hown hK hA hX hbl hbA hus hn hnn hao hck hin hrf hrl hd hs O
  case isub => exact pq_isub hx hb hml hown hK hA hX hbl hbA hus hn hnn hao hck hin hrf hrl hd hs O
  case imul => exact pq_imul hx hb hml hown hK hA hX hbl hbA hus hn hnn hao hck hin hrf hrl hd hs O
  case iand => exact pq_iand hx hb hml hown hK hA hX hbl hbA hus hn hnn hao hck hin hrf hrl hd hs O
  case ior => exact pq_ior hx hb hml hown hK hA hX hbl hbA hus hn hnn hao hck hin hrf hrl hd hs O
  case ixor => exact pq_ixor hx hb hml hown hK hA hX hbl hbA hus hn hnn hao hck hin hrf hrl hd hs O
  case ishl => exact pq_ishl hx hb hml hown hK hA hX hbl hbA hus hn hnn hao hck hin hrf hrl hd hs O
  case ishr => exact pq_ishr hx hb hml hown hK hA hX hbl hbA hus hn hnn hao hck hin hrf hrl hd hs O
  case iushr => exact pq_iushr hx hb hml hown hK hA hX hbl hbA hus hn hnn hao hck hin hrf hrl hd hs O
  case lsub => exact pq_lsub hx hb hml hown hK hA hX hbl hbA hus hn hnn hao hck hin hrf hrl hd hs O
  case land => exact pq_land hx hb hml hown hK hA hX hbl hbA hus hn hnn hao hck hin hrf hrl hd hs O
  case lor => exact pq_lor hx hb hml hown hK hA hX hbl hbA hus hn hnn hao hck hin hrf hrl hd hs O
  case lshl => exact pq_lshl hx hb hml hown hK hA hX hbl hbA hus hn hnn hao hck hin hrf hrl hd hs O
  case lshr => exact pq_lshr hx hb hml hown hK hA hX hbl hbA hus hn hnn hao hck hin hrf hrl hd hs O
  case i2l => exact pq_i2l hx hb hml hown hK hA hX hbl hbA hus hn hnn hao hck hin hrf hrl hd hs O
  case l2i => exact pq_l2i hx hb hml hown hK hA hX hbl hbA hus hn hnn hao hck hin hrf hrl hd hs O
  case lcmp => exact pq_lcmp hx hb hml hown hK hA hX hbl hbA hus hn hnn hao hck hin hrf hrl hd hs O
  case irem => exact pq_irem hx hb hml hown hK hA hX hbl hbA hus hn hnn hao hck hin hrf hrl hd hs O
  case ldc_w => exact pq_ldc_w hx hb hml hown hK hA hX hbl hbA hus hn hnn hao hck hin hrf hrl hd hs O
  case ldc2_w => exact pq_ldc2_w hx hb hml hown hK hA hX hbl hbA hus hn hnn hao hck hin hrf hrl hd hs O
  case iload_n => exact pq_iload_n hx hb hml hown hK hA hX hbl hbA hus hn hnn hao hck hin hrf hrl hd hs O
  case iload => exact pq_iload hx hb hml hown hK hA hX hbl hbA hus hn hnn hao hck hin hrf hrl hd hs O
  case lload_n => exact pq_lload_n hx hb hml hown hK hA hX hbl hbA hus hn hnn hao hck hin hrf hrl hd hs O
  case lload => exact pq_lload hx hb hml hown hK hA hX hbl hbA hus hn hnn hao hck hin hrf hrl hd hs O
  case aload_n => exact pq_aload_n hx hb hml hown hK hA hX hbl hbA hus hn hnn hao hck hin hrf hrl hd hs O
  case aload => exact pq_aload hx hb hml hown hK hA hX hbl hbA hus hn hnn hao hck hin hrf hrl hd hs O
  case istore_n => exact pq_istore_n hx hb hml hown hK hA hX hbl hbA hus hn hnn hao hck hin hrf hrl hd hs O
  case istore => exact pq_istore hx hb hml hown hK hA hX hbl hbA hus hn hnn hao hck hin hrf hrl hd hs O
  case lstore_n => exact pq_lstore_n hx hb hml hown hK hA hX hbl hbA hus hn hnn hao hck hin hrf hrl hd hs O
  case lstore => exact pq_lstore hx hb hml hown hK hA hX hbl hbA hus hn hnn hao hck hin hrf hrl hd hs O
  case astore_n => exact pq_astore_n hx hb hml hown hK hA hX hbl hbA hus hn hnn hao hck hin hrf hrl hd hs O
  case astore => exact pq_astore hx hb hml hown hK hA hX hbl hbA hus hn hnn hao hck hin hrf hrl hd hs O
  case iinc => exact pq_iinc hx hb hml hown hK hA hX hbl hbA hus hn hnn hao hck hin hrf hrl hd hs O
  case dup => exact pq_dup hx hb hml hown hK hA hX hbl hbA hus hn hnn hao hck hin hrf hrl hd hs O
  case pop => exact pq_pop hx hb hml hown hK hA hX hbl hbA hus hn hnn hao hck hin hrf hrl hd hs O
  case dup2 => exact pq_dup2 hx hb hml hown hK hA hX hbl hbA hus hn hnn hao hck hin hrf hrl hd hs O
  case goto => exact pq_goto hx hb hml hown hK hA hX hbl hbA hus hn hnn hao hck hin hrf hrl hd hs O
  case ifCond => exact pq_ifCond hx hb hml hown hK hA hX hbl hbA hus hn hnn hao hck hin hrf hrl hd hs O
  case if_icmp => exact pq_if_icmp hx hb hml hown hK hA hX hbl hbA hus hn hnn hao hck hin hrf hrl hd hs O
  case ifnull => exact pq_ifnull hx hb hml hown hK hA hX hbl hbA hus hn hnn hao hck hin hrf hrl hd hs O
  case ifnonnull => exact pq_ifnonnull hx hb hml hown hK hA hX hbl hbA hus hn hnn hao hck hin hrf hrl hd hs O
  case tableswitch => exact pq_tableswitch hx hb hml hown hK hA hX hbl hbA hus hn hnn hao hck hin hrf hrl hd hs O
  case getfield => exact pq_getfield hx hb hml hown hK hA hX hbl hbA hus hn hnn hao hck hin hrf hrl hd hs O
  case putfield => exact pq_putfield hx hb hml hown hK hA hX hbl hbA hus hn hnn hao hck hin hrf hrl hd hs O
  case arraylength => exact pq_arraylength hx hb hml hown hK hA hX hbl hbA hus hn hnn hao hck hin hrf hrl hd hs O
  case iaload => exact pq_iaload hx hb hml hown hK hA hX hbl hbA hus hn hnn hao hck hin hrf hrl hd hs O
  case laload => exact pq_laload hx hb hml hown hK hA hX hbl hbA hus hn hnn hao hck hin hrf hrl hd hs O
  case baload => exact pq_baload hx hb hml hown hK hA hX hbl hbA hus hn hnn hao hck hin hrf hrl hd hs O
  case aaload => exact pq_aaload hx hb hml hown hK hA hX hbl hbA hus hn hnn hao hck hin hrf hrl hd hs O
  case iastore => exact pq_iastore hx hb hml hown hK hA hX hbl hbA hus hn hnn hao hck hin hrf hrl hd hs O
  case lastore => exact pq_lastore hx hb hml hown hK hA hX hbl hbA hus hn hnn hao hck hin hrf hrl hd hs O
  case bastore => exact pq_bastore hx hb hml hown hK hA hX hbl hbA hus hn hnn hao hck hin hrf hrl hd hs O
  case aastore => exact pq_aastore hx hb hml hown hK hA hX hbl hbA hus hn hnn hao hck hin hrf hrl hd hs O
  case new => exact pq_new hx hb hml hown hK hA hX hbl hbA hus hn hnn hao hck hin hrf hrl hd hs O
  case newarray => exact pq_newarray hx hb hml hown hK hA hX hbl hbA hus hn hnn hao hck hin hrf hrl hd hs O
  case anewarray => exact pq_anewarray hx hb hml hown hK hA hX hbl hbA hus hn hnn hao hck hin hrf hrl hd hs O
  case invokespecial => exact pq_invokespecial hx hb hml hown hK hA hX hbl hbA hus hn hnn hao hck hin hrf hrl hd hs O
  case invokestatic => exact pq_invokestatic hx hb hml hown hK hA hX hbl hbA hus hn hnn hao hck hin hrf hrl hd hs O
  case invokevirtual =>
    simp only [pm_do] at hs
    split at hs
    · split at hs
      · split at hs
        · split at hs
          · split at hs
            · cases hs
            · cases hs
          · cases hs
        · cases hs
      · cases hs
    · cases hs
  all_goals (exact absurd hs (by simp [pm_do]))
def pm_tbs : List (List pm_R) := [tb_X0_init, tb_X0_find, tb_X0_begin, tb_X0_tryAgain, tb_X0_take, tb_X0_lookAt, tb_X0_countAcks, tb_X1_init, tb_X1_add, tb_X1_at, tb_X1_placeOf, tb_X1_digest, tb_X1_beginsWith, tb_X1_copy, tb_X1_digestWith, tb_X2_init, tb_X2_samePoint, tb_X2_sameReply, tb_X3_init, tb_X3_tell, tb_X4_init, tb_X4_send, tb_X4_sendToAll, tb_X4_find, tb_X5_init, tb_X5_tell, tb_X5_fittingOrder, tb_X5_take, tb_X5_endPatience, tb_X5_takeAsk, tb_X5_takeOrder, tb_X5_takeProof, tb_X5_takeHate, tb_X5_changeView, tb_X5_keepChange, tb_X5_mayTurn, tb_X5_countChanges, tb_X5_changedHistory, tb_X5_mergeChanges, tb_X5_mostFixed, tb_X5_agreedNext, tb_X5_nextAfter, tb_X5_turnTo, tb_X5_doNext, tb_X5_orderOf, tb_X5_reply, tb_X6_init, tb_X6_doOn, tb_X6_keep, tb_X6_agreedBy, tb_X6_countLike, tb_X6_finish, tb_X6_tell, tb_X6_countReplies, tb_X7_init, tb_X7_issue, tb_X7_retry, tb_X7_deliver, tb_X7_flood, tb_X7_lose, tb_X7_patience, tb_X7_lie, tb_X7_echo, tb_X7_replica, tb_X7_messages, tb_X7_message, tb_X7_request, tb_X7_view, tb_X7_handOver, tb_X7_isReplica, tb_X7_primaryOf, tb_X7_askFor, tb_X8_init, tb_X8_thrown, tb_X8_refuse, tb_X8_at, tb_X8_with, tb_X8_begin, tb_X8_digestOf, tb_X8_placeIn, tb_X8_work, tb_X8_send, tb_X8_sendToAll, tb_X8_sendRow, tb_X8_reply, tb_X8_order, tb_X8_isPrimary, tb_X8_append, tb_X8_takeAsk, tb_X8_takeOrder, tb_X8_takeProof, tb_X8_bits, tb_X8_takeHate, tb_X8_takeChange, tb_X8_safest, tb_X8_goesOn, tb_X8_nextOf, tb_X8_makeNew, tb_X8_turn, tb_X8_takeNew, tb_X8_take, tb_X8_areAlike, tb_X8_alike, tb_X8_finish, tb_X8_look, tb_X8_takeReply, tb_X8_takeAck, tb_X8_issue, tb_X8_isRequest, tb_X8_retry, tb_X8_isUnderWay, tb_X8_deliver, tb_X8_flood, tb_X8_lose, tb_X8_isReplica, tb_X8_refuseThis, tb_X8_patience, tb_X8_lie, tb_X8_echo, tb_X8_replica, tb_X8_messages, tb_X8_message, tb_X8_replies, tb_X8_request, tb_X8_view, tb_J6_bitCount_0f7a4, tb_L_cell, tb_L_issue, tb_L_retry, tb_L_flood, tb_L_patience, tb_L_lie, tb_L_echo, tb_L_replica, tb_L_message, tb_L_request, tb_L_law]
def pm_ys : List MethodName := [yX0_init, yX0_find, yX0_begin, yX0_tryAgain, yX0_take, yX0_lookAt, yX0_countAcks, yX1_init, yX1_add, yX1_at, yX1_placeOf, yX1_digest, yX1_beginsWith, yX1_copy, yX1_digestWith, yX2_init, yX2_samePoint, yX2_sameReply, yX3_init, yX3_tell, yX4_init, yX4_send, yX4_sendToAll, yX4_find, yX5_init, yX5_tell, yX5_fittingOrder, yX5_take, yX5_endPatience, yX5_takeAsk, yX5_takeOrder, yX5_takeProof, yX5_takeHate, yX5_changeView, yX5_keepChange, yX5_mayTurn, yX5_countChanges, yX5_changedHistory, yX5_mergeChanges, yX5_mostFixed, yX5_agreedNext, yX5_nextAfter, yX5_turnTo, yX5_doNext, yX5_orderOf, yX5_reply, yX6_init, yX6_doOn, yX6_keep, yX6_agreedBy, yX6_countLike, yX6_finish, yX6_tell, yX6_countReplies, yX7_init, yX7_issue, yX7_retry, yX7_deliver, yX7_flood, yX7_lose, yX7_patience, yX7_lie, yX7_echo, yX7_replica, yX7_messages, yX7_message, yX7_request, yX7_view, yX7_handOver, yX7_isReplica, yX7_primaryOf, yX7_askFor, yX8_init, yX8_thrown, yX8_refuse, yX8_at, yX8_with, yX8_begin, yX8_digestOf, yX8_placeIn, yX8_work, yX8_send, yX8_sendToAll, yX8_sendRow, yX8_reply, yX8_order, yX8_isPrimary, yX8_append, yX8_takeAsk, yX8_takeOrder, yX8_takeProof, yX8_bits, yX8_takeHate, yX8_takeChange, yX8_safest, yX8_goesOn, yX8_nextOf, yX8_makeNew, yX8_turn, yX8_takeNew, yX8_take, yX8_areAlike, yX8_alike, yX8_finish, yX8_look, yX8_takeReply, yX8_takeAck, yX8_issue, yX8_isRequest, yX8_retry, yX8_isUnderWay, yX8_deliver, yX8_flood, yX8_lose, yX8_isReplica, yX8_refuseThis, yX8_patience, yX8_lie, yX8_echo, yX8_replica, yX8_messages, yX8_message, yX8_replies, yX8_request, yX8_view, yJ6_bitCount_0f7a4, yL_cell, yL_issue, yL_retry, yL_flood, yL_patience, yL_lie, yL_echo, yL_replica, yL_message, yL_request, yL_law]
def pm_bs : List ByteArray := [cX0_init, cX0_find, cX0_begin, cX0_tryAgain, cX0_take, cX0_lookAt, cX0_countAcks, cX1_init, cX1_add, cX1_at, cX1_placeOf, cX1_digest, cX1_beginsWith, cX1_copy, cX1_digestWith, cX2_init, cX2_samePoint, cX2_sameReply, cX3_init, cX3_tell, cX4_init, cX4_send, cX4_sendToAll, cX4_find, cX5_init, cX5_tell, cX5_fittingOrder, cX5_take, cX5_endPatience, cX5_takeAsk, cX5_takeOrder, cX5_takeProof, cX5_takeHate, cX5_changeView, cX5_keepChange, cX5_mayTurn, cX5_countChanges, cX5_changedHistory, cX5_mergeChanges, cX5_mostFixed, cX5_agreedNext, cX5_nextAfter, cX5_turnTo, cX5_doNext, cX5_orderOf, cX5_reply, cX6_init, cX6_doOn, cX6_keep, cX6_agreedBy, cX6_countLike, cX6_finish, cX6_tell, cX6_countReplies, cX7_init, cX7_issue, cX7_retry, cX7_deliver, cX7_flood, cX7_lose, cX7_patience, cX7_lie, cX7_echo, cX7_replica, cX7_messages, cX7_message, cX7_request, cX7_view, cX7_handOver, cX7_isReplica, cX7_primaryOf, cX7_askFor, cX8_init, cX8_thrown, cX8_refuse, cX8_at, cX8_with, cX8_begin, cX8_digestOf, cX8_placeIn, cX8_work, cX8_send, cX8_sendToAll, cX8_sendRow, cX8_reply, cX8_order, cX8_isPrimary, cX8_append, cX8_takeAsk, cX8_takeOrder, cX8_takeProof, cX8_bits, cX8_takeHate, cX8_takeChange, cX8_safest, cX8_goesOn, cX8_nextOf, cX8_makeNew, cX8_turn, cX8_takeNew, cX8_take, cX8_areAlike, cX8_alike, cX8_finish, cX8_look, cX8_takeReply, cX8_takeAck, cX8_issue, cX8_isRequest, cX8_retry, cX8_isUnderWay, cX8_deliver, cX8_flood, cX8_lose, cX8_isReplica, cX8_refuseThis, cX8_patience, cX8_lie, cX8_echo, cX8_replica, cX8_messages, cX8_message, cX8_replies, cX8_request, cX8_view, cJ6_bitCount_0f7a4, cL_cell, cL_issue, cL_retry, cL_flood, cL_patience, cL_lie, cL_echo, cL_replica, cL_message, cL_request, cL_law]
def pm_nLs : List Nat := [3, 2, 3, 4, 4, 3, 4, 1, 2, 2, 3, 4, 3, 2, 2, 8, 2, 2, 4, 2, 1, 4, 4, 2, 4, 2, 3, 4, 2, 5, 4, 2, 3, 2, 3, 3, 3, 3, 5, 4, 5, 4, 4, 3, 2, 4, 4, 3, 4, 3, 4, 2, 2, 3, 5, 4, 3, 2, 4, 3, 2, 5, 5, 7, 1, 4, 4, 1, 3, 1, 1, 1, 3, 1, 2, 3, 4, 3, 5, 6, 8, 9, 9, 10, 4, 3, 2, 3, 6, 7, 6, 3, 4, 11, 5, 8, 10, 9, 8, 5, 3, 3, 5, 4, 4, 8, 4, 5, 2, 4, 2, 2, 4, 2, 1, 1, 2, 3, 4, 3, 1, 3, 4, 3, 1, 1, 2, 6, 4, 4, 4, 5, 5, 5, 5, 5, 7]
def pm_rets : List (Option FieldType) := [none, (some (.object "SpecOrder$Request")), (some .int), (some .int), none, none, (some .int), none, none, (some .int), (some .int), (some .int), (some .boolean), (some (.object "SpecOrder$History")), (some .int), none, (some .boolean), (some .boolean), none, (some .int), none, none, none, (some (.object "SpecOrder$Message")), none, (some .int), (some (.object "SpecOrder$Letter")), none, (some .boolean), none, none, none, none, none, none, (some .boolean), (some .int), (some (.object "SpecOrder$History")), (some (.object "SpecOrder$History")), (some (.object "SpecOrder$History")), (some .int), (some .int), none, none, (some (.object "SpecOrder$Letter")), none, none, (some .int), none, (some (.object "SpecOrder$Letter")), (some .int), none, (some .int), (some .int), none, (some .int), (some .int), (some .boolean), (some .int), (some .boolean), (some .boolean), (some .boolean), (some .boolean), (some .int), (some .int), (some .int), (some .int), (some .int), (some .boolean), (some .boolean), (some .int), (some (.object "SpecOrder$Letter")), none, (some .int), (some .int), (some .int), (some .long), (some .long), (some .int), (some .int), (some .int), (some .int), none, none, none, none, (some .boolean), none, none, (some .boolean), none, (some .int), none, none, (some .int), (some .int), (some .int), none, none, none, none, (some .boolean), (some .int), none, none, none, none, (some .int), (some .boolean), (some .int), (some .boolean), (some .boolean), (some .int), (some .boolean), (some .boolean), (some .boolean), (some .boolean), (some .boolean), (some .boolean), (some .int), (some .int), (some .int), (some .int), (some .int), (some .int), (some .int), (some .int), (some .int), (some .int), (some .int), (some .int), (some .int), (some .int), (some .int), (some .int), (some .int), (some .boolean)]
def pm_rts : List Nat := [0, 4, 1, 1, 0, 0, 1, 0, 0, 1, 1, 1, 2, 4, 1, 0, 2, 2, 0, 1, 0, 0, 0, 4, 0, 1, 4, 0, 2, 0, 0, 0, 0, 0, 0, 2, 1, 4, 4, 4, 1, 1, 0, 0, 4, 0, 0, 1, 0, 4, 1, 0, 1, 1, 0, 1, 1, 2, 1, 2, 2, 2, 2, 1, 1, 1, 1, 1, 2, 2, 1, 4, 0, 1, 1, 1, 3, 3, 1, 1, 1, 1, 0, 0, 0, 0, 2, 0, 0, 2, 0, 1, 0, 0, 1, 1, 1, 0, 0, 0, 0, 2, 1, 0, 0, 0, 0, 1, 2, 1, 2, 2, 1, 2, 2, 2, 2, 2, 2, 1, 1, 1, 1, 1, 1, 1, 1, 1, 1, 1, 1, 1, 1, 1, 1, 1, 2]
def pm_nps : List Nat := [2, 1, 1, 2, 2, 1, 1, 0, 1, 1, 1, 1, 1, 0, 2, 7, 1, 1, 3, 1, 0, 3, 2, 1, 3, 1, 1, 2, 0, 2, 2, 1, 2, 0, 2, 2, 0, 1, 0, 0, 1, 2, 2, 1, 1, 1, 3, 1, 2, 1, 1, 1, 1, 0, 1, 3, 1, 1, 1, 1, 1, 2, 2, 2, 0, 2, 2, 0, 1, 1, 1, 1, 1, 0, 1, 2, 3, 2, 2, 3, 2, 7, 6, 7, 2, 2, 1, 2, 3, 6, 4, 1, 2, 6, 1, 4, 3, 1, 5, 2, 2, 2, 2, 3, 1, 6, 1, 3, 1, 1, 1, 1, 1, 1, 1, 0, 1, 2, 2, 2, 0, 2, 1, 2, 0, 1, 2, 5, 3, 3, 3, 4, 4, 4, 4, 4, 1]
def pm_mcs : List Nat := [0, 0, 0, 0, 0, 0, 0, 1, 1, 1, 1, 1, 1, 1, 1, 2, 2, 2, 3, 3, 4, 4, 4, 4, 5, 5, 5, 5, 5, 5, 5, 5, 5, 5, 5, 5, 5, 5, 5, 5, 5, 5, 5, 5, 5, 5, 6, 6, 6, 6, 6, 6, 6, 6, 7, 7, 7, 7, 7, 7, 7, 7, 7, 7, 7, 7, 7, 7, 7, 7, 7, 7, 8, 8, 8, 8, 8, 8, 8, 8, 8, 8, 8, 8, 8, 8, 8, 8, 8, 8, 8, 8, 8, 8, 8, 8, 8, 8, 8, 8, 8, 8, 8, 8, 8, 8, 8, 8, 8, 8, 8, 8, 8, 8, 8, 8, 8, 8, 8, 8, 8, 8, 8, 8, 8, 9, 9, 9, 9, 9, 9, 9, 9, 9, 9, 9, 9]
def pm_rks : List Nat := [1, 0, 3, 4, 5, 4, 1, 1, 0, 0, 0, 1, 0, 2, 0, 1, 0, 1, 1, 0, 1, 2, 3, 0, 2, 2, 2, 5, 6, 4, 4, 3, 4, 3, 1, 1, 1, 0, 3, 1, 2, 1, 4, 1, 2, 3, 1, 0, 0, 3, 2, 0, 1, 0, 3, 6, 6, 7, 7, 1, 7, 6, 6, 6, 0, 6, 6, 0, 6, 0, 0, 2, 1, 0, 0, 0, 0, 0, 1, 1, 1, 0, 1, 1, 2, 2, 0, 1, 3, 3, 2, 0, 6, 5, 0, 1, 2, 4, 3, 4, 7, 0, 1, 0, 2, 3, 3, 1, 0, 2, 0, 8, 9, 1, 0, 0, 7, 4, 4, 2, 0, 1, 0, 1, 0, 0, 0, 7, 7, 8, 8, 7, 7, 7, 7, 7, 10]
def pm_owns : List String := [RX0, RX0, RX0, RX0, RX0, RX0, RX0, RX1, RX1, RX1, RX1, RX1, RX1, RX1, RX1, RX2, RX2, RX2, RX3, RX3, RX4, RX4, RX4, RX4, RX5, RX5, RX5, RX5, RX5, RX5, RX5, RX5, RX5, RX5, RX5, RX5, RX5, RX5, RX5, RX5, RX5, RX5, RX5, RX5, RX5, RX5, RX6, RX6, RX6, RX6, RX6, RX6, RX6, RX6, RX7, RX7, RX7, RX7, RX7, RX7, RX7, RX7, RX7, RX7, RX7, RX7, RX7, RX7, RX7, RX7, RX7, RX7, RX8, RX8, RX8, RX8, RX8, RX8, RX8, RX8, RX8, RX8, RX8, RX8, RX8, RX8, RX8, RX8, RX8, RX8, RX8, RX8, RX8, RX8, RX8, RX8, RX8, RX8, RX8, RX8, RX8, RX8, RX8, RX8, RX8, RX8, RX8, RX8, RX8, RX8, RX8, RX8, RX8, RX8, RX8, RX8, RX8, RX8, RX8, RX8, RX8, RX8, RX8, RX8, RX8, RJ6, RL, RL, RL, RL, RL, RL, RL, RL, RL, RL, RL]
def pm_inis : List Bool := [true, false, false, false, false, false, false, true, false, false, false, false, false, false, false, true, false, false, true, false, true, false, false, false, true, false, false, false, false, false, false, false, false, false, false, false, false, false, false, false, false, false, false, false, false, false, true, false, false, false, false, false, false, false, true, false, false, false, false, false, false, false, false, false, false, false, false, false, false, false, false, false, true, false, false, false, false, false, false, false, false, false, false, false, false, false, false, false, false, false, false, false, false, false, false, false, false, false, false, false, false, false, false, false, false, false, false, false, false, false, false, false, false, false, false, false, false, false, false, false, false, false, false, false, false, false, false, false, false, false, false, false, false, false, false, false, false]
def pm_hhs : List (List (Nat × Nat × Nat × Nat)) := [[], [], [], [], [], [], [], [], [], [], [], [], [], [], [], [], [], [], [], [], [], [], [], [], [], [], [], [], [], [], [], [], [], [], [], [], [], [], [], [], [], [], [], [], [], [], [], [], [], [], [], [], [], [], [], [], [], [], [], [], [], [], [], [], [], [], [], [], [], [], [], [], [], [], [], [], [], [], [], [], [], [], [], [], [], [], [], [], [], [], [], [], [], [], [], [], [], [], [], [], [], [], [], [], [], [], [], [], [], [], [], [], [], [], [], [], [], [], [], [], [], [], [], [], [], [], [], [(0, 12, 15, 13), (0, 12, 19, 15)], [(0, 9, 12, 21)], [(0, 9, 12, 13)], [(0, 16, 19, 13)], [(0, 17, 20, 13)], [(0, 17, 20, 13)], [(0, 10, 13, 13)], [(0, 10, 13, 21)], [(0, 10, 13, 21)], []]
def pm_hns : List (List (Nat × Nat × Nat × Nat × Nat × Nat)) := [[], [], [], [], [], [], [], [], [], [], [], [], [], [], [], [], [], [], [], [], [], [], [], [], [], [], [], [], [], [], [], [], [], [], [], [], [], [], [], [], [], [], [], [], [], [], [], [], [], [], [], [], [], [], [], [], [], [], [], [], [], [], [], [], [], [], [], [], [], [], [], [], [], [], [], [], [], [], [], [], [], [], [], [], [], [], [], [], [], [], [], [], [], [], [], [], [], [], [], [], [], [], [], [], [], [], [], [], [], [], [], [], [], [], [], [], [], [], [], [], [], [], [], [], [], [], [], [(0, 12, 15, 1, 5, 17), (0, 12, 19, 2, 5, 21)], [(0, 9, 12, 3, 3, 13)], [(0, 9, 12, 1, 3, 13)], [(0, 16, 19, 1, 3, 20)], [(0, 17, 20, 1, 4, 22)], [(0, 17, 20, 1, 4, 22)], [(0, 10, 13, 1, 4, 15)], [(0, 10, 13, 3, 4, 15)], [(0, 10, 13, 3, 4, 15)], []]
def pm_tb (i : Nat) : List pm_R := pm_tbs.getD i []
def pm_y (i : Nat) : MethodName := pm_ys.getD i yL_law
def pm_b (i : Nat) : ByteArray := pm_bs.getD i cL_law
def pm_nL (i : Nat) : Nat := pm_nLs.getD i 0
def pm_rty (i : Nat) : Option FieldType := pm_rets.getD i none
def pm_rt (i : Nat) : Nat := pm_rts.getD i 0
def pm_np (i : Nat) : Nat := pm_nps.getD i 0
def pm_mc (i : Nat) : Nat := pm_mcs.getD i 0
def pm_rk (i : Nat) : Nat := pm_rks.getD i 0
def pm_own (i : Nat) : String := pm_owns.getD i RL
def pm_ini (i : Nat) : Bool := pm_inis.getD i false
def pm_hh (i : Nat) : List (Nat × Nat × Nat × Nat) := pm_hhs.getD i []
def pm_hn (i : Nat) : List (Nat × Nat × Nat × Nat × Nat × Nat) := pm_hns.getD i []
def pm_at (i pc : Nat) : Option (Instr × Nat × List Nat) := ((pm_tb i).find? (fun r => r.1 == pc)).map (fun r => r.2)

/-- the words of a call -/
def pm_need2 (own : String) (ins : Instr) (res : List Nat) : List Cond := match ins, res with
  | .invokevirtual i, [j, 0] => [.methodLink own i (pm_y j), .instanceMethod (pm_y j), .selects (pm_y j).cls (pm_y j) (pm_y j), .initialized (pm_y j).cls, .code (pm_y j) (pm_b j) (pm_nL j) (pm_rty j)]
  | .invokespecial i, [j, 2] => [.methodLink own i (pm_y j), .instanceMethod (pm_y j), .initialized (pm_y j).cls, .code (pm_y j) (pm_b j) (pm_nL j) none]
  | .invokespecial _, [j, 3] => [.instanceMethod (pm_y j), .initialized (pm_y j).cls, .code (pm_y j) (pm_b j) (pm_nL j) none]
  | .invokestatic i, [j, 4] => [.methodLink own i (pm_y j), .static (pm_y j), .initialized (pm_y j).cls, .code (pm_y j) (pm_b j) (pm_nL j) (pm_rty j)]
  | .invokestatic _, [j, 5] => [.static (pm_y j), .initialized (pm_y j).cls, .code (pm_y j) (pm_b j) (pm_nL j) (pm_rty j)]
  | .invokestatic i, [j, 9] => [.methodLink own i (pm_y j), .static (pm_y j), .initialized (pm_y j).cls, .codeWith (pm_y j) (pm_b j) (pm_nL j) (pm_rty j) (pm_hh j)]
  | _, _ => []
def pm_needN2 (own : String) (ins : Instr) (res : List Nat) : List Cond := match ins, res with
  | .invokespecial i, [j, 3] => [.methodLinkNest own i (pm_y j) RX7]
  | .invokestatic i, [j, 5] => [.methodLinkNest own i (pm_y j) RX7]
  | _, _ => []
def pm_all (own : String) (r : pm_R) : List Cond := pm_need own r.2.1 r.2.2.2 ++ pm_need2 own r.2.1 r.2.2.2
def pm_allN (own : String) (r : pm_R) : List Cond := pm_needN own r.2.1 r.2.2.2 ++ pm_needN2 own r.2.1 r.2.2.2
/-- what a call's row must be -/
def pm_ckj (r : pm_R) : Bool := match r.2.1, r.2.2.2 with
  | .invokevirtual _, [j, kd] => kd == 0 && (pm_hh j).isEmpty && decide (pm_nL j ≤ 19) && decide (vwCl[pm_mc j]?.map (fun q => q.1) = some (pm_y j).cls) && decide ((parseMethodDescriptor (pm_y j).desc).map (fun d => d.parameters.length) = some (pm_np j)) && plainName (pm_y j).cls
  | .invokespecial _, [j, kd] => kd == 6 || ((kd == 2 || kd == 3) && (pm_hh j).isEmpty && decide (pm_nL j ≤ 23) && pm_ini j && decide (pm_rty j = none) && decide ((pm_y j).name = "<init>") && decide ((parseMethodDescriptor (pm_y j).desc).map (fun d => d.parameters.length) = some (pm_np j)) && plainName (pm_y j).cls)
  | .invokestatic _, [j, kd] => kd == 7 || kd == 8 || ((kd == 4 || kd == 5 || kd == 9) && ((kd == 9) != (pm_hh j).isEmpty) && decide (pm_nL j ≤ 23) && decide ((parseMethodDescriptor (pm_y j).desc).map (fun d => d.parameters.length) = some (pm_np j)) && plainName (pm_y j).cls)
  | _, _ => true
end
section
/-! the tables' rows name words that the Statement has -/
set_option maxRecDepth 100000 in
set_option maxHeartbeats 4000000 in
theorem tn_X0_init : tb_X0_init.flatMap (pm_all (RX0)) = [107, 79, 80, 108, 112, 113, 115, 110, 111].filterMap (fun (i : Nat) => lw_tbl[i]?) ∧ (tb_X0_init.flatMap (pm_all (RX0))).all goodWord = true := ⟨rfl, by decide +kernel⟩
set_option maxRecDepth 100000 in
set_option maxHeartbeats 4000000 in
theorem tm_X0_init : tb_X0_init.flatMap (pm_allN (RX0)) = [].filterMap (fun (i : Nat) => lw_tbl[i]?) ∧ tb_X0_init.all (fun r => pm_chk RX0 true r.2.1 r.2.2.1 r.2.2.2 && pm_ckj r) = true := ⟨rfl, by decide +kernel⟩
set_option maxRecDepth 100000 in
set_option maxHeartbeats 4000000 in
theorem tn_X0_find : tb_X0_find.flatMap (pm_all (RX0)) = [113, 110].filterMap (fun (i : Nat) => lw_tbl[i]?) ∧ (tb_X0_find.flatMap (pm_all (RX0))).all goodWord = true := ⟨rfl, by decide +kernel⟩
set_option maxRecDepth 100000 in
set_option maxHeartbeats 4000000 in
theorem tm_X0_find : tb_X0_find.flatMap (pm_allN (RX0)) = [].filterMap (fun (i : Nat) => lw_tbl[i]?) ∧ tb_X0_find.all (fun r => pm_chk RX0 false r.2.1 r.2.2.1 r.2.2.2 && pm_ckj r) = true := ⟨rfl, by decide +kernel⟩
set_option maxRecDepth 100000 in
set_option maxHeartbeats 4000000 in
theorem tn_X0_begin : tb_X0_begin.flatMap (pm_all (RX0)) = [113, 113, 110, 113, 113, 111, 115, 273, 55, 274, 387, 55, 388, 617, 340, 341, 56, 342].filterMap (fun (i : Nat) => lw_tbl[i]?) ∧ (tb_X0_begin.flatMap (pm_all (RX0))).all goodWord = true := ⟨rfl, by decide +kernel⟩
set_option maxRecDepth 100000 in
set_option maxHeartbeats 4000000 in
theorem tm_X0_begin : tb_X0_begin.flatMap (pm_allN (RX0)) = [615, 616].filterMap (fun (i : Nat) => lw_tbl[i]?) ∧ tb_X0_begin.all (fun r => pm_chk RX0 false r.2.1 r.2.2.1 r.2.2.2 && pm_ckj r) = true := ⟨rfl, by decide +kernel⟩
set_option maxRecDepth 100000 in
set_option maxHeartbeats 4000000 in
theorem tn_X0_tryAgain : tb_X0_tryAgain.flatMap (pm_all (RX0)) = [238, 239, 240, 66, 241, 111, 387, 55, 388, 647, 370, 371, 56, 372, 111, 108, 287, 67, 648, 296, 67, 297, 647, 370, 371, 56, 372].filterMap (fun (i : Nat) => lw_tbl[i]?) ∧ (tb_X0_tryAgain.flatMap (pm_all (RX0))).all goodWord = true := ⟨rfl, by decide +kernel⟩
set_option maxRecDepth 100000 in
set_option maxHeartbeats 4000000 in
theorem tm_X0_tryAgain : tb_X0_tryAgain.flatMap (pm_allN (RX0)) = [591, 616, 589, 306, 314, 318].filterMap (fun (i : Nat) => lw_tbl[i]?) ∧ tb_X0_tryAgain.all (fun r => pm_chk RX0 false r.2.1 r.2.2.1 r.2.2.2 && pm_ckj r) = true := ⟨rfl, by decide +kernel⟩
set_option maxRecDepth 100000 in
set_option maxHeartbeats 4000000 in
theorem tn_X0_take : tb_X0_take.flatMap (pm_all (RX0)) = [100, 55, 101, 115, 223, 224, 70, 225, 115, 226, 227, 228, 57, 229, 230, 231, 232, 66, 233, 234, 236, 1, 57, 237, 112, 113, 110, 234, 236, 1, 57, 237].filterMap (fun (i : Nat) => lw_tbl[i]?) ∧ (tb_X0_take.flatMap (pm_all (RX0))).all goodWord = true := ⟨rfl, by decide +kernel⟩
set_option maxRecDepth 100000 in
set_option maxHeartbeats 4000000 in
theorem tm_X0_take : tb_X0_take.flatMap (pm_allN (RX0)) = [222, 302, 306, 311, 302].filterMap (fun (i : Nat) => lw_tbl[i]?) ∧ tb_X0_take.all (fun r => pm_chk RX0 false r.2.1 r.2.2.1 r.2.2.2 && pm_ckj r) = true := ⟨rfl, by decide +kernel⟩
set_option maxRecDepth 100000 in
set_option maxHeartbeats 4000000 in
theorem tn_X0_lookAt : tb_X0_lookAt.flatMap (pm_all (RX0)) = [238, 239, 240, 66, 241, 255, 256, 257, 66, 258, 259, 261, 3, 57, 262, 255, 256, 257, 66, 258].filterMap (fun (i : Nat) => lw_tbl[i]?) ∧ (tb_X0_lookAt.flatMap (pm_all (RX0))).all goodWord = true := ⟨rfl, by decide +kernel⟩
set_option maxRecDepth 100000 in
set_option maxHeartbeats 4000000 in
theorem tm_X0_lookAt : tb_X0_lookAt.flatMap (pm_allN (RX0)) = [591, 589, 589, 589].filterMap (fun (i : Nat) => lw_tbl[i]?) ∧ tb_X0_lookAt.all (fun r => pm_chk RX0 false r.2.1 r.2.2.1 r.2.2.2 && pm_ckj r) = true := ⟨rfl, by decide +kernel⟩
set_option maxRecDepth 100000 in
set_option maxHeartbeats 4000000 in
theorem tn_X0_countAcks : tb_X0_countAcks.flatMap (pm_all (RX0)) = [112, 112, 263, 252, 253, 67, 254].filterMap (fun (i : Nat) => lw_tbl[i]?) ∧ (tb_X0_countAcks.flatMap (pm_all (RX0))).all goodWord = true := ⟨rfl, by decide +kernel⟩
set_option maxRecDepth 100000 in
set_option maxHeartbeats 4000000 in
theorem tm_X0_countAcks : tb_X0_countAcks.flatMap (pm_allN (RX0)) = [].filterMap (fun (i : Nat) => lw_tbl[i]?) ∧ tb_X0_countAcks.all (fun r => pm_chk RX0 false r.2.1 r.2.2.1 r.2.2.2 && pm_ckj r) = true := ⟨rfl, by decide +kernel⟩
set_option maxRecDepth 100000 in
set_option maxHeartbeats 4000000 in
theorem tn_X1_init : tb_X1_init.flatMap (pm_all (RX1)) = [140, 79, 80, 154, 141, 142, 145].filterMap (fun (i : Nat) => lw_tbl[i]?) ∧ (tb_X1_init.flatMap (pm_all (RX1))).all goodWord = true := ⟨rfl, by decide +kernel⟩
set_option maxRecDepth 100000 in
set_option maxHeartbeats 4000000 in
theorem tm_X1_init : tb_X1_init.flatMap (pm_allN (RX1)) = [].filterMap (fun (i : Nat) => lw_tbl[i]?) ∧ tb_X1_init.all (fun r => pm_chk RX1 true r.2.1 r.2.2.1 r.2.2.2 && pm_ckj r) = true := ⟨rfl, by decide +kernel⟩
set_option maxRecDepth 100000 in
set_option maxHeartbeats 4000000 in
theorem tn_X1_add : tb_X1_add.flatMap (pm_all (RX1)) = [142, 141, 142, 142, 142].filterMap (fun (i : Nat) => lw_tbl[i]?) ∧ (tb_X1_add.flatMap (pm_all (RX1))).all goodWord = true := ⟨rfl, by decide +kernel⟩
set_option maxRecDepth 100000 in
set_option maxHeartbeats 4000000 in
theorem tm_X1_add : tb_X1_add.flatMap (pm_allN (RX1)) = [].filterMap (fun (i : Nat) => lw_tbl[i]?) ∧ tb_X1_add.all (fun r => pm_chk RX1 false r.2.1 r.2.2.1 r.2.2.2 && pm_ckj r) = true := ⟨rfl, by decide +kernel⟩
set_option maxRecDepth 100000 in
set_option maxHeartbeats 4000000 in
theorem tn_X1_at : tb_X1_at.flatMap (pm_all (RX1)) = [142, 141].filterMap (fun (i : Nat) => lw_tbl[i]?) ∧ (tb_X1_at.flatMap (pm_all (RX1))).all goodWord = true := ⟨rfl, by decide +kernel⟩
set_option maxRecDepth 100000 in
set_option maxHeartbeats 4000000 in
theorem tm_X1_at : tb_X1_at.flatMap (pm_allN (RX1)) = [].filterMap (fun (i : Nat) => lw_tbl[i]?) ∧ tb_X1_at.all (fun r => pm_chk RX1 false r.2.1 r.2.2.1 r.2.2.2 && pm_ckj r) = true := ⟨rfl, by decide +kernel⟩
set_option maxRecDepth 100000 in
set_option maxHeartbeats 4000000 in
theorem tn_X1_placeOf : tb_X1_placeOf.flatMap (pm_all (RX1)) = [142, 141].filterMap (fun (i : Nat) => lw_tbl[i]?) ∧ (tb_X1_placeOf.flatMap (pm_all (RX1))).all goodWord = true := ⟨rfl, by decide +kernel⟩
set_option maxRecDepth 100000 in
set_option maxHeartbeats 4000000 in
theorem tm_X1_placeOf : tb_X1_placeOf.flatMap (pm_allN (RX1)) = [].filterMap (fun (i : Nat) => lw_tbl[i]?) ∧ tb_X1_placeOf.all (fun r => pm_chk RX1 false r.2.1 r.2.2.1 r.2.2.2 && pm_ckj r) = true := ⟨rfl, by decide +kernel⟩
set_option maxRecDepth 100000 in
set_option maxHeartbeats 4000000 in
theorem tn_X1_digest : tb_X1_digest.flatMap (pm_all (RX1)) = [142, 141, 292, 293, 59, 294].filterMap (fun (i : Nat) => lw_tbl[i]?) ∧ (tb_X1_digest.flatMap (pm_all (RX1))).all goodWord = true := ⟨rfl, by decide +kernel⟩
set_option maxRecDepth 100000 in
set_option maxHeartbeats 4000000 in
theorem tm_X1_digest : tb_X1_digest.flatMap (pm_allN (RX1)) = [].filterMap (fun (i : Nat) => lw_tbl[i]?) ∧ tb_X1_digest.all (fun r => pm_chk RX1 false r.2.1 r.2.2.1 r.2.2.2 && pm_ckj r) = true := ⟨rfl, by decide +kernel⟩
set_option maxRecDepth 100000 in
set_option maxHeartbeats 4000000 in
theorem tn_X1_beginsWith : tb_X1_beginsWith.flatMap (pm_all (RX1)) = [142, 142, 142, 141, 141].filterMap (fun (i : Nat) => lw_tbl[i]?) ∧ (tb_X1_beginsWith.flatMap (pm_all (RX1))).all goodWord = true := ⟨rfl, by decide +kernel⟩
set_option maxRecDepth 100000 in
set_option maxHeartbeats 4000000 in
theorem tm_X1_beginsWith : tb_X1_beginsWith.flatMap (pm_allN (RX1)) = [].filterMap (fun (i : Nat) => lw_tbl[i]?) ∧ tb_X1_beginsWith.all (fun r => pm_chk RX1 false r.2.1 r.2.2.1 r.2.2.2 && pm_ckj r) = true := ⟨rfl, by decide +kernel⟩
set_option maxRecDepth 100000 in
set_option maxHeartbeats 4000000 in
theorem tn_X1_copy : tb_X1_copy.flatMap (pm_all (RX1)) = [424, 136, 59, 425, 138, 59, 139, 141, 141, 142, 426, 428, 427, 72, 142, 142, 145, 145].filterMap (fun (i : Nat) => lw_tbl[i]?) ∧ (tb_X1_copy.flatMap (pm_all (RX1))).all goodWord = true := ⟨rfl, by decide +kernel⟩
set_option maxRecDepth 100000 in
set_option maxHeartbeats 4000000 in
theorem tm_X1_copy : tb_X1_copy.flatMap (pm_allN (RX1)) = [].filterMap (fun (i : Nat) => lw_tbl[i]?) ∧ tb_X1_copy.all (fun r => pm_chk RX1 false r.2.1 r.2.2.1 r.2.2.2 && pm_ckj r) = true := ⟨rfl, by decide +kernel⟩
set_option maxRecDepth 100000 in
set_option maxHeartbeats 4000000 in
theorem tn_X1_digestWith : tb_X1_digestWith.flatMap (pm_all (RX1)) = [].filterMap (fun (i : Nat) => lw_tbl[i]?) ∧ (tb_X1_digestWith.flatMap (pm_all (RX1))).all goodWord = true := ⟨rfl, by decide +kernel⟩
set_option maxRecDepth 100000 in
set_option maxHeartbeats 4000000 in
theorem tm_X1_digestWith : tb_X1_digestWith.flatMap (pm_allN (RX1)) = [].filterMap (fun (i : Nat) => lw_tbl[i]?) ∧ tb_X1_digestWith.all (fun r => pm_chk RX1 false r.2.1 r.2.2.1 r.2.2.2 && pm_ckj r) = true := ⟨rfl, by decide +kernel⟩
set_option maxRecDepth 100000 in
set_option maxHeartbeats 4000000 in
theorem tn_X2_init : tb_X2_init.flatMap (pm_all (RX2)) = [298, 79, 80, 299, 303, 308, 312, 317, 320, 322].filterMap (fun (i : Nat) => lw_tbl[i]?) ∧ (tb_X2_init.flatMap (pm_all (RX2))).all goodWord = true := ⟨rfl, by decide +kernel⟩
set_option maxRecDepth 100000 in
set_option maxHeartbeats 4000000 in
theorem tm_X2_init : tb_X2_init.flatMap (pm_allN (RX2)) = [].filterMap (fun (i : Nat) => lw_tbl[i]?) ∧ tb_X2_init.all (fun r => pm_chk RX2 true r.2.1 r.2.2.1 r.2.2.2 && pm_ckj r) = true := ⟨rfl, by decide +kernel⟩
set_option maxRecDepth 100000 in
set_option maxHeartbeats 4000000 in
theorem tn_X2_samePoint : tb_X2_samePoint.flatMap (pm_all (RX2)) = [303, 303, 312, 312, 317, 317].filterMap (fun (i : Nat) => lw_tbl[i]?) ∧ (tb_X2_samePoint.flatMap (pm_all (RX2))).all goodWord = true := ⟨rfl, by decide +kernel⟩
set_option maxRecDepth 100000 in
set_option maxHeartbeats 4000000 in
theorem tm_X2_samePoint : tb_X2_samePoint.flatMap (pm_allN (RX2)) = [].filterMap (fun (i : Nat) => lw_tbl[i]?) ∧ tb_X2_samePoint.all (fun r => pm_chk RX2 false r.2.1 r.2.2.1 r.2.2.2 && pm_ckj r) = true := ⟨rfl, by decide +kernel⟩
set_option maxRecDepth 100000 in
set_option maxHeartbeats 4000000 in
theorem tn_X2_sameReply : tb_X2_sameReply.flatMap (pm_all (RX2)) = [251, 252, 253, 67, 254, 308, 308, 320, 320].filterMap (fun (i : Nat) => lw_tbl[i]?) ∧ (tb_X2_sameReply.flatMap (pm_all (RX2))).all goodWord = true := ⟨rfl, by decide +kernel⟩
set_option maxRecDepth 100000 in
set_option maxHeartbeats 4000000 in
theorem tm_X2_sameReply : tb_X2_sameReply.flatMap (pm_allN (RX2)) = [].filterMap (fun (i : Nat) => lw_tbl[i]?) ∧ tb_X2_sameReply.all (fun r => pm_chk RX2 false r.2.1 r.2.2.1 r.2.2.2 && pm_ckj r) = true := ⟨rfl, by decide +kernel⟩
set_option maxRecDepth 100000 in
set_option maxHeartbeats 4000000 in
theorem tn_X3_init : tb_X3_init.flatMap (pm_all (RX3)) = [347, 79, 80, 354, 348, 350, 352].filterMap (fun (i : Nat) => lw_tbl[i]?) ∧ (tb_X3_init.flatMap (pm_all (RX3))).all goodWord = true := ⟨rfl, by decide +kernel⟩
set_option maxRecDepth 100000 in
set_option maxHeartbeats 4000000 in
theorem tm_X3_init : tb_X3_init.flatMap (pm_allN (RX3)) = [].filterMap (fun (i : Nat) => lw_tbl[i]?) ∧ tb_X3_init.all (fun r => pm_chk RX3 true r.2.1 r.2.2.1 r.2.2.2 && pm_ckj r) = true := ⟨rfl, by decide +kernel⟩
set_option maxRecDepth 100000 in
set_option maxHeartbeats 4000000 in
theorem tn_X3_tell : tb_X3_tell.flatMap (pm_all (RX3)) = [352, 348, 350, 352, 352, 352, 354].filterMap (fun (i : Nat) => lw_tbl[i]?) ∧ (tb_X3_tell.flatMap (pm_all (RX3))).all goodWord = true := ⟨rfl, by decide +kernel⟩
set_option maxRecDepth 100000 in
set_option maxHeartbeats 4000000 in
theorem tm_X3_tell : tb_X3_tell.flatMap (pm_allN (RX3)) = [300, 304, 309, 313].filterMap (fun (i : Nat) => lw_tbl[i]?) ∧ tb_X3_tell.all (fun r => pm_chk RX3 false r.2.1 r.2.2.1 r.2.2.2 && pm_ckj r) = true := ⟨rfl, by decide +kernel⟩
set_option maxRecDepth 100000 in
set_option maxHeartbeats 4000000 in
theorem tn_X4_init : tb_X4_init.flatMap (pm_all (RX4)) = [88, 79, 80, 89, 91, 92].filterMap (fun (i : Nat) => lw_tbl[i]?) ∧ (tb_X4_init.flatMap (pm_all (RX4))).all goodWord = true := ⟨rfl, by decide +kernel⟩
set_option maxRecDepth 100000 in
set_option maxHeartbeats 4000000 in
theorem tm_X4_init : tb_X4_init.flatMap (pm_allN (RX4)) = [].filterMap (fun (i : Nat) => lw_tbl[i]?) ∧ tb_X4_init.all (fun r => pm_chk RX4 true r.2.1 r.2.2.1 r.2.2.2 && pm_ckj r) = true := ⟨rfl, by decide +kernel⟩
set_option maxRecDepth 100000 in
set_option maxHeartbeats 4000000 in
theorem tn_X4_send : tb_X4_send.flatMap (pm_all (RX4)) = [92, 91, 92, 89, 343, 68, 344, 345, 68, 346, 92, 92].filterMap (fun (i : Nat) => lw_tbl[i]?) ∧ (tb_X4_send.flatMap (pm_all (RX4))).all goodWord = true := ⟨rfl, by decide +kernel⟩
set_option maxRecDepth 100000 in
set_option maxHeartbeats 4000000 in
theorem tm_X4_send : tb_X4_send.flatMap (pm_allN (RX4)) = [].filterMap (fun (i : Nat) => lw_tbl[i]?) ∧ tb_X4_send.all (fun r => pm_chk RX4 false r.2.1 r.2.2.1 r.2.2.2 && pm_ckj r) = true := ⟨rfl, by decide +kernel⟩
set_option maxRecDepth 100000 in
set_option maxHeartbeats 4000000 in
theorem tn_X4_sendToAll : tb_X4_sendToAll.flatMap (pm_all (RX4)) = [373, 340, 341, 56, 342].filterMap (fun (i : Nat) => lw_tbl[i]?) ∧ (tb_X4_sendToAll.flatMap (pm_all (RX4))).all goodWord = true := ⟨rfl, by decide +kernel⟩
set_option maxRecDepth 100000 in
set_option maxHeartbeats 4000000 in
theorem tm_X4_sendToAll : tb_X4_sendToAll.flatMap (pm_allN (RX4)) = [].filterMap (fun (i : Nat) => lw_tbl[i]?) ∧ tb_X4_sendToAll.all (fun r => pm_chk RX4 false r.2.1 r.2.2.1 r.2.2.2 && pm_ckj r) = true := ⟨rfl, by decide +kernel⟩
set_option maxRecDepth 100000 in
set_option maxHeartbeats 4000000 in
theorem tn_X4_find : tb_X4_find.flatMap (pm_all (RX4)) = [92, 91].filterMap (fun (i : Nat) => lw_tbl[i]?) ∧ (tb_X4_find.flatMap (pm_all (RX4))).all goodWord = true := ⟨rfl, by decide +kernel⟩
set_option maxRecDepth 100000 in
set_option maxHeartbeats 4000000 in
theorem tm_X4_find : tb_X4_find.flatMap (pm_allN (RX4)) = [].filterMap (fun (i : Nat) => lw_tbl[i]?) ∧ tb_X4_find.all (fun r => pm_chk RX4 false r.2.1 r.2.2.1 r.2.2.2 && pm_ckj r) = true := ⟨rfl, by decide +kernel⟩
set_option maxRecDepth 100000 in
set_option maxHeartbeats 4000000 in
theorem tn_X5_init : tb_X5_init.flatMap (pm_all (RX5)) = [134, 79, 80, 135, 136, 59, 138, 59, 139, 159, 154, 161, 154, 163, 155, 164, 165, 167, 168, 169, 156, 157, 158].filterMap (fun (i : Nat) => lw_tbl[i]?) ∧ (tb_X5_init.flatMap (pm_all (RX5))).all goodWord = true := ⟨rfl, by decide +kernel⟩
set_option maxRecDepth 100000 in
set_option maxHeartbeats 4000000 in
theorem tm_X5_init : tb_X5_init.flatMap (pm_allN (RX5)) = [137].filterMap (fun (i : Nat) => lw_tbl[i]?) ∧ tb_X5_init.all (fun r => pm_chk RX5 true r.2.1 r.2.2.1 r.2.2.2 && pm_ckj r) = true := ⟨rfl, by decide +kernel⟩
set_option maxRecDepth 100000 in
set_option maxHeartbeats 4000000 in
theorem tn_X5_tell : tb_X5_tell.flatMap (pm_all (RX5)) = [165, 159, 159, 167, 168, 169, 159, 159, 288, 289, 290, 59, 291].filterMap (fun (i : Nat) => lw_tbl[i]?) ∧ (tb_X5_tell.flatMap (pm_all (RX5))).all goodWord = true := ⟨rfl, by decide +kernel⟩
set_option maxRecDepth 100000 in
set_option maxHeartbeats 4000000 in
theorem tm_X5_tell : tb_X5_tell.flatMap (pm_allN (RX5)) = [143, 146, 143].filterMap (fun (i : Nat) => lw_tbl[i]?) ∧ tb_X5_tell.all (fun r => pm_chk RX5 false r.2.1 r.2.2.1 r.2.2.2 && pm_ckj r) = true := ⟨rfl, by decide +kernel⟩
set_option maxRecDepth 100000 in
set_option maxHeartbeats 4000000 in
theorem tn_X5_fittingOrder : tb_X5_fittingOrder.flatMap (pm_all (RX5)) = [159, 159, 288, 289, 290, 59, 291, 399, 293, 59, 294, 155, 287, 67, 165, 159, 295, 296, 67, 297].filterMap (fun (i : Nat) => lw_tbl[i]?) ∧ (tb_X5_fittingOrder.flatMap (pm_all (RX5))).all goodWord = true := ⟨rfl, by decide +kernel⟩
set_option maxRecDepth 100000 in
set_option maxHeartbeats 4000000 in
theorem tm_X5_fittingOrder : tb_X5_fittingOrder.flatMap (pm_allN (RX5)) = [143, 143].filterMap (fun (i : Nat) => lw_tbl[i]?) ∧ tb_X5_fittingOrder.all (fun r => pm_chk RX5 false r.2.1 r.2.2.1 r.2.2.2 && pm_ckj r) = true := ⟨rfl, by decide +kernel⟩
set_option maxRecDepth 100000 in
set_option maxHeartbeats 4000000 in
theorem tn_X5_take : tb_X5_take.flatMap (pm_all (RX5)) = [268, 270, 4, 58, 271, 391, 393, 8, 58, 394, 401, 403, 9, 58, 404, 406, 408, 10, 58, 409, 429, 431, 12, 58, 432, 434, 436, 13, 58, 437, 438, 440, 14, 58, 441, 167, 165, 273, 55, 274, 156, 442, 444, 15, 58, 445, 450, 452, 17, 58, 453, 158, 156, 155, 287, 67, 165, 295, 296, 67, 297, 369, 370, 371, 56, 372, 165, 438, 440, 14, 58, 441].filterMap (fun (i : Nat) => lw_tbl[i]?) ∧ (tb_X5_take.flatMap (pm_all (RX5))).all goodWord = true := ⟨rfl, by decide +kernel⟩
set_option maxRecDepth 100000 in
set_option maxHeartbeats 4000000 in
theorem tm_X5_take : tb_X5_take.flatMap (pm_allN (RX5)) = [301, 310, 307, 323, 307, 307, 323, 272, 143].filterMap (fun (i : Nat) => lw_tbl[i]?) ∧ tb_X5_take.all (fun r => pm_chk RX5 false r.2.1 r.2.2.1 r.2.2.2 && pm_ckj r) = true := ⟨rfl, by decide +kernel⟩
set_option maxRecDepth 100000 in
set_option maxHeartbeats 4000000 in
theorem tn_X5_endPatience : tb_X5_endPatience.flatMap (pm_all (RX5)) = [167, 168, 155, 287, 67, 165, 295, 296, 67, 297, 158, 156, 369, 370, 371, 56, 372, 156, 669, 265, 266, 58, 267].filterMap (fun (i : Nat) => lw_tbl[i]?) ∧ (tb_X5_endPatience.flatMap (pm_all (RX5))).all goodWord = true := ⟨rfl, by decide +kernel⟩
set_option maxRecDepth 100000 in
set_option maxHeartbeats 4000000 in
theorem tm_X5_endPatience : tb_X5_endPatience.flatMap (pm_allN (RX5)) = [].filterMap (fun (i : Nat) => lw_tbl[i]?) ∧ tb_X5_endPatience.all (fun r => pm_chk RX5 false r.2.1 r.2.2.1 r.2.2.2 && pm_ckj r) = true := ⟨rfl, by decide +kernel⟩
set_option maxRecDepth 100000 in
set_option maxHeartbeats 4000000 in
theorem tn_X5_takeAsk : tb_X5_takeAsk.flatMap (pm_all (RX5)) = [167, 165, 273, 55, 274, 159, 275, 276, 277, 59, 278, 279, 281, 5, 58, 282, 156, 158, 156, 365, 367, 6, 58, 368, 369, 370, 371, 56, 372, 156, 374, 376, 7, 58, 377, 158, 156, 159, 365, 367, 6, 58, 368, 369, 370, 371, 56, 372, 159, 279, 281, 5, 58, 282, 168, 168, 158, 156, 387, 55, 388, 339, 340, 341, 56, 342].filterMap (fun (i : Nat) => lw_tbl[i]?) ∧ (tb_X5_takeAsk.flatMap (pm_all (RX5))).all goodWord = true := ⟨rfl, by decide +kernel⟩
set_option maxRecDepth 100000 in
set_option maxHeartbeats 4000000 in
theorem tm_X5_takeAsk : tb_X5_takeAsk.flatMap (pm_allN (RX5)) = [272, 143, 143, 386].filterMap (fun (i : Nat) => lw_tbl[i]?) ∧ tb_X5_takeAsk.all (fun r => pm_chk RX5 false r.2.1 r.2.2.1 r.2.2.2 && pm_ckj r) = true := ⟨rfl, by decide +kernel⟩
set_option maxRecDepth 100000 in
set_option maxHeartbeats 4000000 in
theorem tn_X5_takeOrder : tb_X5_takeOrder.flatMap (pm_all (RX5)) = [167, 165, 273, 55, 274, 165, 395, 396, 397, 58, 398, 400, 252, 253, 67, 254, 159, 275, 276, 277, 59, 278, 374, 376, 7, 58, 377, 159, 279, 281, 5, 58, 282].filterMap (fun (i : Nat) => lw_tbl[i]?) ∧ (tb_X5_takeOrder.flatMap (pm_all (RX5))).all goodWord = true := ⟨rfl, by decide +kernel⟩
set_option maxRecDepth 100000 in
set_option maxHeartbeats 4000000 in
theorem tm_X5_takeOrder : tb_X5_takeOrder.flatMap (pm_allN (RX5)) = [272, 307, 310, 310, 310, 143].filterMap (fun (i : Nat) => lw_tbl[i]?) ∧ tb_X5_takeOrder.all (fun r => pm_chk RX5 false r.2.1 r.2.2.1 r.2.2.2 && pm_ckj r) = true := ⟨rfl, by decide +kernel⟩
set_option maxRecDepth 100000 in
set_option maxHeartbeats 4000000 in
theorem tn_X5_takeProof : tb_X5_takeProof.flatMap (pm_all (RX5)) = [167, 165, 159, 159, 288, 289, 290, 59, 291, 159, 159, 405, 224, 70, 225, 158, 156, 155, 287, 67, 165, 295, 296, 67, 297, 339, 340, 341, 56, 342].filterMap (fun (i : Nat) => lw_tbl[i]?) ∧ (tb_X5_takeProof.flatMap (pm_all (RX5))).all goodWord = true := ⟨rfl, by decide +kernel⟩
set_option maxRecDepth 100000 in
set_option maxHeartbeats 4000000 in
theorem tm_X5_takeProof : tb_X5_takeProof.flatMap (pm_allN (RX5)) = [307, 143, 316, 316, 319, 146, 316, 146, 316, 319].filterMap (fun (i : Nat) => lw_tbl[i]?) ∧ tb_X5_takeProof.all (fun r => pm_chk RX5 false r.2.1 r.2.2.1 r.2.2.2 && pm_ckj r) = true := ⟨rfl, by decide +kernel⟩
set_option maxRecDepth 100000 in
set_option maxHeartbeats 4000000 in
theorem tn_X5_takeHate : tb_X5_takeHate.flatMap (pm_all (RX5)) = [165, 169, 169, 169, 410, 411, 71, 412, 416, 418, 11, 58, 419].filterMap (fun (i : Nat) => lw_tbl[i]?) ∧ (tb_X5_takeHate.flatMap (pm_all (RX5))).all goodWord = true := ⟨rfl, by decide +kernel⟩
set_option maxRecDepth 100000 in
set_option maxHeartbeats 4000000 in
theorem tm_X5_takeHate : tb_X5_takeHate.flatMap (pm_allN (RX5)) = [].filterMap (fun (i : Nat) => lw_tbl[i]?) ∧ tb_X5_takeHate.all (fun r => pm_chk RX5 false r.2.1 r.2.2.1 r.2.2.2 && pm_ckj r) = true := ⟨rfl, by decide +kernel⟩
set_option maxRecDepth 100000 in
set_option maxHeartbeats 4000000 in
theorem tn_X5_changeView : tb_X5_changeView.flatMap (pm_all (RX5)) = [165, 165, 169, 167, 155, 287, 67, 165, 159, 159, 420, 421, 422, 59, 423, 295, 296, 67, 297, 165, 273, 55, 274, 156, 156, 429, 431, 12, 58, 432, 158, 156, 165, 273, 55, 274, 339, 340, 341, 56, 342].filterMap (fun (i : Nat) => lw_tbl[i]?) ∧ (tb_X5_changeView.flatMap (pm_all (RX5))).all goodWord = true := ⟨rfl, by decide +kernel⟩
set_option maxRecDepth 100000 in
set_option maxHeartbeats 4000000 in
theorem tm_X5_changeView : tb_X5_changeView.flatMap (pm_allN (RX5)) = [143, 272, 272].filterMap (fun (i : Nat) => lw_tbl[i]?) ∧ tb_X5_changeView.all (fun r => pm_chk RX5 false r.2.1 r.2.2.1 r.2.2.2 && pm_ckj r) = true := ⟨rfl, by decide +kernel⟩
set_option maxRecDepth 100000 in
set_option maxHeartbeats 4000000 in
theorem tn_X5_keepChange : tb_X5_keepChange.flatMap (pm_all (RX5)) = [273, 55, 274, 156, 165, 100, 55, 101, 164].filterMap (fun (i : Nat) => lw_tbl[i]?) ∧ (tb_X5_keepChange.flatMap (pm_all (RX5))).all goodWord = true := ⟨rfl, by decide +kernel⟩
set_option maxRecDepth 100000 in
set_option maxHeartbeats 4000000 in
theorem tm_X5_keepChange : tb_X5_keepChange.flatMap (pm_allN (RX5)) = [307, 272, 307, 433].filterMap (fun (i : Nat) => lw_tbl[i]?) ∧ tb_X5_keepChange.all (fun r => pm_chk RX5 false r.2.1 r.2.2.1 r.2.2.2 && pm_ckj r) = true := ⟨rfl, by decide +kernel⟩
end
section
set_option maxRecDepth 100000 in
set_option maxHeartbeats 4000000 in
theorem tn_X5_mayTurn : tb_X5_mayTurn.flatMap (pm_all (RX5)) = [273, 55, 274, 165, 165, 167].filterMap (fun (i : Nat) => lw_tbl[i]?) ∧ (tb_X5_mayTurn.flatMap (pm_all (RX5))).all goodWord = true := ⟨rfl, by decide +kernel⟩
set_option maxRecDepth 100000 in
set_option maxHeartbeats 4000000 in
theorem tm_X5_mayTurn : tb_X5_mayTurn.flatMap (pm_allN (RX5)) = [272].filterMap (fun (i : Nat) => lw_tbl[i]?) ∧ tb_X5_mayTurn.all (fun r => pm_chk RX5 false r.2.1 r.2.2.1 r.2.2.2 && pm_ckj r) = true := ⟨rfl, by decide +kernel⟩
set_option maxRecDepth 100000 in
set_option maxHeartbeats 4000000 in
theorem tn_X5_countChanges : tb_X5_countChanges.flatMap (pm_all (RX5)) = [446, 448, 16, 58, 449].filterMap (fun (i : Nat) => lw_tbl[i]?) ∧ (tb_X5_countChanges.flatMap (pm_all (RX5))).all goodWord = true := ⟨rfl, by decide +kernel⟩
set_option maxRecDepth 100000 in
set_option maxHeartbeats 4000000 in
theorem tm_X5_countChanges : tb_X5_countChanges.flatMap (pm_allN (RX5)) = [].filterMap (fun (i : Nat) => lw_tbl[i]?) ∧ tb_X5_countChanges.all (fun r => pm_chk RX5 false r.2.1 r.2.2.1 r.2.2.2 && pm_ckj r) = true := ⟨rfl, by decide +kernel⟩
set_option maxRecDepth 100000 in
set_option maxHeartbeats 4000000 in
theorem tn_X5_changedHistory : tb_X5_changedHistory.flatMap (pm_all (RX5)) = [164, 165].filterMap (fun (i : Nat) => lw_tbl[i]?) ∧ (tb_X5_changedHistory.flatMap (pm_all (RX5))).all goodWord = true := ⟨rfl, by decide +kernel⟩
set_option maxRecDepth 100000 in
set_option maxHeartbeats 4000000 in
theorem tm_X5_changedHistory : tb_X5_changedHistory.flatMap (pm_allN (RX5)) = [307, 323].filterMap (fun (i : Nat) => lw_tbl[i]?) ∧ tb_X5_changedHistory.all (fun r => pm_chk RX5 false r.2.1 r.2.2.1 r.2.2.2 && pm_ckj r) = true := ⟨rfl, by decide +kernel⟩
set_option maxRecDepth 100000 in
set_option maxHeartbeats 4000000 in
theorem tn_X5_mergeChanges : tb_X5_mergeChanges.flatMap (pm_all (RX5)) = [135, 136, 59, 138, 59, 139, 454, 456, 18, 58, 457, 283, 284, 285, 59, 286, 382, 383, 384, 59, 385, 458, 460, 19, 58, 461, 382, 383, 384, 59, 385].filterMap (fun (i : Nat) => lw_tbl[i]?) ∧ (tb_X5_mergeChanges.flatMap (pm_all (RX5))).all goodWord = true := ⟨rfl, by decide +kernel⟩
set_option maxRecDepth 100000 in
set_option maxHeartbeats 4000000 in
theorem tm_X5_mergeChanges : tb_X5_mergeChanges.flatMap (pm_allN (RX5)) = [137, 146, 146, 146].filterMap (fun (i : Nat) => lw_tbl[i]?) ∧ tb_X5_mergeChanges.all (fun r => pm_chk RX5 false r.2.1 r.2.2.1 r.2.2.2 && pm_ckj r) = true := ⟨rfl, by decide +kernel⟩
set_option maxRecDepth 100000 in
set_option maxHeartbeats 4000000 in
theorem tn_X5_mostFixed : tb_X5_mostFixed.flatMap (pm_all (RX5)) = [446, 448, 16, 58, 449].filterMap (fun (i : Nat) => lw_tbl[i]?) ∧ (tb_X5_mostFixed.flatMap (pm_all (RX5))).all goodWord = true := ⟨rfl, by decide +kernel⟩
set_option maxRecDepth 100000 in
set_option maxHeartbeats 4000000 in
theorem tm_X5_mostFixed : tb_X5_mostFixed.flatMap (pm_allN (RX5)) = [146, 146].filterMap (fun (i : Nat) => lw_tbl[i]?) ∧ tb_X5_mostFixed.all (fun r => pm_chk RX5 false r.2.1 r.2.2.1 r.2.2.2 && pm_ckj r) = true := ⟨rfl, by decide +kernel⟩
set_option maxRecDepth 100000 in
set_option maxHeartbeats 4000000 in
theorem tn_X5_agreedNext : tb_X5_agreedNext.flatMap (pm_all (RX5)) = [462, 464, 20, 58, 465, 462, 464, 20, 58, 465].filterMap (fun (i : Nat) => lw_tbl[i]?) ∧ (tb_X5_agreedNext.flatMap (pm_all (RX5))).all goodWord = true := ⟨rfl, by decide +kernel⟩
set_option maxRecDepth 100000 in
set_option maxHeartbeats 4000000 in
theorem tm_X5_agreedNext : tb_X5_agreedNext.flatMap (pm_allN (RX5)) = [].filterMap (fun (i : Nat) => lw_tbl[i]?) ∧ tb_X5_agreedNext.all (fun r => pm_chk RX5 false r.2.1 r.2.2.1 r.2.2.2 && pm_ckj r) = true := ⟨rfl, by decide +kernel⟩
set_option maxRecDepth 100000 in
set_option maxHeartbeats 4000000 in
theorem tn_X5_nextAfter : tb_X5_nextAfter.flatMap (pm_all (RX5)) = [446, 448, 16, 58, 449, 466, 467, 468, 59, 469, 283, 284, 285, 59, 286].filterMap (fun (i : Nat) => lw_tbl[i]?) ∧ (tb_X5_nextAfter.flatMap (pm_all (RX5))).all goodWord = true := ⟨rfl, by decide +kernel⟩
set_option maxRecDepth 100000 in
set_option maxHeartbeats 4000000 in
theorem tm_X5_nextAfter : tb_X5_nextAfter.flatMap (pm_allN (RX5)) = [143].filterMap (fun (i : Nat) => lw_tbl[i]?) ∧ tb_X5_nextAfter.all (fun r => pm_chk RX5 false r.2.1 r.2.2.1 r.2.2.2 && pm_ckj r) = true := ⟨rfl, by decide +kernel⟩
set_option maxRecDepth 100000 in
set_option maxHeartbeats 4000000 in
theorem tn_X5_turnTo : tb_X5_turnTo.flatMap (pm_all (RX5)) = [165, 167, 169, 159, 159, 161, 283, 284, 285, 59, 286, 374, 376, 7, 58, 377, 159, 279, 281, 5, 58, 282].filterMap (fun (i : Nat) => lw_tbl[i]?) ∧ (tb_X5_turnTo.flatMap (pm_all (RX5))).all goodWord = true := ⟨rfl, by decide +kernel⟩
set_option maxRecDepth 100000 in
set_option maxHeartbeats 4000000 in
theorem tm_X5_turnTo : tb_X5_turnTo.flatMap (pm_allN (RX5)) = [143, 146, 146, 143, 143].filterMap (fun (i : Nat) => lw_tbl[i]?) ∧ tb_X5_turnTo.all (fun r => pm_chk RX5 false r.2.1 r.2.2.1 r.2.2.2 && pm_ckj r) = true := ⟨rfl, by decide +kernel⟩
set_option maxRecDepth 100000 in
set_option maxHeartbeats 4000000 in
theorem tn_X5_doNext : tb_X5_doNext.flatMap (pm_all (RX5)) = [157, 159, 163, 159, 161, 378, 379, 380, 66, 381, 159, 382, 383, 384, 59, 385, 168, 168].filterMap (fun (i : Nat) => lw_tbl[i]?) ∧ (tb_X5_doNext.flatMap (pm_all (RX5))).all goodWord = true := ⟨rfl, by decide +kernel⟩
set_option maxRecDepth 100000 in
set_option maxHeartbeats 4000000 in
theorem tm_X5_doNext : tb_X5_doNext.flatMap (pm_allN (RX5)) = [143, 143].filterMap (fun (i : Nat) => lw_tbl[i]?) ∧ tb_X5_doNext.all (fun r => pm_chk RX5 false r.2.1 r.2.2.1 r.2.2.2 && pm_ckj r) = true := ⟨rfl, by decide +kernel⟩
set_option maxRecDepth 100000 in
set_option maxHeartbeats 4000000 in
theorem tn_X5_orderOf : tb_X5_orderOf.flatMap (pm_all (RX5)) = [155, 287, 67, 165, 159, 283, 284, 285, 59, 286, 159, 288, 289, 290, 59, 291, 295, 296, 67, 297].filterMap (fun (i : Nat) => lw_tbl[i]?) ∧ (tb_X5_orderOf.flatMap (pm_all (RX5))).all goodWord = true := ⟨rfl, by decide +kernel⟩
set_option maxRecDepth 100000 in
set_option maxHeartbeats 4000000 in
theorem tm_X5_orderOf : tb_X5_orderOf.flatMap (pm_allN (RX5)) = [].filterMap (fun (i : Nat) => lw_tbl[i]?) ∧ tb_X5_orderOf.all (fun r => pm_chk RX5 false r.2.1 r.2.2.1 r.2.2.2 && pm_ckj r) = true := ⟨rfl, by decide +kernel⟩
set_option maxRecDepth 100000 in
set_option maxHeartbeats 4000000 in
theorem tn_X5_reply : tb_X5_reply.flatMap (pm_all (RX5)) = [159, 159, 283, 284, 285, 59, 286, 163, 158, 156, 155, 287, 67, 165, 159, 288, 289, 290, 59, 291, 295, 296, 67, 297, 339, 340, 341, 56, 342].filterMap (fun (i : Nat) => lw_tbl[i]?) ∧ (tb_X5_reply.flatMap (pm_all (RX5))).all goodWord = true := ⟨rfl, by decide +kernel⟩
set_option maxRecDepth 100000 in
set_option maxHeartbeats 4000000 in
theorem tm_X5_reply : tb_X5_reply.flatMap (pm_allN (RX5)) = [143].filterMap (fun (i : Nat) => lw_tbl[i]?) ∧ tb_X5_reply.all (fun r => pm_chk RX5 false r.2.1 r.2.2.1 r.2.2.2 && pm_ckj r) = true := ⟨rfl, by decide +kernel⟩
set_option maxRecDepth 100000 in
set_option maxHeartbeats 4000000 in
theorem tn_X6_init : tb_X6_init.flatMap (pm_all (RX6)) = [581, 79, 80, 582, 586, 588, 590, 592, 593, 583, 584, 585].filterMap (fun (i : Nat) => lw_tbl[i]?) ∧ (tb_X6_init.flatMap (pm_all (RX6))).all goodWord = true := ⟨rfl, by decide +kernel⟩
set_option maxRecDepth 100000 in
set_option maxHeartbeats 4000000 in
theorem tm_X6_init : tb_X6_init.flatMap (pm_allN (RX6)) = [].filterMap (fun (i : Nat) => lw_tbl[i]?) ∧ tb_X6_init.all (fun r => pm_chk RX6 true r.2.1 r.2.2.1 r.2.2.2 && pm_ckj r) = true := ⟨rfl, by decide +kernel⟩
set_option maxRecDepth 100000 in
set_option maxHeartbeats 4000000 in
theorem tn_X6_doOn : tb_X6_doOn.flatMap (pm_all (RX6)) = [584, 583, 584, 585, 583, 584, 585, 584].filterMap (fun (i : Nat) => lw_tbl[i]?) ∧ (tb_X6_doOn.flatMap (pm_all (RX6))).all goodWord = true := ⟨rfl, by decide +kernel⟩
set_option maxRecDepth 100000 in
set_option maxHeartbeats 4000000 in
theorem tm_X6_doOn : tb_X6_doOn.flatMap (pm_allN (RX6)) = [].filterMap (fun (i : Nat) => lw_tbl[i]?) ∧ tb_X6_doOn.all (fun r => pm_chk RX6 false r.2.1 r.2.2.1 r.2.2.2 && pm_ckj r) = true := ⟨rfl, by decide +kernel⟩
set_option maxRecDepth 100000 in
set_option maxHeartbeats 4000000 in
theorem tn_X6_keep : tb_X6_keep.flatMap (pm_all (RX6)) = [586, 586].filterMap (fun (i : Nat) => lw_tbl[i]?) ∧ (tb_X6_keep.flatMap (pm_all (RX6))).all goodWord = true := ⟨rfl, by decide +kernel⟩
set_option maxRecDepth 100000 in
set_option maxHeartbeats 4000000 in
theorem tm_X6_keep : tb_X6_keep.flatMap (pm_allN (RX6)) = [305, 305].filterMap (fun (i : Nat) => lw_tbl[i]?) ∧ tb_X6_keep.all (fun r => pm_chk RX6 false r.2.1 r.2.2.1 r.2.2.2 && pm_ckj r) = true := ⟨rfl, by decide +kernel⟩
set_option maxRecDepth 100000 in
set_option maxHeartbeats 4000000 in
theorem tn_X6_agreedBy : tb_X6_agreedBy.flatMap (pm_all (RX6)) = [586, 586, 242, 244, 2, 66, 246, 586].filterMap (fun (i : Nat) => lw_tbl[i]?) ∧ (tb_X6_agreedBy.flatMap (pm_all (RX6))).all goodWord = true := ⟨rfl, by decide +kernel⟩
set_option maxRecDepth 100000 in
set_option maxHeartbeats 4000000 in
theorem tm_X6_agreedBy : tb_X6_agreedBy.flatMap (pm_allN (RX6)) = [].filterMap (fun (i : Nat) => lw_tbl[i]?) ∧ tb_X6_agreedBy.all (fun r => pm_chk RX6 false r.2.1 r.2.2.1 r.2.2.2 && pm_ckj r) = true := ⟨rfl, by decide +kernel⟩
set_option maxRecDepth 100000 in
set_option maxHeartbeats 4000000 in
theorem tn_X6_countLike : tb_X6_countLike.flatMap (pm_all (RX6)) = [586, 586, 247, 248, 249, 67, 250].filterMap (fun (i : Nat) => lw_tbl[i]?) ∧ (tb_X6_countLike.flatMap (pm_all (RX6))).all goodWord = true := ⟨rfl, by decide +kernel⟩
set_option maxRecDepth 100000 in
set_option maxHeartbeats 4000000 in
theorem tm_X6_countLike : tb_X6_countLike.flatMap (pm_allN (RX6)) = [].filterMap (fun (i : Nat) => lw_tbl[i]?) ∧ tb_X6_countLike.all (fun r => pm_chk RX6 false r.2.1 r.2.2.1 r.2.2.2 && pm_ckj r) = true := ⟨rfl, by decide +kernel⟩
set_option maxRecDepth 100000 in
set_option maxHeartbeats 4000000 in
theorem tn_X6_finish : tb_X6_finish.flatMap (pm_all (RX6)) = [590, 592, 593].filterMap (fun (i : Nat) => lw_tbl[i]?) ∧ (tb_X6_finish.flatMap (pm_all (RX6))).all goodWord = true := ⟨rfl, by decide +kernel⟩
set_option maxRecDepth 100000 in
set_option maxHeartbeats 4000000 in
theorem tm_X6_finish : tb_X6_finish.flatMap (pm_allN (RX6)) = [321, 315].filterMap (fun (i : Nat) => lw_tbl[i]?) ∧ tb_X6_finish.all (fun r => pm_chk RX6 false r.2.1 r.2.2.1 r.2.2.2 && pm_ckj r) = true := ⟨rfl, by decide +kernel⟩
set_option maxRecDepth 100000 in
set_option maxHeartbeats 4000000 in
theorem tn_X6_tell : tb_X6_tell.flatMap (pm_all (RX6)) = [590, 592, 593, 724, 726, 22, 66, 727, 588].filterMap (fun (i : Nat) => lw_tbl[i]?) ∧ (tb_X6_tell.flatMap (pm_all (RX6))).all goodWord = true := ⟨rfl, by decide +kernel⟩
set_option maxRecDepth 100000 in
set_option maxHeartbeats 4000000 in
theorem tm_X6_tell : tb_X6_tell.flatMap (pm_allN (RX6)) = [].filterMap (fun (i : Nat) => lw_tbl[i]?) ∧ tb_X6_tell.all (fun r => pm_chk RX6 false r.2.1 r.2.2.1 r.2.2.2 && pm_ckj r) = true := ⟨rfl, by decide +kernel⟩
set_option maxRecDepth 100000 in
set_option maxHeartbeats 4000000 in
theorem tn_X6_countReplies : tb_X6_countReplies.flatMap (pm_all (RX6)) = [586].filterMap (fun (i : Nat) => lw_tbl[i]?) ∧ (tb_X6_countReplies.flatMap (pm_all (RX6))).all goodWord = true := ⟨rfl, by decide +kernel⟩
set_option maxRecDepth 100000 in
set_option maxHeartbeats 4000000 in
theorem tm_X6_countReplies : tb_X6_countReplies.flatMap (pm_allN (RX6)) = [].filterMap (fun (i : Nat) => lw_tbl[i]?) ∧ tb_X6_countReplies.all (fun r => pm_chk RX6 false r.2.1 r.2.2.1 r.2.2.2 && pm_ckj r) = true := ⟨rfl, by decide +kernel⟩
set_option maxRecDepth 100000 in
set_option maxHeartbeats 4000000 in
theorem tn_X7_init : tb_X7_init.flatMap (pm_all (RX7)) = [78, 79, 80, 81, 83, 84, 56, 86, 56, 87, 99, 100, 55, 101, 193, 194, 102, 103, 57, 104, 105, 57, 106, 195, 128, 196, 196, 128, 130, 58, 131, 132, 58, 133].filterMap (fun (i : Nat) => lw_tbl[i]?) ∧ (tb_X7_init.flatMap (pm_all (RX7))).all goodWord = true := ⟨rfl, by decide +kernel⟩
set_option maxRecDepth 100000 in
set_option maxHeartbeats 4000000 in
theorem tm_X7_init : tb_X7_init.flatMap (pm_allN (RX7)) = [85].filterMap (fun (i : Nat) => lw_tbl[i]?) ∧ tb_X7_init.all (fun r => pm_chk RX7 true r.2.1 r.2.2.1 r.2.2.2 && pm_ckj r) = true := ⟨rfl, by decide +kernel⟩
set_option maxRecDepth 100000 in
set_option maxHeartbeats 4000000 in
theorem tn_X7_issue : tb_X7_issue.flatMap (pm_all (RX7)) = [195, 195, 81, 245, 66, 578, 579, 66, 580, 611, 612, 613, 57, 614].filterMap (fun (i : Nat) => lw_tbl[i]?) ∧ (tb_X7_issue.flatMap (pm_all (RX7))).all goodWord = true := ⟨rfl, by decide +kernel⟩
set_option maxRecDepth 100000 in
set_option maxHeartbeats 4000000 in
theorem tm_X7_issue : tb_X7_issue.flatMap (pm_allN (RX7)) = [114].filterMap (fun (i : Nat) => lw_tbl[i]?) ∧ tb_X7_issue.all (fun r => pm_chk RX7 false r.2.1 r.2.2.1 r.2.2.2 && pm_ckj r) = true := ⟨rfl, by decide +kernel⟩
set_option maxRecDepth 100000 in
set_option maxHeartbeats 4000000 in
theorem tn_X7_retry : tb_X7_retry.flatMap (pm_all (RX7)) = [195, 626, 227, 228, 57, 229, 195, 643, 644, 645, 57, 646].filterMap (fun (i : Nat) => lw_tbl[i]?) ∧ (tb_X7_retry.flatMap (pm_all (RX7))).all goodWord = true := ⟨rfl, by decide +kernel⟩
set_option maxRecDepth 100000 in
set_option maxHeartbeats 4000000 in
theorem tm_X7_retry : tb_X7_retry.flatMap (pm_allN (RX7)) = [].filterMap (fun (i : Nat) => lw_tbl[i]?) ∧ tb_X7_retry.all (fun r => pm_chk RX7 false r.2.1 r.2.2.1 r.2.2.2 && pm_ckj r) = true := ⟨rfl, by decide +kernel⟩
set_option maxRecDepth 100000 in
set_option maxHeartbeats 4000000 in
theorem tn_X7_deliver : tb_X7_deliver.flatMap (pm_all (RX7)) = [210, 212, 0, 55, 213].filterMap (fun (i : Nat) => lw_tbl[i]?) ∧ (tb_X7_deliver.flatMap (pm_all (RX7))).all goodWord = true := ⟨rfl, by decide +kernel⟩
set_option maxRecDepth 100000 in
set_option maxHeartbeats 4000000 in
theorem tm_X7_deliver : tb_X7_deliver.flatMap (pm_allN (RX7)) = [].filterMap (fun (i : Nat) => lw_tbl[i]?) ∧ tb_X7_deliver.all (fun r => pm_chk RX7 false r.2.1 r.2.2.1 r.2.2.2 && pm_ckj r) = true := ⟨rfl, by decide +kernel⟩
set_option maxRecDepth 100000 in
set_option maxHeartbeats 4000000 in
theorem tn_X7_flood : tb_X7_flood.flatMap (pm_all (RX7)) = [194, 210, 212, 0, 55, 213].filterMap (fun (i : Nat) => lw_tbl[i]?) ∧ (tb_X7_flood.flatMap (pm_all (RX7))).all goodWord = true := ⟨rfl, by decide +kernel⟩
set_option maxRecDepth 100000 in
set_option maxHeartbeats 4000000 in
theorem tm_X7_flood : tb_X7_flood.flatMap (pm_allN (RX7)) = [93].filterMap (fun (i : Nat) => lw_tbl[i]?) ∧ tb_X7_flood.all (fun r => pm_chk RX7 false r.2.1 r.2.2.1 r.2.2.2 && pm_ckj r) = true := ⟨rfl, by decide +kernel⟩
set_option maxRecDepth 100000 in
set_option maxHeartbeats 4000000 in
theorem tn_X7_lose : tb_X7_lose.flatMap (pm_all (RX7)) = [194, 214, 215, 216, 56, 217].filterMap (fun (i : Nat) => lw_tbl[i]?) ∧ (tb_X7_lose.flatMap (pm_all (RX7))).all goodWord = true := ⟨rfl, by decide +kernel⟩
set_option maxRecDepth 100000 in
set_option maxHeartbeats 4000000 in
theorem tm_X7_lose : tb_X7_lose.flatMap (pm_allN (RX7)) = [355, 355].filterMap (fun (i : Nat) => lw_tbl[i]?) ∧ tb_X7_lose.all (fun r => pm_chk RX7 false r.2.1 r.2.2.1 r.2.2.2 && pm_ckj r) = true := ⟨rfl, by decide +kernel⟩
set_option maxRecDepth 100000 in
set_option maxHeartbeats 4000000 in
theorem tn_X7_patience : tb_X7_patience.flatMap (pm_all (RX7)) = [99, 100, 55, 101, 193, 196, 665, 666, 667, 58, 668].filterMap (fun (i : Nat) => lw_tbl[i]?) ∧ (tb_X7_patience.flatMap (pm_all (RX7))).all goodWord = true := ⟨rfl, by decide +kernel⟩
set_option maxRecDepth 100000 in
set_option maxHeartbeats 4000000 in
theorem tm_X7_patience : tb_X7_patience.flatMap (pm_allN (RX7)) = [].filterMap (fun (i : Nat) => lw_tbl[i]?) ∧ tb_X7_patience.all (fun r => pm_chk RX7 false r.2.1 r.2.2.1 r.2.2.2 && pm_ckj r) = true := ⟨rfl, by decide +kernel⟩
set_option maxRecDepth 100000 in
set_option maxHeartbeats 4000000 in
theorem tn_X7_lie : tb_X7_lie.flatMap (pm_all (RX7)) = [99, 100, 55, 101, 193, 195, 626, 227, 228, 57, 229, 196, 193, 678, 273, 55, 274, 193, 193, 679, 396, 397, 58, 398, 264, 265, 266, 58, 267].filterMap (fun (i : Nat) => lw_tbl[i]?) ∧ (tb_X7_lie.flatMap (pm_all (RX7))).all goodWord = true := ⟨rfl, by decide +kernel⟩
set_option maxRecDepth 100000 in
set_option maxHeartbeats 4000000 in
theorem tm_X7_lie : tb_X7_lie.flatMap (pm_allN (RX7)) = [166, 160, 144, 160, 144].filterMap (fun (i : Nat) => lw_tbl[i]?) ∧ tb_X7_lie.all (fun r => pm_chk RX7 false r.2.1 r.2.2.1 r.2.2.2 && pm_ckj r) = true := ⟨rfl, by decide +kernel⟩
set_option maxRecDepth 100000 in
set_option maxHeartbeats 4000000 in
theorem tn_X7_echo : tb_X7_echo.flatMap (pm_all (RX7)) = [195, 626, 227, 228, 57, 229, 99, 100, 55, 101, 193, 193, 195, 193, 218, 219, 220, 57, 221].filterMap (fun (i : Nat) => lw_tbl[i]?) ∧ (tb_X7_echo.flatMap (pm_all (RX7))).all goodWord = true := ⟨rfl, by decide +kernel⟩
set_option maxRecDepth 100000 in
set_option maxHeartbeats 4000000 in
theorem tm_X7_echo : tb_X7_echo.flatMap (pm_allN (RX7)) = [587].filterMap (fun (i : Nat) => lw_tbl[i]?) ∧ tb_X7_echo.all (fun r => pm_chk RX7 false r.2.1 r.2.2.1 r.2.2.2 && pm_ckj r) = true := ⟨rfl, by decide +kernel⟩
set_option maxRecDepth 100000 in
set_option maxHeartbeats 4000000 in
theorem tn_X7_replica : tb_X7_replica.flatMap (pm_all (RX7)) = [99, 100, 55, 101, 196, 695, 284, 285, 59, 286, 696, 697, 698, 58, 699].filterMap (fun (i : Nat) => lw_tbl[i]?) ∧ (tb_X7_replica.flatMap (pm_all (RX7))).all goodWord = true := ⟨rfl, by decide +kernel⟩
set_option maxRecDepth 100000 in
set_option maxHeartbeats 4000000 in
theorem tm_X7_replica : tb_X7_replica.flatMap (pm_allN (RX7)) = [162, 160].filterMap (fun (i : Nat) => lw_tbl[i]?) ∧ tb_X7_replica.all (fun r => pm_chk RX7 false r.2.1 r.2.2.1 r.2.2.2 && pm_ckj r) = true := ⟨rfl, by decide +kernel⟩
set_option maxRecDepth 100000 in
set_option maxHeartbeats 4000000 in
theorem tn_X7_messages : tb_X7_messages.flatMap (pm_all (RX7)) = [194].filterMap (fun (i : Nat) => lw_tbl[i]?) ∧ (tb_X7_messages.flatMap (pm_all (RX7))).all goodWord = true := ⟨rfl, by decide +kernel⟩
set_option maxRecDepth 100000 in
set_option maxHeartbeats 4000000 in
theorem tm_X7_messages : tb_X7_messages.flatMap (pm_allN (RX7)) = [93].filterMap (fun (i : Nat) => lw_tbl[i]?) ∧ tb_X7_messages.all (fun r => pm_chk RX7 false r.2.1 r.2.2.1 r.2.2.2 && pm_ckj r) = true := ⟨rfl, by decide +kernel⟩
set_option maxRecDepth 100000 in
set_option maxHeartbeats 4000000 in
theorem tn_X7_message : tb_X7_message.flatMap (pm_all (RX7)) = [194, 214, 215, 216, 56, 217, 708, 709, 710, 68, 711].filterMap (fun (i : Nat) => lw_tbl[i]?) ∧ (tb_X7_message.flatMap (pm_all (RX7))).all goodWord = true := ⟨rfl, by decide +kernel⟩
set_option maxRecDepth 100000 in
set_option maxHeartbeats 4000000 in
theorem tm_X7_message : tb_X7_message.flatMap (pm_allN (RX7)) = [].filterMap (fun (i : Nat) => lw_tbl[i]?) ∧ tb_X7_message.all (fun r => pm_chk RX7 false r.2.1 r.2.2.1 r.2.2.2 && pm_ckj r) = true := ⟨rfl, by decide +kernel⟩
set_option maxRecDepth 100000 in
set_option maxHeartbeats 4000000 in
theorem tn_X7_request : tb_X7_request.flatMap (pm_all (RX7)) = [195, 626, 227, 228, 57, 229, 720, 721, 722, 66, 723].filterMap (fun (i : Nat) => lw_tbl[i]?) ∧ (tb_X7_request.flatMap (pm_all (RX7))).all goodWord = true := ⟨rfl, by decide +kernel⟩
set_option maxRecDepth 100000 in
set_option maxHeartbeats 4000000 in
theorem tm_X7_request : tb_X7_request.flatMap (pm_allN (RX7)) = [].filterMap (fun (i : Nat) => lw_tbl[i]?) ∧ tb_X7_request.all (fun r => pm_chk RX7 false r.2.1 r.2.2.1 r.2.2.2 && pm_ckj r) = true := ⟨rfl, by decide +kernel⟩
set_option maxRecDepth 100000 in
set_option maxHeartbeats 4000000 in
theorem tn_X7_view : tb_X7_view.flatMap (pm_all (RX7)) = [195].filterMap (fun (i : Nat) => lw_tbl[i]?) ∧ (tb_X7_view.flatMap (pm_all (RX7))).all goodWord = true := ⟨rfl, by decide +kernel⟩
set_option maxRecDepth 100000 in
set_option maxHeartbeats 4000000 in
theorem tm_X7_view : tb_X7_view.flatMap (pm_allN (RX7)) = [116].filterMap (fun (i : Nat) => lw_tbl[i]?) ∧ tb_X7_view.all (fun r => pm_chk RX7 false r.2.1 r.2.2.1 r.2.2.2 && pm_ckj r) = true := ⟨rfl, by decide +kernel⟩
set_option maxRecDepth 100000 in
set_option maxHeartbeats 4000000 in
theorem tn_X7_handOver : tb_X7_handOver.flatMap (pm_all (RX7)) = [194, 214, 215, 216, 56, 217, 195, 218, 219, 220, 57, 221, 99, 100, 55, 101, 193, 196, 264, 265, 266, 58, 267].filterMap (fun (i : Nat) => lw_tbl[i]?) ∧ (tb_X7_handOver.flatMap (pm_all (RX7))).all goodWord = true := ⟨rfl, by decide +kernel⟩
set_option maxRecDepth 100000 in
set_option maxHeartbeats 4000000 in
theorem tm_X7_handOver : tb_X7_handOver.flatMap (pm_allN (RX7)) = [355, 355, 351, 349, 353, 351, 351, 351, 349, 353].filterMap (fun (i : Nat) => lw_tbl[i]?) ∧ tb_X7_handOver.all (fun r => pm_chk RX7 false r.2.1 r.2.2.1 r.2.2.2 && pm_ckj r) = true := ⟨rfl, by decide +kernel⟩
set_option maxRecDepth 100000 in
set_option maxHeartbeats 4000000 in
theorem tn_X7_isReplica : tb_X7_isReplica.flatMap (pm_all (RX7)) = [].filterMap (fun (i : Nat) => lw_tbl[i]?) ∧ (tb_X7_isReplica.flatMap (pm_all (RX7))).all goodWord = true := ⟨rfl, by decide +kernel⟩
set_option maxRecDepth 100000 in
set_option maxHeartbeats 4000000 in
theorem tm_X7_isReplica : tb_X7_isReplica.flatMap (pm_allN (RX7)) = [].filterMap (fun (i : Nat) => lw_tbl[i]?) ∧ tb_X7_isReplica.all (fun r => pm_chk RX7 false r.2.1 r.2.2.1 r.2.2.2 && pm_ckj r) = true := ⟨rfl, by decide +kernel⟩
set_option maxRecDepth 100000 in
set_option maxHeartbeats 4000000 in
theorem tn_X7_primaryOf : tb_X7_primaryOf.flatMap (pm_all (RX7)) = [].filterMap (fun (i : Nat) => lw_tbl[i]?) ∧ (tb_X7_primaryOf.flatMap (pm_all (RX7))).all goodWord = true := ⟨rfl, by decide +kernel⟩
set_option maxRecDepth 100000 in
set_option maxHeartbeats 4000000 in
theorem tm_X7_primaryOf : tb_X7_primaryOf.flatMap (pm_allN (RX7)) = [].filterMap (fun (i : Nat) => lw_tbl[i]?) ∧ tb_X7_primaryOf.all (fun r => pm_chk RX7 false r.2.1 r.2.2.1 r.2.2.2 && pm_ckj r) = true := ⟨rfl, by decide +kernel⟩
end
section
set_option maxRecDepth 100000 in
set_option maxHeartbeats 4000000 in
theorem tn_X7_askFor : tb_X7_askFor.flatMap (pm_all (RX7)) = [389, 287, 67, 390, 296, 67, 297].filterMap (fun (i : Nat) => lw_tbl[i]?) ∧ (tb_X7_askFor.flatMap (pm_all (RX7))).all goodWord = true := ⟨rfl, by decide +kernel⟩
set_option maxRecDepth 100000 in
set_option maxHeartbeats 4000000 in
theorem tm_X7_askFor : tb_X7_askFor.flatMap (pm_allN (RX7)) = [].filterMap (fun (i : Nat) => lw_tbl[i]?) ∧ tb_X7_askFor.all (fun r => pm_chk RX7 false r.2.1 r.2.2.1 r.2.2.2 && pm_ckj r) = true := ⟨rfl, by decide +kernel⟩
set_option maxRecDepth 100000 in
set_option maxHeartbeats 4000000 in
theorem tn_X8_init : tb_X8_init.flatMap (pm_all (RX8)) = [733, 79, 80, 154, 737, 154, 738, 154, 739, 154, 740, 154, 741, 873, 742, 154, 743, 874, 744, 154, 745, 154, 746, 154, 747, 154, 748, 873, 749, 154, 750, 154, 752, 154, 753, 154, 754, 154, 755, 154, 756, 154, 757, 154, 758, 154, 759, 154, 760, 873, 761, 154, 762, 154, 764, 154, 765, 154, 766, 154, 767, 154, 768, 154, 769, 154, 770, 874, 771, 154, 772, 154, 773, 154, 774, 154, 775, 874, 776, 154, 777, 154, 778, 154, 779, 735, 747, 764, 768].filterMap (fun (i : Nat) => lw_tbl[i]?) ∧ (tb_X8_init.flatMap (pm_all (RX8))).all goodWord = true := ⟨rfl, by decide +kernel⟩
set_option maxRecDepth 100000 in
set_option maxHeartbeats 4000000 in
theorem tm_X8_init : tb_X8_init.flatMap (pm_allN (RX8)) = [].filterMap (fun (i : Nat) => lw_tbl[i]?) ∧ tb_X8_init.all (fun r => pm_chk RX8 true r.2.1 r.2.2.1 r.2.2.2 && pm_ckj r) = true := ⟨rfl, by decide +kernel⟩
set_option maxRecDepth 100000 in
set_option maxHeartbeats 4000000 in
theorem tn_X8_thrown : tb_X8_thrown.flatMap (pm_all (RX8)) = [734].filterMap (fun (i : Nat) => lw_tbl[i]?) ∧ (tb_X8_thrown.flatMap (pm_all (RX8))).all goodWord = true := ⟨rfl, by decide +kernel⟩
set_option maxRecDepth 100000 in
set_option maxHeartbeats 4000000 in
theorem tm_X8_thrown : tb_X8_thrown.flatMap (pm_allN (RX8)) = [].filterMap (fun (i : Nat) => lw_tbl[i]?) ∧ tb_X8_thrown.all (fun r => pm_chk RX8 false r.2.1 r.2.2.1 r.2.2.2 && pm_ckj r) = true := ⟨rfl, by decide +kernel⟩
set_option maxRecDepth 100000 in
set_option maxHeartbeats 4000000 in
theorem tn_X8_refuse : tb_X8_refuse.flatMap (pm_all (RX8)) = [734].filterMap (fun (i : Nat) => lw_tbl[i]?) ∧ (tb_X8_refuse.flatMap (pm_all (RX8))).all goodWord = true := ⟨rfl, by decide +kernel⟩
set_option maxRecDepth 100000 in
set_option maxHeartbeats 4000000 in
theorem tm_X8_refuse : tb_X8_refuse.flatMap (pm_allN (RX8)) = [].filterMap (fun (i : Nat) => lw_tbl[i]?) ∧ tb_X8_refuse.all (fun r => pm_chk RX8 false r.2.1 r.2.2.1 r.2.2.2 && pm_ckj r) = true := ⟨rfl, by decide +kernel⟩
set_option maxRecDepth 100000 in
set_option maxHeartbeats 4000000 in
theorem tn_X8_at : tb_X8_at.flatMap (pm_all (RX8)) = [949].filterMap (fun (i : Nat) => lw_tbl[i]?) ∧ (tb_X8_at.flatMap (pm_all (RX8))).all goodWord = true := ⟨rfl, by decide +kernel⟩
set_option maxRecDepth 100000 in
set_option maxHeartbeats 4000000 in
theorem tm_X8_at : tb_X8_at.flatMap (pm_allN (RX8)) = [].filterMap (fun (i : Nat) => lw_tbl[i]?) ∧ tb_X8_at.all (fun r => pm_chk RX8 false r.2.1 r.2.2.1 r.2.2.2 && pm_ckj r) = true := ⟨rfl, by decide +kernel⟩
set_option maxRecDepth 100000 in
set_option maxHeartbeats 4000000 in
theorem tn_X8_with : tb_X8_with.flatMap (pm_all (RX8)) = [].filterMap (fun (i : Nat) => lw_tbl[i]?) ∧ (tb_X8_with.flatMap (pm_all (RX8))).all goodWord = true := ⟨rfl, by decide +kernel⟩
set_option maxRecDepth 100000 in
set_option maxHeartbeats 4000000 in
theorem tm_X8_with : tb_X8_with.flatMap (pm_allN (RX8)) = [].filterMap (fun (i : Nat) => lw_tbl[i]?) ∧ tb_X8_with.all (fun r => pm_chk RX8 false r.2.1 r.2.2.1 r.2.2.2 && pm_ckj r) = true := ⟨rfl, by decide +kernel⟩
set_option maxRecDepth 100000 in
set_option maxHeartbeats 4000000 in
theorem tn_X8_begin : tb_X8_begin.flatMap (pm_all (RX8)) = [].filterMap (fun (i : Nat) => lw_tbl[i]?) ∧ (tb_X8_begin.flatMap (pm_all (RX8))).all goodWord = true := ⟨rfl, by decide +kernel⟩
set_option maxRecDepth 100000 in
set_option maxHeartbeats 4000000 in
theorem tm_X8_begin : tb_X8_begin.flatMap (pm_allN (RX8)) = [].filterMap (fun (i : Nat) => lw_tbl[i]?) ∧ tb_X8_begin.all (fun r => pm_chk RX8 false r.2.1 r.2.2.1 r.2.2.2 && pm_ckj r) = true := ⟨rfl, by decide +kernel⟩
set_option maxRecDepth 100000 in
set_option maxHeartbeats 4000000 in
theorem tn_X8_digestOf : tb_X8_digestOf.flatMap (pm_all (RX8)) = [946, 947, 60, 948].filterMap (fun (i : Nat) => lw_tbl[i]?) ∧ (tb_X8_digestOf.flatMap (pm_all (RX8))).all goodWord = true := ⟨rfl, by decide +kernel⟩
set_option maxRecDepth 100000 in
set_option maxHeartbeats 4000000 in
theorem tm_X8_digestOf : tb_X8_digestOf.flatMap (pm_allN (RX8)) = [].filterMap (fun (i : Nat) => lw_tbl[i]?) ∧ tb_X8_digestOf.all (fun r => pm_chk RX8 false r.2.1 r.2.2.1 r.2.2.2 && pm_ckj r) = true := ⟨rfl, by decide +kernel⟩
set_option maxRecDepth 100000 in
set_option maxHeartbeats 4000000 in
theorem tn_X8_placeIn : tb_X8_placeIn.flatMap (pm_all (RX8)) = [946, 947, 60, 948].filterMap (fun (i : Nat) => lw_tbl[i]?) ∧ (tb_X8_placeIn.flatMap (pm_all (RX8))).all goodWord = true := ⟨rfl, by decide +kernel⟩
set_option maxRecDepth 100000 in
set_option maxHeartbeats 4000000 in
theorem tm_X8_placeIn : tb_X8_placeIn.flatMap (pm_allN (RX8)) = [].filterMap (fun (i : Nat) => lw_tbl[i]?) ∧ tb_X8_placeIn.all (fun r => pm_chk RX8 false r.2.1 r.2.2.1 r.2.2.2 && pm_ckj r) = true := ⟨rfl, by decide +kernel⟩
set_option maxRecDepth 100000 in
set_option maxHeartbeats 4000000 in
theorem tn_X8_work : tb_X8_work.flatMap (pm_all (RX8)) = [779, 946, 947, 60, 948, 779, 738, 737, 779, 738, 739, 737, 779, 738, 739, 737, 779, 738].filterMap (fun (i : Nat) => lw_tbl[i]?) ∧ (tb_X8_work.flatMap (pm_all (RX8))).all goodWord = true := ⟨rfl, by decide +kernel⟩
set_option maxRecDepth 100000 in
set_option maxHeartbeats 4000000 in
theorem tm_X8_work : tb_X8_work.flatMap (pm_allN (RX8)) = [].filterMap (fun (i : Nat) => lw_tbl[i]?) ∧ tb_X8_work.all (fun r => pm_chk RX8 false r.2.1 r.2.2.1 r.2.2.2 && pm_ckj r) = true := ⟨rfl, by decide +kernel⟩
set_option maxRecDepth 100000 in
set_option maxHeartbeats 4000000 in
theorem tn_X8_send : tb_X8_send.flatMap (pm_all (RX8)) = [751, 751, 752, 753, 754, 755, 757, 756, 758, 751, 751].filterMap (fun (i : Nat) => lw_tbl[i]?) ∧ (tb_X8_send.flatMap (pm_all (RX8))).all goodWord = true := ⟨rfl, by decide +kernel⟩
set_option maxRecDepth 100000 in
set_option maxHeartbeats 4000000 in
theorem tm_X8_send : tb_X8_send.flatMap (pm_allN (RX8)) = [].filterMap (fun (i : Nat) => lw_tbl[i]?) ∧ tb_X8_send.all (fun r => pm_chk RX8 false r.2.1 r.2.2.1 r.2.2.2 && pm_ckj r) = true := ⟨rfl, by decide +kernel⟩
set_option maxRecDepth 100000 in
set_option maxHeartbeats 4000000 in
theorem tn_X8_sendToAll : tb_X8_sendToAll.flatMap (pm_all (RX8)) = [887, 889, 24, 60, 890].filterMap (fun (i : Nat) => lw_tbl[i]?) ∧ (tb_X8_sendToAll.flatMap (pm_all (RX8))).all goodWord = true := ⟨rfl, by decide +kernel⟩
set_option maxRecDepth 100000 in
set_option maxHeartbeats 4000000 in
theorem tm_X8_sendToAll : tb_X8_sendToAll.flatMap (pm_allN (RX8)) = [].filterMap (fun (i : Nat) => lw_tbl[i]?) ∧ tb_X8_sendToAll.all (fun r => pm_chk RX8 false r.2.1 r.2.2.1 r.2.2.2 && pm_ckj r) = true := ⟨rfl, by decide +kernel⟩
set_option maxRecDepth 100000 in
set_option maxHeartbeats 4000000 in
theorem tn_X8_sendRow : tb_X8_sendRow.flatMap (pm_all (RX8)) = [887, 889, 24, 60, 890, 761, 760].filterMap (fun (i : Nat) => lw_tbl[i]?) ∧ (tb_X8_sendRow.flatMap (pm_all (RX8))).all goodWord = true := ⟨rfl, by decide +kernel⟩
set_option maxRecDepth 100000 in
set_option maxHeartbeats 4000000 in
theorem tm_X8_sendRow : tb_X8_sendRow.flatMap (pm_allN (RX8)) = [].filterMap (fun (i : Nat) => lw_tbl[i]?) ∧ tb_X8_sendRow.all (fun r => pm_chk RX8 false r.2.1 r.2.2.1 r.2.2.2 && pm_ckj r) = true := ⟨rfl, by decide +kernel⟩
set_option maxRecDepth 100000 in
set_option maxHeartbeats 4000000 in
theorem tn_X8_reply : tb_X8_reply.flatMap (pm_all (RX8)) = [740, 742, 946, 947, 60, 948, 742, 954, 955, 60, 956, 887, 889, 24, 60, 890, 759, 742, 957, 959, 37, 60, 960].filterMap (fun (i : Nat) => lw_tbl[i]?) ∧ (tb_X8_reply.flatMap (pm_all (RX8))).all goodWord = true := ⟨rfl, by decide +kernel⟩
set_option maxRecDepth 100000 in
set_option maxHeartbeats 4000000 in
theorem tm_X8_reply : tb_X8_reply.flatMap (pm_allN (RX8)) = [].filterMap (fun (i : Nat) => lw_tbl[i]?) ∧ tb_X8_reply.all (fun r => pm_chk RX8 false r.2.1 r.2.2.1 r.2.2.2 && pm_ckj r) = true := ⟨rfl, by decide +kernel⟩
set_option maxRecDepth 100000 in
set_option maxHeartbeats 4000000 in
theorem tn_X8_order : tb_X8_order.flatMap (pm_all (RX8)) = [740, 742, 946, 947, 60, 948, 742, 954, 955, 60, 956, 907, 909, 28, 60, 910].filterMap (fun (i : Nat) => lw_tbl[i]?) ∧ (tb_X8_order.flatMap (pm_all (RX8))).all goodWord = true := ⟨rfl, by decide +kernel⟩
set_option maxRecDepth 100000 in
set_option maxHeartbeats 4000000 in
theorem tm_X8_order : tb_X8_order.flatMap (pm_allN (RX8)) = [].filterMap (fun (i : Nat) => lw_tbl[i]?) ∧ tb_X8_order.all (fun r => pm_chk RX8 false r.2.1 r.2.2.1 r.2.2.2 && pm_ckj r) = true := ⟨rfl, by decide +kernel⟩
set_option maxRecDepth 100000 in
set_option maxHeartbeats 4000000 in
theorem tn_X8_isPrimary : tb_X8_isPrimary.flatMap (pm_all (RX8)) = [740].filterMap (fun (i : Nat) => lw_tbl[i]?) ∧ (tb_X8_isPrimary.flatMap (pm_all (RX8))).all goodWord = true := ⟨rfl, by decide +kernel⟩
set_option maxRecDepth 100000 in
set_option maxHeartbeats 4000000 in
theorem tm_X8_isPrimary : tb_X8_isPrimary.flatMap (pm_allN (RX8)) = [].filterMap (fun (i : Nat) => lw_tbl[i]?) ∧ tb_X8_isPrimary.all (fun r => pm_chk RX8 false r.2.1 r.2.2.1 r.2.2.2 && pm_ckj r) = true := ⟨rfl, by decide +kernel⟩
set_option maxRecDepth 100000 in
set_option maxHeartbeats 4000000 in
theorem tn_X8_append : tb_X8_append.flatMap (pm_all (RX8)) = [742, 742, 741, 973, 974, 60, 975, 741, 745].filterMap (fun (i : Nat) => lw_tbl[i]?) ∧ (tb_X8_append.flatMap (pm_all (RX8))).all goodWord = true := ⟨rfl, by decide +kernel⟩
set_option maxRecDepth 100000 in
set_option maxHeartbeats 4000000 in
theorem tm_X8_append : tb_X8_append.flatMap (pm_allN (RX8)) = [].filterMap (fun (i : Nat) => lw_tbl[i]?) ∧ tb_X8_append.all (fun r => pm_chk RX8 false r.2.1 r.2.2.1 r.2.2.2 && pm_ckj r) = true := ⟨rfl, by decide +kernel⟩
set_option maxRecDepth 100000 in
set_option maxHeartbeats 4000000 in
theorem tn_X8_takeAsk : tb_X8_takeAsk.flatMap (pm_all (RX8)) = [742, 741, 943, 944, 60, 945, 950, 952, 36, 60, 953, 961, 963, 38, 60, 964, 965, 967, 39, 60, 968, 961, 963, 38, 60, 964, 969, 971, 40, 60, 972, 741, 965, 967, 39, 60, 968, 741, 950, 952, 36, 60, 953, 745, 740, 740, 887, 889, 24, 60, 890].filterMap (fun (i : Nat) => lw_tbl[i]?) ∧ (tb_X8_takeAsk.flatMap (pm_all (RX8))).all goodWord = true := ⟨rfl, by decide +kernel⟩
set_option maxRecDepth 100000 in
set_option maxHeartbeats 4000000 in
theorem tm_X8_takeAsk : tb_X8_takeAsk.flatMap (pm_allN (RX8)) = [].filterMap (fun (i : Nat) => lw_tbl[i]?) ∧ tb_X8_takeAsk.all (fun r => pm_chk RX8 false r.2.1 r.2.2.1 r.2.2.2 && pm_ckj r) = true := ⟨rfl, by decide +kernel⟩
set_option maxRecDepth 100000 in
set_option maxHeartbeats 4000000 in
theorem tn_X8_takeOrder : tb_X8_takeOrder.flatMap (pm_all (RX8)) = [744, 740, 741, 742, 741, 943, 944, 60, 945, 742, 741, 954, 955, 60, 956, 969, 971, 40, 60, 972, 950, 952, 36, 60, 953].filterMap (fun (i : Nat) => lw_tbl[i]?) ∧ (tb_X8_takeOrder.flatMap (pm_all (RX8))).all goodWord = true := ⟨rfl, by decide +kernel⟩
set_option maxRecDepth 100000 in
set_option maxHeartbeats 4000000 in
theorem tm_X8_takeOrder : tb_X8_takeOrder.flatMap (pm_allN (RX8)) = [].filterMap (fun (i : Nat) => lw_tbl[i]?) ∧ tb_X8_takeOrder.all (fun r => pm_chk RX8 false r.2.1 r.2.2.1 r.2.2.2 && pm_ckj r) = true := ⟨rfl, by decide +kernel⟩
set_option maxRecDepth 100000 in
set_option maxHeartbeats 4000000 in
theorem tn_X8_takeProof : tb_X8_takeProof.flatMap (pm_all (RX8)) = [740, 741, 742, 954, 955, 60, 956, 743, 743, 743, 887, 889, 24, 60, 890].filterMap (fun (i : Nat) => lw_tbl[i]?) ∧ (tb_X8_takeProof.flatMap (pm_all (RX8))).all goodWord = true := ⟨rfl, by decide +kernel⟩
set_option maxRecDepth 100000 in
set_option maxHeartbeats 4000000 in
theorem tm_X8_takeProof : tb_X8_takeProof.flatMap (pm_allN (RX8)) = [].filterMap (fun (i : Nat) => lw_tbl[i]?) ∧ tb_X8_takeProof.all (fun r => pm_chk RX8 false r.2.1 r.2.2.1 r.2.2.2 && pm_ckj r) = true := ⟨rfl, by decide +kernel⟩
set_option maxRecDepth 100000 in
set_option maxHeartbeats 4000000 in
theorem tn_X8_bits : tb_X8_bits.flatMap (pm_all (RX8)) = [].filterMap (fun (i : Nat) => lw_tbl[i]?) ∧ (tb_X8_bits.flatMap (pm_all (RX8))).all goodWord = true := ⟨rfl, by decide +kernel⟩
set_option maxRecDepth 100000 in
set_option maxHeartbeats 4000000 in
theorem tm_X8_bits : tb_X8_bits.flatMap (pm_allN (RX8)) = [].filterMap (fun (i : Nat) => lw_tbl[i]?) ∧ tb_X8_bits.all (fun r => pm_chk RX8 false r.2.1 r.2.2.1 r.2.2.2 && pm_ckj r) = true := ⟨rfl, by decide +kernel⟩
set_option maxRecDepth 100000 in
set_option maxHeartbeats 4000000 in
theorem tn_X8_takeHate : tb_X8_takeHate.flatMap (pm_all (RX8)) = [746, 746, 988, 989, 60, 990, 740, 746, 744, 740, 740, 742, 741, 743, 991, 993, 44, 60, 994, 740, 742, 741, 743, 1014, 1016, 49, 60, 1017].filterMap (fun (i : Nat) => lw_tbl[i]?) ∧ (tb_X8_takeHate.flatMap (pm_all (RX8))).all goodWord = true := ⟨rfl, by decide +kernel⟩
set_option maxRecDepth 100000 in
set_option maxHeartbeats 4000000 in
theorem tm_X8_takeHate : tb_X8_takeHate.flatMap (pm_allN (RX8)) = [].filterMap (fun (i : Nat) => lw_tbl[i]?) ∧ tb_X8_takeHate.all (fun r => pm_chk RX8 false r.2.1 r.2.2.1 r.2.2.2 && pm_ckj r) = true := ⟨rfl, by decide +kernel⟩
set_option maxRecDepth 100000 in
set_option maxHeartbeats 4000000 in
theorem tn_X8_takeChange : tb_X8_takeChange.flatMap (pm_all (RX8)) = [740, 747, 749, 748, 750, 747, 744, 740, 995, 997, 45, 60, 998].filterMap (fun (i : Nat) => lw_tbl[i]?) ∧ (tb_X8_takeChange.flatMap (pm_all (RX8))).all goodWord = true := ⟨rfl, by decide +kernel⟩
set_option maxRecDepth 100000 in
set_option maxHeartbeats 4000000 in
theorem tm_X8_takeChange : tb_X8_takeChange.flatMap (pm_allN (RX8)) = [].filterMap (fun (i : Nat) => lw_tbl[i]?) ∧ tb_X8_takeChange.all (fun r => pm_chk RX8 false r.2.1 r.2.2.1 r.2.2.2 && pm_ckj r) = true := ⟨rfl, by decide +kernel⟩
set_option maxRecDepth 100000 in
set_option maxHeartbeats 4000000 in
theorem tn_X8_safest : tb_X8_safest.flatMap (pm_all (RX8)) = [747, 740, 750, 750].filterMap (fun (i : Nat) => lw_tbl[i]?) ∧ (tb_X8_safest.flatMap (pm_all (RX8))).all goodWord = true := ⟨rfl, by decide +kernel⟩
set_option maxRecDepth 100000 in
set_option maxHeartbeats 4000000 in
theorem tm_X8_safest : tb_X8_safest.flatMap (pm_allN (RX8)) = [].filterMap (fun (i : Nat) => lw_tbl[i]?) ∧ tb_X8_safest.all (fun r => pm_chk RX8 false r.2.1 r.2.2.1 r.2.2.2 && pm_ckj r) = true := ⟨rfl, by decide +kernel⟩
set_option maxRecDepth 100000 in
set_option maxHeartbeats 4000000 in
theorem tn_X8_goesOn : tb_X8_goesOn.flatMap (pm_all (RX8)) = [747, 740, 748, 749, 1003, 1004, 60, 1005, 749, 946, 947, 60, 948].filterMap (fun (i : Nat) => lw_tbl[i]?) ∧ (tb_X8_goesOn.flatMap (pm_all (RX8))).all goodWord = true := ⟨rfl, by decide +kernel⟩
set_option maxRecDepth 100000 in
set_option maxHeartbeats 4000000 in
theorem tm_X8_goesOn : tb_X8_goesOn.flatMap (pm_allN (RX8)) = [].filterMap (fun (i : Nat) => lw_tbl[i]?) ∧ tb_X8_goesOn.all (fun r => pm_chk RX8 false r.2.1 r.2.2.1 r.2.2.2 && pm_ckj r) = true := ⟨rfl, by decide +kernel⟩
set_option maxRecDepth 100000 in
set_option maxHeartbeats 4000000 in
theorem tn_X8_nextOf : tb_X8_nextOf.flatMap (pm_all (RX8)) = [1010, 1012, 48, 60, 1013, 1010, 1012, 48, 60, 1013].filterMap (fun (i : Nat) => lw_tbl[i]?) ∧ (tb_X8_nextOf.flatMap (pm_all (RX8))).all goodWord = true := ⟨rfl, by decide +kernel⟩
set_option maxRecDepth 100000 in
set_option maxHeartbeats 4000000 in
theorem tm_X8_nextOf : tb_X8_nextOf.flatMap (pm_allN (RX8)) = [].filterMap (fun (i : Nat) => lw_tbl[i]?) ∧ tb_X8_nextOf.all (fun r => pm_chk RX8 false r.2.1 r.2.2.1 r.2.2.2 && pm_ckj r) = true := ⟨rfl, by decide +kernel⟩
set_option maxRecDepth 100000 in
set_option maxHeartbeats 4000000 in
theorem tn_X8_makeNew : tb_X8_makeNew.flatMap (pm_all (RX8)) = [999, 1001, 46, 60, 1002, 750, 749, 1003, 1004, 60, 1005, 1006, 1008, 47, 60, 1009, 973, 974, 60, 975, 1006, 1008, 47, 60, 1009, 740, 1014, 1016, 49, 60, 1017, 740, 1018, 1020, 50, 60, 1021].filterMap (fun (i : Nat) => lw_tbl[i]?) ∧ (tb_X8_makeNew.flatMap (pm_all (RX8))).all goodWord = true := ⟨rfl, by decide +kernel⟩
set_option maxRecDepth 100000 in
set_option maxHeartbeats 4000000 in
theorem tm_X8_makeNew : tb_X8_makeNew.flatMap (pm_allN (RX8)) = [].filterMap (fun (i : Nat) => lw_tbl[i]?) ∧ tb_X8_makeNew.all (fun r => pm_chk RX8 false r.2.1 r.2.2.1 r.2.2.2 && pm_ckj r) = true := ⟨rfl, by decide +kernel⟩
set_option maxRecDepth 100000 in
set_option maxHeartbeats 4000000 in
theorem tn_X8_turn : tb_X8_turn.flatMap (pm_all (RX8)) = [740, 742, 741, 743, 744, 746, 745, 946, 947, 60, 948, 950, 952, 36, 60, 953].filterMap (fun (i : Nat) => lw_tbl[i]?) ∧ (tb_X8_turn.flatMap (pm_all (RX8))).all goodWord = true := ⟨rfl, by decide +kernel⟩
set_option maxRecDepth 100000 in
set_option maxHeartbeats 4000000 in
theorem tm_X8_turn : tb_X8_turn.flatMap (pm_allN (RX8)) = [].filterMap (fun (i : Nat) => lw_tbl[i]?) ∧ tb_X8_turn.all (fun r => pm_chk RX8 false r.2.1 r.2.2.1 r.2.2.2 && pm_ckj r) = true := ⟨rfl, by decide +kernel⟩
set_option maxRecDepth 100000 in
set_option maxHeartbeats 4000000 in
theorem tn_X8_takeNew : tb_X8_takeNew.flatMap (pm_all (RX8)) = [755, 753, 740, 740, 744, 761, 756, 760, 1018, 1020, 50, 60, 1021].filterMap (fun (i : Nat) => lw_tbl[i]?) ∧ (tb_X8_takeNew.flatMap (pm_all (RX8))).all goodWord = true := ⟨rfl, by decide +kernel⟩
set_option maxRecDepth 100000 in
set_option maxHeartbeats 4000000 in
theorem tm_X8_takeNew : tb_X8_takeNew.flatMap (pm_allN (RX8)) = [].filterMap (fun (i : Nat) => lw_tbl[i]?) ∧ tb_X8_takeNew.all (fun r => pm_chk RX8 false r.2.1 r.2.2.1 r.2.2.2 && pm_ckj r) = true := ⟨rfl, by decide +kernel⟩
set_option maxRecDepth 100000 in
set_option maxHeartbeats 4000000 in
theorem tn_X8_take : tb_X8_take.flatMap (pm_all (RX8)) = [752, 744, 757, 753, 939, 941, 35, 60, 942, 753, 755, 756, 757, 758, 976, 978, 41, 60, 979, 744, 755, 756, 758, 980, 982, 42, 60, 983, 755, 740, 753, 984, 986, 43, 60, 987, 753, 755, 761, 756, 760, 991, 993, 44, 60, 994, 1022, 1024, 51, 60, 1025].filterMap (fun (i : Nat) => lw_tbl[i]?) ∧ (tb_X8_take.flatMap (pm_all (RX8))).all goodWord = true := ⟨rfl, by decide +kernel⟩
set_option maxRecDepth 100000 in
set_option maxHeartbeats 4000000 in
theorem tm_X8_take : tb_X8_take.flatMap (pm_allN (RX8)) = [].filterMap (fun (i : Nat) => lw_tbl[i]?) ∧ tb_X8_take.all (fun r => pm_chk RX8 false r.2.1 r.2.2.1 r.2.2.2 && pm_ckj r) = true := ⟨rfl, by decide +kernel⟩
set_option maxRecDepth 100000 in
set_option maxHeartbeats 4000000 in
theorem tn_X8_areAlike : tb_X8_areAlike.flatMap (pm_all (RX8)) = [764, 764, 764, 765, 765, 766, 766, 767, 767].filterMap (fun (i : Nat) => lw_tbl[i]?) ∧ (tb_X8_areAlike.flatMap (pm_all (RX8))).all goodWord = true := ⟨rfl, by decide +kernel⟩
set_option maxRecDepth 100000 in
set_option maxHeartbeats 4000000 in
theorem tm_X8_areAlike : tb_X8_areAlike.flatMap (pm_allN (RX8)) = [].filterMap (fun (i : Nat) => lw_tbl[i]?) ∧ tb_X8_areAlike.all (fun r => pm_chk RX8 false r.2.1 r.2.2.1 r.2.2.2 && pm_ckj r) = true := ⟨rfl, by decide +kernel⟩
set_option maxRecDepth 100000 in
set_option maxHeartbeats 4000000 in
theorem tn_X8_alike : tb_X8_alike.flatMap (pm_all (RX8)) = [903, 905, 27, 60, 906].filterMap (fun (i : Nat) => lw_tbl[i]?) ∧ (tb_X8_alike.flatMap (pm_all (RX8))).all goodWord = true := ⟨rfl, by decide +kernel⟩
set_option maxRecDepth 100000 in
set_option maxHeartbeats 4000000 in
theorem tm_X8_alike : tb_X8_alike.flatMap (pm_allN (RX8)) = [].filterMap (fun (i : Nat) => lw_tbl[i]?) ∧ tb_X8_alike.all (fun r => pm_chk RX8 false r.2.1 r.2.2.1 r.2.2.2 && pm_ckj r) = true := ⟨rfl, by decide +kernel⟩
set_option maxRecDepth 100000 in
set_option maxHeartbeats 4000000 in
theorem tn_X8_finish : tb_X8_finish.flatMap (pm_all (RX8)) = [776, 777, 778].filterMap (fun (i : Nat) => lw_tbl[i]?) ∧ (tb_X8_finish.flatMap (pm_all (RX8))).all goodWord = true := ⟨rfl, by decide +kernel⟩
set_option maxRecDepth 100000 in
set_option maxHeartbeats 4000000 in
theorem tm_X8_finish : tb_X8_finish.flatMap (pm_allN (RX8)) = [].filterMap (fun (i : Nat) => lw_tbl[i]?) ∧ tb_X8_finish.all (fun r => pm_chk RX8 false r.2.1 r.2.2.1 r.2.2.2 && pm_ckj r) = true := ⟨rfl, by decide +kernel⟩
set_option maxRecDepth 100000 in
set_option maxHeartbeats 4000000 in
theorem tn_X8_look : tb_X8_look.flatMap (pm_all (RX8)) = [776, 899, 901, 26, 60, 902, 767, 765, 927, 929, 32, 60, 930, 771, 768, 772, 769, 773, 770, 774, 775, 773, 927, 929, 32, 60, 930].filterMap (fun (i : Nat) => lw_tbl[i]?) ∧ (tb_X8_look.flatMap (pm_all (RX8))).all goodWord = true := ⟨rfl, by decide +kernel⟩
set_option maxRecDepth 100000 in
set_option maxHeartbeats 4000000 in
theorem tm_X8_look : tb_X8_look.flatMap (pm_allN (RX8)) = [].filterMap (fun (i : Nat) => lw_tbl[i]?) ∧ tb_X8_look.all (fun r => pm_chk RX8 false r.2.1 r.2.2.1 r.2.2.2 && pm_ckj r) = true := ⟨rfl, by decide +kernel⟩
set_option maxRecDepth 100000 in
set_option maxHeartbeats 4000000 in
theorem tn_X8_takeReply : tb_X8_takeReply.flatMap (pm_all (RX8)) = [763, 763, 763, 764, 764, 765, 766, 767, 923, 925, 31, 60, 926].filterMap (fun (i : Nat) => lw_tbl[i]?) ∧ (tb_X8_takeReply.flatMap (pm_all (RX8))).all goodWord = true := ⟨rfl, by decide +kernel⟩
set_option maxRecDepth 100000 in
set_option maxHeartbeats 4000000 in
theorem tm_X8_takeReply : tb_X8_takeReply.flatMap (pm_allN (RX8)) = [].filterMap (fun (i : Nat) => lw_tbl[i]?) ∧ tb_X8_takeReply.all (fun r => pm_chk RX8 false r.2.1 r.2.2.1 r.2.2.2 && pm_ckj r) = true := ⟨rfl, by decide +kernel⟩
set_option maxRecDepth 100000 in
set_option maxHeartbeats 4000000 in
theorem tn_X8_takeAck : tb_X8_takeAck.flatMap (pm_all (RX8)) = [753, 768, 755, 769, 756, 770, 758, 736, 923, 925, 31, 60, 926].filterMap (fun (i : Nat) => lw_tbl[i]?) ∧ (tb_X8_takeAck.flatMap (pm_all (RX8))).all goodWord = true := ⟨rfl, by decide +kernel⟩
set_option maxRecDepth 100000 in
set_option maxHeartbeats 4000000 in
theorem tm_X8_takeAck : tb_X8_takeAck.flatMap (pm_allN (RX8)) = [].filterMap (fun (i : Nat) => lw_tbl[i]?) ∧ tb_X8_takeAck.all (fun r => pm_chk RX8 false r.2.1 r.2.2.1 r.2.2.2 && pm_ckj r) = true := ⟨rfl, by decide +kernel⟩
end
section
set_option maxRecDepth 100000 in
set_option maxHeartbeats 4000000 in
theorem tn_X8_issue : tb_X8_issue.flatMap (pm_all (RX8)) = [734, 883, 885, 23, 60, 886, 736, 883, 885, 23, 60, 886, 737, 736, 738, 736, 739, 736, 736, 736, 763, 736, 887, 889, 24, 60, 890, 736].filterMap (fun (i : Nat) => lw_tbl[i]?) ∧ (tb_X8_issue.flatMap (pm_all (RX8))).all goodWord = true := ⟨rfl, by decide +kernel⟩
set_option maxRecDepth 100000 in
set_option maxHeartbeats 4000000 in
theorem tm_X8_issue : tb_X8_issue.flatMap (pm_allN (RX8)) = [].filterMap (fun (i : Nat) => lw_tbl[i]?) ∧ tb_X8_issue.all (fun r => pm_chk RX8 false r.2.1 r.2.2.1 r.2.2.2 && pm_ckj r) = true := ⟨rfl, by decide +kernel⟩
set_option maxRecDepth 100000 in
set_option maxHeartbeats 4000000 in
theorem tn_X8_isRequest : tb_X8_isRequest.flatMap (pm_all (RX8)) = [736].filterMap (fun (i : Nat) => lw_tbl[i]?) ∧ (tb_X8_isRequest.flatMap (pm_all (RX8))).all goodWord = true := ⟨rfl, by decide +kernel⟩
set_option maxRecDepth 100000 in
set_option maxHeartbeats 4000000 in
theorem tm_X8_isRequest : tb_X8_isRequest.flatMap (pm_allN (RX8)) = [].filterMap (fun (i : Nat) => lw_tbl[i]?) ∧ tb_X8_isRequest.all (fun r => pm_chk RX8 false r.2.1 r.2.2.1 r.2.2.2 && pm_ckj r) = true := ⟨rfl, by decide +kernel⟩
set_option maxRecDepth 100000 in
set_option maxHeartbeats 4000000 in
theorem tn_X8_retry : tb_X8_retry.flatMap (pm_all (RX8)) = [734, 895, 897, 25, 60, 898, 883, 885, 23, 60, 886, 776, 899, 901, 26, 60, 902, 907, 909, 28, 60, 910, 771, 772, 764, 773, 765, 774, 766, 775, 767, 764, 765, 766, 907, 909, 28, 60, 910].filterMap (fun (i : Nat) => lw_tbl[i]?) ∧ (tb_X8_retry.flatMap (pm_all (RX8))).all goodWord = true := ⟨rfl, by decide +kernel⟩
set_option maxRecDepth 100000 in
set_option maxHeartbeats 4000000 in
theorem tm_X8_retry : tb_X8_retry.flatMap (pm_allN (RX8)) = [].filterMap (fun (i : Nat) => lw_tbl[i]?) ∧ tb_X8_retry.all (fun r => pm_chk RX8 false r.2.1 r.2.2.1 r.2.2.2 && pm_ckj r) = true := ⟨rfl, by decide +kernel⟩
set_option maxRecDepth 100000 in
set_option maxHeartbeats 4000000 in
theorem tn_X8_isUnderWay : tb_X8_isUnderWay.flatMap (pm_all (RX8)) = [751, 762].filterMap (fun (i : Nat) => lw_tbl[i]?) ∧ (tb_X8_isUnderWay.flatMap (pm_all (RX8))).all goodWord = true := ⟨rfl, by decide +kernel⟩
set_option maxRecDepth 100000 in
set_option maxHeartbeats 4000000 in
theorem tm_X8_isUnderWay : tb_X8_isUnderWay.flatMap (pm_allN (RX8)) = [].filterMap (fun (i : Nat) => lw_tbl[i]?) ∧ tb_X8_isUnderWay.all (fun r => pm_chk RX8 false r.2.1 r.2.2.1 r.2.2.2 && pm_ckj r) = true := ⟨rfl, by decide +kernel⟩
set_option maxRecDepth 100000 in
set_option maxHeartbeats 4000000 in
theorem tn_X8_deliver : tb_X8_deliver.flatMap (pm_all (RX8)) = [734, 915, 917, 29, 60, 918, 762, 754, 752, 753, 757, 755, 756, 758, 759, 919, 921, 30, 60, 922, 931, 933, 33, 60, 934, 754, 735, 754, 935, 937, 34, 60, 938].filterMap (fun (i : Nat) => lw_tbl[i]?) ∧ (tb_X8_deliver.flatMap (pm_all (RX8))).all goodWord = true := ⟨rfl, by decide +kernel⟩
set_option maxRecDepth 100000 in
set_option maxHeartbeats 4000000 in
theorem tm_X8_deliver : tb_X8_deliver.flatMap (pm_allN (RX8)) = [].filterMap (fun (i : Nat) => lw_tbl[i]?) ∧ tb_X8_deliver.all (fun r => pm_chk RX8 false r.2.1 r.2.2.1 r.2.2.2 && pm_ckj r) = true := ⟨rfl, by decide +kernel⟩
set_option maxRecDepth 100000 in
set_option maxHeartbeats 4000000 in
theorem tn_X8_flood : tb_X8_flood.flatMap (pm_all (RX8)) = [734, 883, 885, 23, 60, 886, 751, 1030, 912, 913, 60, 914].filterMap (fun (i : Nat) => lw_tbl[i]?) ∧ (tb_X8_flood.flatMap (pm_all (RX8))).all goodWord = true := ⟨rfl, by decide +kernel⟩
set_option maxRecDepth 100000 in
set_option maxHeartbeats 4000000 in
theorem tm_X8_flood : tb_X8_flood.flatMap (pm_allN (RX8)) = [].filterMap (fun (i : Nat) => lw_tbl[i]?) ∧ tb_X8_flood.all (fun r => pm_chk RX8 false r.2.1 r.2.2.1 r.2.2.2 && pm_ckj r) = true := ⟨rfl, by decide +kernel⟩
set_option maxRecDepth 100000 in
set_option maxHeartbeats 4000000 in
theorem tn_X8_lose : tb_X8_lose.flatMap (pm_all (RX8)) = [734, 915, 917, 29, 60, 918, 762].filterMap (fun (i : Nat) => lw_tbl[i]?) ∧ (tb_X8_lose.flatMap (pm_all (RX8))).all goodWord = true := ⟨rfl, by decide +kernel⟩
set_option maxRecDepth 100000 in
set_option maxHeartbeats 4000000 in
theorem tm_X8_lose : tb_X8_lose.flatMap (pm_allN (RX8)) = [].filterMap (fun (i : Nat) => lw_tbl[i]?) ∧ tb_X8_lose.all (fun r => pm_chk RX8 false r.2.1 r.2.2.1 r.2.2.2 && pm_ckj r) = true := ⟨rfl, by decide +kernel⟩
set_option maxRecDepth 100000 in
set_option maxHeartbeats 4000000 in
theorem tn_X8_isReplica : tb_X8_isReplica.flatMap (pm_all (RX8)) = [].filterMap (fun (i : Nat) => lw_tbl[i]?) ∧ (tb_X8_isReplica.flatMap (pm_all (RX8))).all goodWord = true := ⟨rfl, by decide +kernel⟩
set_option maxRecDepth 100000 in
set_option maxHeartbeats 4000000 in
theorem tm_X8_isReplica : tb_X8_isReplica.flatMap (pm_allN (RX8)) = [].filterMap (fun (i : Nat) => lw_tbl[i]?) ∧ tb_X8_isReplica.all (fun r => pm_chk RX8 false r.2.1 r.2.2.1 r.2.2.2 && pm_ckj r) = true := ⟨rfl, by decide +kernel⟩
set_option maxRecDepth 100000 in
set_option maxHeartbeats 4000000 in
theorem tn_X8_refuseThis : tb_X8_refuseThis.flatMap (pm_all (RX8)) = [734].filterMap (fun (i : Nat) => lw_tbl[i]?) ∧ (tb_X8_refuseThis.flatMap (pm_all (RX8))).all goodWord = true := ⟨rfl, by decide +kernel⟩
set_option maxRecDepth 100000 in
set_option maxHeartbeats 4000000 in
theorem tm_X8_refuseThis : tb_X8_refuseThis.flatMap (pm_allN (RX8)) = [].filterMap (fun (i : Nat) => lw_tbl[i]?) ∧ tb_X8_refuseThis.all (fun r => pm_chk RX8 false r.2.1 r.2.2.1 r.2.2.2 && pm_ckj r) = true := ⟨rfl, by decide +kernel⟩
set_option maxRecDepth 100000 in
set_option maxHeartbeats 4000000 in
theorem tn_X8_patience : tb_X8_patience.flatMap (pm_all (RX8)) = [734, 1039, 1040, 60, 1041, 1042, 1044, 52, 60, 1045, 735, 744, 745, 740, 907, 909, 28, 60, 910, 984, 986, 43, 60, 987].filterMap (fun (i : Nat) => lw_tbl[i]?) ∧ (tb_X8_patience.flatMap (pm_all (RX8))).all goodWord = true := ⟨rfl, by decide +kernel⟩
set_option maxRecDepth 100000 in
set_option maxHeartbeats 4000000 in
theorem tm_X8_patience : tb_X8_patience.flatMap (pm_allN (RX8)) = [].filterMap (fun (i : Nat) => lw_tbl[i]?) ∧ tb_X8_patience.all (fun r => pm_chk RX8 false r.2.1 r.2.2.1 r.2.2.2 && pm_ckj r) = true := ⟨rfl, by decide +kernel⟩
set_option maxRecDepth 100000 in
set_option maxHeartbeats 4000000 in
theorem tn_X8_lie : tb_X8_lie.flatMap (pm_all (RX8)) = [734, 1039, 1040, 60, 1041, 895, 897, 25, 60, 898, 735, 1042, 1044, 52, 60, 1045, 735, 740, 735, 735, 740, 741, 742, 741, 954, 955, 60, 956, 976, 978, 41, 60, 979].filterMap (fun (i : Nat) => lw_tbl[i]?) ∧ (tb_X8_lie.flatMap (pm_all (RX8))).all goodWord = true := ⟨rfl, by decide +kernel⟩
set_option maxRecDepth 100000 in
set_option maxHeartbeats 4000000 in
theorem tm_X8_lie : tb_X8_lie.flatMap (pm_allN (RX8)) = [].filterMap (fun (i : Nat) => lw_tbl[i]?) ∧ tb_X8_lie.all (fun r => pm_chk RX8 false r.2.1 r.2.2.1 r.2.2.2 && pm_ckj r) = true := ⟨rfl, by decide +kernel⟩
set_option maxRecDepth 100000 in
set_option maxHeartbeats 4000000 in
theorem tn_X8_echo : tb_X8_echo.flatMap (pm_all (RX8)) = [734, 1039, 1040, 60, 1041, 895, 897, 25, 60, 898, 735, 1042, 1044, 52, 60, 1045, 735, 764, 735, 764, 765, 766, 767, 919, 921, 30, 60, 922].filterMap (fun (i : Nat) => lw_tbl[i]?) ∧ (tb_X8_echo.flatMap (pm_all (RX8))).all goodWord = true := ⟨rfl, by decide +kernel⟩
set_option maxRecDepth 100000 in
set_option maxHeartbeats 4000000 in
theorem tm_X8_echo : tb_X8_echo.flatMap (pm_allN (RX8)) = [].filterMap (fun (i : Nat) => lw_tbl[i]?) ∧ tb_X8_echo.all (fun r => pm_chk RX8 false r.2.1 r.2.2.1 r.2.2.2 && pm_ckj r) = true := ⟨rfl, by decide +kernel⟩
set_option maxRecDepth 100000 in
set_option maxHeartbeats 4000000 in
theorem tn_X8_replica : tb_X8_replica.flatMap (pm_all (RX8)) = [734, 1039, 1040, 60, 1041, 883, 885, 23, 60, 886, 741, 742, 946, 947, 60, 948, 742, 741, 957, 959, 37, 60, 960, 779, 740, 741, 743, 744, 745, 746, 742, 741, 954, 955, 60, 956, 883, 885, 23, 60, 886].filterMap (fun (i : Nat) => lw_tbl[i]?) ∧ (tb_X8_replica.flatMap (pm_all (RX8))).all goodWord = true := ⟨rfl, by decide +kernel⟩
set_option maxRecDepth 100000 in
set_option maxHeartbeats 4000000 in
theorem tm_X8_replica : tb_X8_replica.flatMap (pm_allN (RX8)) = [].filterMap (fun (i : Nat) => lw_tbl[i]?) ∧ tb_X8_replica.all (fun r => pm_chk RX8 false r.2.1 r.2.2.1 r.2.2.2 && pm_ckj r) = true := ⟨rfl, by decide +kernel⟩
set_option maxRecDepth 100000 in
set_option maxHeartbeats 4000000 in
theorem tn_X8_messages : tb_X8_messages.flatMap (pm_all (RX8)) = [734, 751].filterMap (fun (i : Nat) => lw_tbl[i]?) ∧ (tb_X8_messages.flatMap (pm_all (RX8))).all goodWord = true := ⟨rfl, by decide +kernel⟩
set_option maxRecDepth 100000 in
set_option maxHeartbeats 4000000 in
theorem tm_X8_messages : tb_X8_messages.flatMap (pm_allN (RX8)) = [].filterMap (fun (i : Nat) => lw_tbl[i]?) ∧ tb_X8_messages.all (fun r => pm_chk RX8 false r.2.1 r.2.2.1 r.2.2.2 && pm_ckj r) = true := ⟨rfl, by decide +kernel⟩
set_option maxRecDepth 100000 in
set_option maxHeartbeats 4000000 in
theorem tn_X8_message : tb_X8_message.flatMap (pm_all (RX8)) = [734, 751, 883, 885, 23, 60, 886, 752, 753, 754, 755, 757, 756, 762, 883, 885, 23, 60, 886].filterMap (fun (i : Nat) => lw_tbl[i]?) ∧ (tb_X8_message.flatMap (pm_all (RX8))).all goodWord = true := ⟨rfl, by decide +kernel⟩
set_option maxRecDepth 100000 in
set_option maxHeartbeats 4000000 in
theorem tm_X8_message : tb_X8_message.flatMap (pm_allN (RX8)) = [].filterMap (fun (i : Nat) => lw_tbl[i]?) ∧ tb_X8_message.all (fun r => pm_chk RX8 false r.2.1 r.2.2.1 r.2.2.2 && pm_ckj r) = true := ⟨rfl, by decide +kernel⟩
set_option maxRecDepth 100000 in
set_option maxHeartbeats 4000000 in
theorem tn_X8_replies : tb_X8_replies.flatMap (pm_all (RX8)) = [764].filterMap (fun (i : Nat) => lw_tbl[i]?) ∧ (tb_X8_replies.flatMap (pm_all (RX8))).all goodWord = true := ⟨rfl, by decide +kernel⟩
set_option maxRecDepth 100000 in
set_option maxHeartbeats 4000000 in
theorem tm_X8_replies : tb_X8_replies.flatMap (pm_allN (RX8)) = [].filterMap (fun (i : Nat) => lw_tbl[i]?) ∧ tb_X8_replies.all (fun r => pm_chk RX8 false r.2.1 r.2.2.1 r.2.2.2 && pm_ckj r) = true := ⟨rfl, by decide +kernel⟩
set_option maxRecDepth 100000 in
set_option maxHeartbeats 4000000 in
theorem tn_X8_request : tb_X8_request.flatMap (pm_all (RX8)) = [734, 895, 897, 25, 60, 898, 883, 885, 23, 60, 886, 776, 777, 778, 1070, 1072, 53, 60, 1073, 771, 883, 885, 23, 60, 886].filterMap (fun (i : Nat) => lw_tbl[i]?) ∧ (tb_X8_request.flatMap (pm_all (RX8))).all goodWord = true := ⟨rfl, by decide +kernel⟩
set_option maxRecDepth 100000 in
set_option maxHeartbeats 4000000 in
theorem tm_X8_request : tb_X8_request.flatMap (pm_allN (RX8)) = [].filterMap (fun (i : Nat) => lw_tbl[i]?) ∧ tb_X8_request.all (fun r => pm_chk RX8 false r.2.1 r.2.2.1 r.2.2.2 && pm_ckj r) = true := ⟨rfl, by decide +kernel⟩
set_option maxRecDepth 100000 in
set_option maxHeartbeats 4000000 in
theorem tn_X8_view : tb_X8_view.flatMap (pm_all (RX8)) = [734, 763].filterMap (fun (i : Nat) => lw_tbl[i]?) ∧ (tb_X8_view.flatMap (pm_all (RX8))).all goodWord = true := ⟨rfl, by decide +kernel⟩
set_option maxRecDepth 100000 in
set_option maxHeartbeats 4000000 in
theorem tm_X8_view : tb_X8_view.flatMap (pm_allN (RX8)) = [].filterMap (fun (i : Nat) => lw_tbl[i]?) ∧ tb_X8_view.all (fun r => pm_chk RX8 false r.2.1 r.2.2.1 r.2.2.2 && pm_ckj r) = true := ⟨rfl, by decide +kernel⟩
set_option maxRecDepth 100000 in
set_option maxHeartbeats 4000000 in
theorem tn_J6_bitCount_0f7a4 : tb_J6_bitCount_0f7a4.flatMap (pm_all (RJ6)) = [413, 414, 414, 415].filterMap (fun (i : Nat) => lw_tbl[i]?) ∧ (tb_J6_bitCount_0f7a4.flatMap (pm_all (RJ6))).all goodWord = true := ⟨rfl, by decide +kernel⟩
set_option maxRecDepth 100000 in
set_option maxHeartbeats 4000000 in
theorem tm_J6_bitCount_0f7a4 : tb_J6_bitCount_0f7a4.flatMap (pm_allN (RJ6)) = [].filterMap (fun (i : Nat) => lw_tbl[i]?) ∧ tb_J6_bitCount_0f7a4.all (fun r => pm_chk RJ6 false r.2.1 r.2.2.1 r.2.2.2 && pm_ckj r) = true := ⟨rfl, by decide +kernel⟩
set_option maxRecDepth 100000 in
set_option maxHeartbeats 4000000 in
theorem tn_L_cell : tb_L_cell.flatMap (pm_all (RL)) = [].filterMap (fun (i : Nat) => lw_tbl[i]?) ∧ (tb_L_cell.flatMap (pm_all (RL))).all goodWord = true := ⟨rfl, by decide +kernel⟩
set_option maxRecDepth 100000 in
set_option maxHeartbeats 4000000 in
theorem tm_L_cell : tb_L_cell.flatMap (pm_allN (RL)) = [].filterMap (fun (i : Nat) => lw_tbl[i]?) ∧ tb_L_cell.all (fun r => pm_chk RL false r.2.1 r.2.2.1 r.2.2.2 && pm_ckj r) = true := ⟨rfl, by decide +kernel⟩
set_option maxRecDepth 100000 in
set_option maxHeartbeats 4000000 in
theorem tn_L_issue : tb_L_issue.flatMap (pm_all (RL)) = [490, 491, 492, 55, 493].filterMap (fun (i : Nat) => lw_tbl[i]?) ∧ (tb_L_issue.flatMap (pm_all (RL))).all goodWord = true := ⟨rfl, by decide +kernel⟩
set_option maxRecDepth 100000 in
set_option maxHeartbeats 4000000 in
theorem tm_L_issue : tb_L_issue.flatMap (pm_allN (RL)) = [].filterMap (fun (i : Nat) => lw_tbl[i]?) ∧ tb_L_issue.all (fun r => pm_chk RL false r.2.1 r.2.2.1 r.2.2.2 && pm_ckj r) = true := ⟨rfl, by decide +kernel⟩
set_option maxRecDepth 100000 in
set_option maxHeartbeats 4000000 in
theorem tn_L_retry : tb_L_retry.flatMap (pm_all (RL)) = [622, 623, 624, 55, 625].filterMap (fun (i : Nat) => lw_tbl[i]?) ∧ (tb_L_retry.flatMap (pm_all (RL))).all goodWord = true := ⟨rfl, by decide +kernel⟩
set_option maxRecDepth 100000 in
set_option maxHeartbeats 4000000 in
theorem tm_L_retry : tb_L_retry.flatMap (pm_allN (RL)) = [].filterMap (fun (i : Nat) => lw_tbl[i]?) ∧ tb_L_retry.all (fun r => pm_chk RL false r.2.1 r.2.2.1 r.2.2.2 && pm_ckj r) = true := ⟨rfl, by decide +kernel⟩
set_option maxRecDepth 100000 in
set_option maxHeartbeats 4000000 in
theorem tn_L_flood : tb_L_flood.flatMap (pm_all (RL)) = [652, 653, 654, 55, 655].filterMap (fun (i : Nat) => lw_tbl[i]?) ∧ (tb_L_flood.flatMap (pm_all (RL))).all goodWord = true := ⟨rfl, by decide +kernel⟩
set_option maxRecDepth 100000 in
set_option maxHeartbeats 4000000 in
theorem tm_L_flood : tb_L_flood.flatMap (pm_allN (RL)) = [].filterMap (fun (i : Nat) => lw_tbl[i]?) ∧ tb_L_flood.all (fun r => pm_chk RL false r.2.1 r.2.2.1 r.2.2.2 && pm_ckj r) = true := ⟨rfl, by decide +kernel⟩
set_option maxRecDepth 100000 in
set_option maxHeartbeats 4000000 in
theorem tn_L_patience : tb_L_patience.flatMap (pm_all (RL)) = [660, 661, 662, 55, 663].filterMap (fun (i : Nat) => lw_tbl[i]?) ∧ (tb_L_patience.flatMap (pm_all (RL))).all goodWord = true := ⟨rfl, by decide +kernel⟩
set_option maxRecDepth 100000 in
set_option maxHeartbeats 4000000 in
theorem tm_L_patience : tb_L_patience.flatMap (pm_allN (RL)) = [].filterMap (fun (i : Nat) => lw_tbl[i]?) ∧ tb_L_patience.all (fun r => pm_chk RL false r.2.1 r.2.2.1 r.2.2.2 && pm_ckj r) = true := ⟨rfl, by decide +kernel⟩
set_option maxRecDepth 100000 in
set_option maxHeartbeats 4000000 in
theorem tn_L_lie : tb_L_lie.flatMap (pm_all (RL)) = [673, 674, 675, 55, 676].filterMap (fun (i : Nat) => lw_tbl[i]?) ∧ (tb_L_lie.flatMap (pm_all (RL))).all goodWord = true := ⟨rfl, by decide +kernel⟩
set_option maxRecDepth 100000 in
set_option maxHeartbeats 4000000 in
theorem tm_L_lie : tb_L_lie.flatMap (pm_allN (RL)) = [].filterMap (fun (i : Nat) => lw_tbl[i]?) ∧ tb_L_lie.all (fun r => pm_chk RL false r.2.1 r.2.2.1 r.2.2.2 && pm_ckj r) = true := ⟨rfl, by decide +kernel⟩
set_option maxRecDepth 100000 in
set_option maxHeartbeats 4000000 in
theorem tn_L_echo : tb_L_echo.flatMap (pm_all (RL)) = [683, 684, 685, 55, 686].filterMap (fun (i : Nat) => lw_tbl[i]?) ∧ (tb_L_echo.flatMap (pm_all (RL))).all goodWord = true := ⟨rfl, by decide +kernel⟩
set_option maxRecDepth 100000 in
set_option maxHeartbeats 4000000 in
theorem tm_L_echo : tb_L_echo.flatMap (pm_allN (RL)) = [].filterMap (fun (i : Nat) => lw_tbl[i]?) ∧ tb_L_echo.all (fun r => pm_chk RL false r.2.1 r.2.2.1 r.2.2.2 && pm_ckj r) = true := ⟨rfl, by decide +kernel⟩
set_option maxRecDepth 100000 in
set_option maxHeartbeats 4000000 in
theorem tn_L_replica : tb_L_replica.flatMap (pm_all (RL)) = [690, 691, 692, 55, 693].filterMap (fun (i : Nat) => lw_tbl[i]?) ∧ (tb_L_replica.flatMap (pm_all (RL))).all goodWord = true := ⟨rfl, by decide +kernel⟩
set_option maxRecDepth 100000 in
set_option maxHeartbeats 4000000 in
theorem tm_L_replica : tb_L_replica.flatMap (pm_allN (RL)) = [].filterMap (fun (i : Nat) => lw_tbl[i]?) ∧ tb_L_replica.all (fun r => pm_chk RL false r.2.1 r.2.2.1 r.2.2.2 && pm_ckj r) = true := ⟨rfl, by decide +kernel⟩
set_option maxRecDepth 100000 in
set_option maxHeartbeats 4000000 in
theorem tn_L_message : tb_L_message.flatMap (pm_all (RL)) = [703, 704, 705, 55, 706].filterMap (fun (i : Nat) => lw_tbl[i]?) ∧ (tb_L_message.flatMap (pm_all (RL))).all goodWord = true := ⟨rfl, by decide +kernel⟩
set_option maxRecDepth 100000 in
set_option maxHeartbeats 4000000 in
theorem tm_L_message : tb_L_message.flatMap (pm_allN (RL)) = [].filterMap (fun (i : Nat) => lw_tbl[i]?) ∧ tb_L_message.all (fun r => pm_chk RL false r.2.1 r.2.2.1 r.2.2.2 && pm_ckj r) = true := ⟨rfl, by decide +kernel⟩
set_option maxRecDepth 100000 in
set_option maxHeartbeats 4000000 in
theorem tn_L_request : tb_L_request.flatMap (pm_all (RL)) = [715, 716, 717, 55, 718].filterMap (fun (i : Nat) => lw_tbl[i]?) ∧ (tb_L_request.flatMap (pm_all (RL))).all goodWord = true := ⟨rfl, by decide +kernel⟩
set_option maxRecDepth 100000 in
set_option maxHeartbeats 4000000 in
theorem tm_L_request : tb_L_request.flatMap (pm_allN (RL)) = [].filterMap (fun (i : Nat) => lw_tbl[i]?) ∧ tb_L_request.all (fun r => pm_chk RL false r.2.1 r.2.2.1 r.2.2.2 && pm_ckj r) = true := ⟨rfl, by decide +kernel⟩
set_option maxRecDepth 100000 in
set_option maxHeartbeats 4000000 in
theorem tn_L_law : tb_L_law.flatMap (pm_all (RL)) = [73, 74, 55, 482, 483, 54, 484, 75, 76, 55, 77, 728, 729, 60, 482, 483, 54, 484, 730, 731, 60, 732, 873, 485, 486, 54, 487, 879, 880, 881, 60, 882, 875, 876, 877, 60, 878, 618, 619, 54, 620, 891, 892, 893, 60, 894, 875, 876, 877, 60, 878, 206, 207, 208, 55, 209, 911, 912, 913, 60, 914, 649, 650, 54, 651, 1026, 1027, 1028, 60, 1029, 875, 876, 877, 60, 878, 470, 471, 472, 55, 473, 1031, 1032, 1033, 60, 1034, 657, 658, 54, 659, 1035, 1036, 1037, 60, 1038, 875, 876, 877, 60, 878, 670, 671, 54, 672, 1046, 1047, 1048, 60, 1049, 875, 876, 877, 60, 878, 680, 681, 54, 682, 1050, 1051, 1052, 60, 1053, 875, 876, 877, 60, 878, 687, 688, 54, 689, 1054, 1055, 1056, 60, 1057, 875, 876, 877, 60, 878, 474, 475, 476, 55, 477, 1058, 1059, 1060, 60, 1061, 700, 701, 54, 702, 1062, 1063, 1064, 60, 1065, 875, 876, 877, 60, 878, 712, 713, 54, 714, 1066, 1067, 1068, 60, 1069, 875, 876, 877, 60, 878, 478, 479, 480, 55, 481, 1074, 1075, 1076, 60, 1077].filterMap (fun (i : Nat) => lw_tbl[i]?) ∧ (tb_L_law.flatMap (pm_all (RL))).all goodWord = true := ⟨rfl, by decide +kernel⟩
set_option maxRecDepth 100000 in
set_option maxHeartbeats 4000000 in
theorem tm_L_law : tb_L_law.flatMap (pm_allN (RL)) = [].filterMap (fun (i : Nat) => lw_tbl[i]?) ∧ tb_L_law.all (fun r => pm_chk RL false r.2.1 r.2.2.1 r.2.2.2 && pm_ckj r) = true := ⟨rfl, by decide +kernel⟩
end
section
/-! THE RUNS of the pure machine, and that it keeps its references within its heap -/
def pm_step (sc : pm_Sc) (i : Nat) (s : pm_S) : Option (pm_S ⊕ pm_K) := match pm_at i s.1 with
  | some r => pm_do sc (pm_nL i) (pm_rk i) pm_np pm_mc pm_rk r.1 r.2.2 s.1 s.2.1 s.2.2.1 s.2.2.2
  | none => none
/-- an end: a return, or 'throw new' -/
def pm_end (r : Instr × Nat × List Nat) : Bool := match r.1, r.2.2 with
  | .ireturn, _ => true
  | .lreturn, _ => true
  | .areturn, _ => true
  | .return_, _ => true
  | .new _, [e] => decide (100 < e)
  | _, _ => false
def pm_term (i pc : Nat) : Bool := match pm_at i pc with
  | some r => pm_end r
  | none => false
/-- what an end gives: a value, or the kind of an exception -/
def pm_out (t : Nat) (r : Instr × Nat × List Nat) (st : List Value) : Option (Option Value ⊕ Nat) := match r.1, r.2.2, st with
  | .ireturn, _, [.int v] => if t = 1 ∨ (t = 2 ∧ (v = 0 ∨ v = 1)) then some (.inl (some (.int v))) else none
  | .lreturn, _, [.long v] => if t = 3 then some (.inl (some (.long v))) else none
  | .areturn, _, [.ref v] => if t = 4 then some (.inl (some (.ref v))) else none
  | .areturn, _, [.null] => if t = 4 then some (.inl (some .null)) else none
  | .return_, _, [] => if t = 0 then some (.inl none) else none
  | .new _, [e], st => if 100 < e ∧ pm_sum st ≤ 8 then some (.inr (e - 100)) else none
  | _, _, _ => none
def pm_ret (i : Nat) (o : pm_S) : Option (Option Value ⊕ Nat) := match pm_at i o.1 with
  | some r => pm_out (pm_rt i) r o.2.2.1
  | none => none
def pm_hnd (hs : List (Nat × Nat × Nat × Nat × Nat × Nat)) (pc e : Nat) : Option (Nat × Nat × Nat × Nat × Nat × Nat) := hs.find? (fun q => decide (q.1 ≤ pc) && decide (pc < q.2.1) && q.2.2.2.1 == e)
def pm_dr (lv : pm_L) (i : Nat) : pm_L := lv.filter (fun q => !(q.1 == i) && !(q.1 + 1 == i && q.2.category == 2))
/-- a method's run from a frame to its end -/
def pm_ev (sc : pm_Sc) : Nat → Nat → pm_S → Option pm_S
  | 0, _, _ => none
  | n + 1, i, s => if pm_term i s.1 = true then some s else match pm_step sc i s with
    | none => none
    | some (.inl s') => pm_ev sc n i s'
    | some (.inr k) => if pm_sum k.2.1 ≤ pm_nL k.1 then (match pm_ev sc n k.1 (0, lv_args 0 k.2.1, [], s.2.2.2) with
      | none => none
      | some o => match pm_ret k.1 o with
        | none => none
        | some (.inl v) => pm_ev sc n i (s.1 + 3, s.2.1, v.toList ++ k.2.2, o.2.2.2)
        | some (.inr x) => match pm_hnd (pm_hn i) s.1 x with
          | none => none
          | some w => pm_ev sc n i (w.2.2.2.2.2, pm_dr s.2.1 w.2.2.2.2.1, [], (o.2.2.2.1, o.2.2.2.2.1 + 1, o.2.2.2.2.2 + 6))) else none
theorem pr_aconst_null {sc : pm_Sc} {nL rk : Nat} {np mc rkOf : Nat → Nat} {res : List Nat} {pc : Nat} {lv : pm_L} {st : List Value} {h : pm_H} {s1 : pm_S}  (hs : pm_do sc nL rk np mc rkOf (.aconst_null) res pc lv st h = some (.inl s1)) (O : pm_ok lv st h.1) : pm_Ok2 (pc, lv, st, h) s1 := by
  simp only [pm_do] at hs
  cases hs
  exact pk_st O (pk_c (pm_okv_null _) O.2.1)
theorem pr_iconst {sc : pm_Sc} {nL rk : Nat} {np mc rkOf : Nat → Nat} {res : List Nat} {pc : Nat} {lv : pm_L} {st : List Value} {h : pm_H} {s1 : pm_S} {n : Int}  (hs : pm_do sc nL rk np mc rkOf (.iconst n) res pc lv st h = some (.inl s1)) (O : pm_ok lv st h.1) : pm_Ok2 (pc, lv, st, h) s1 := by
  simp only [pm_do] at hs
  cases hs
  exact pk_st O (pk_c (pm_okv_int _ _) O.2.1)
theorem pr_bipush {sc : pm_Sc} {nL rk : Nat} {np mc rkOf : Nat → Nat} {res : List Nat} {pc : Nat} {lv : pm_L} {st : List Value} {h : pm_H} {s1 : pm_S} {n : Int}  (hs : pm_do sc nL rk np mc rkOf (.bipush n) res pc lv st h = some (.inl s1)) (O : pm_ok lv st h.1) : pm_Ok2 (pc, lv, st, h) s1 := by
  simp only [pm_do] at hs
  cases hs
  exact pk_st O (pk_c (pm_okv_int _ _) O.2.1)
theorem pr_sipush {sc : pm_Sc} {nL rk : Nat} {np mc rkOf : Nat → Nat} {res : List Nat} {pc : Nat} {lv : pm_L} {st : List Value} {h : pm_H} {s1 : pm_S} {n : Int}  (hs : pm_do sc nL rk np mc rkOf (.sipush n) res pc lv st h = some (.inl s1)) (O : pm_ok lv st h.1) : pm_Ok2 (pc, lv, st, h) s1 := by
  simp only [pm_do] at hs
  cases hs
  exact pk_st O (pk_c (pm_okv_int _ _) O.2.1)
theorem pr_lconst {sc : pm_Sc} {nL rk : Nat} {np mc rkOf : Nat → Nat} {res : List Nat} {pc : Nat} {lv : pm_L} {st : List Value} {h : pm_H} {s1 : pm_S} {n : Fin 2}  (hs : pm_do sc nL rk np mc rkOf (.lconst n) res pc lv st h = some (.inl s1)) (O : pm_ok lv st h.1) : pm_Ok2 (pc, lv, st, h) s1 := by
  simp only [pm_do] at hs
  cases hs
  exact pk_st O (pk_c (pm_okv_long _ _) O.2.1)
theorem pr_iadd {sc : pm_Sc} {nL rk : Nat} {np mc rkOf : Nat → Nat} {res : List Nat} {pc : Nat} {lv : pm_L} {st : List Value} {h : pm_H} {s1 : pm_S}  (hs : pm_do sc nL rk np mc rkOf (.iadd) res pc lv st h = some (.inl s1)) (O : pm_ok lv st h.1) : pm_Ok2 (pc, lv, st, h) s1 := by
  simp only [pm_do] at hs
  split at hs
  · cases hs
    exact pk_st O (pk_c (pm_okv_int _ _) (pk_t2 O.2.1))
  · cases hs
theorem pr_isub {sc : pm_Sc} {nL rk : Nat} {np mc rkOf : Nat → Nat} {res : List Nat} {pc : Nat} {lv : pm_L} {st : List Value} {h : pm_H} {s1 : pm_S}  (hs : pm_do sc nL rk np mc rkOf (.isub) res pc lv st h = some (.inl s1)) (O : pm_ok lv st h.1) : pm_Ok2 (pc, lv, st, h) s1 := by
  simp only [pm_do] at hs
  split at hs
  · cases hs
    exact pk_st O (pk_c (pm_okv_int _ _) (pk_t2 O.2.1))
  · cases hs
theorem pr_imul {sc : pm_Sc} {nL rk : Nat} {np mc rkOf : Nat → Nat} {res : List Nat} {pc : Nat} {lv : pm_L} {st : List Value} {h : pm_H} {s1 : pm_S}  (hs : pm_do sc nL rk np mc rkOf (.imul) res pc lv st h = some (.inl s1)) (O : pm_ok lv st h.1) : pm_Ok2 (pc, lv, st, h) s1 := by
  simp only [pm_do] at hs
  split at hs
  · cases hs
    exact pk_st O (pk_c (pm_okv_int _ _) (pk_t2 O.2.1))
  · cases hs
theorem pr_iand {sc : pm_Sc} {nL rk : Nat} {np mc rkOf : Nat → Nat} {res : List Nat} {pc : Nat} {lv : pm_L} {st : List Value} {h : pm_H} {s1 : pm_S}  (hs : pm_do sc nL rk np mc rkOf (.iand) res pc lv st h = some (.inl s1)) (O : pm_ok lv st h.1) : pm_Ok2 (pc, lv, st, h) s1 := by
  simp only [pm_do] at hs
  split at hs
  · cases hs
    exact pk_st O (pk_c (pm_okv_int _ _) (pk_t2 O.2.1))
  · cases hs
theorem pr_ior {sc : pm_Sc} {nL rk : Nat} {np mc rkOf : Nat → Nat} {res : List Nat} {pc : Nat} {lv : pm_L} {st : List Value} {h : pm_H} {s1 : pm_S}  (hs : pm_do sc nL rk np mc rkOf (.ior) res pc lv st h = some (.inl s1)) (O : pm_ok lv st h.1) : pm_Ok2 (pc, lv, st, h) s1 := by
  simp only [pm_do] at hs
  split at hs
  · cases hs
    exact pk_st O (pk_c (pm_okv_int _ _) (pk_t2 O.2.1))
  · cases hs
theorem pr_ixor {sc : pm_Sc} {nL rk : Nat} {np mc rkOf : Nat → Nat} {res : List Nat} {pc : Nat} {lv : pm_L} {st : List Value} {h : pm_H} {s1 : pm_S}  (hs : pm_do sc nL rk np mc rkOf (.ixor) res pc lv st h = some (.inl s1)) (O : pm_ok lv st h.1) : pm_Ok2 (pc, lv, st, h) s1 := by
  simp only [pm_do] at hs
  split at hs
  · cases hs
    exact pk_st O (pk_c (pm_okv_int _ _) (pk_t2 O.2.1))
  · cases hs
theorem pr_ishl {sc : pm_Sc} {nL rk : Nat} {np mc rkOf : Nat → Nat} {res : List Nat} {pc : Nat} {lv : pm_L} {st : List Value} {h : pm_H} {s1 : pm_S}  (hs : pm_do sc nL rk np mc rkOf (.ishl) res pc lv st h = some (.inl s1)) (O : pm_ok lv st h.1) : pm_Ok2 (pc, lv, st, h) s1 := by
  simp only [pm_do] at hs
  split at hs
  · cases hs
    exact pk_st O (pk_c (pm_okv_int _ _) (pk_t2 O.2.1))
  · cases hs
theorem pr_ishr {sc : pm_Sc} {nL rk : Nat} {np mc rkOf : Nat → Nat} {res : List Nat} {pc : Nat} {lv : pm_L} {st : List Value} {h : pm_H} {s1 : pm_S}  (hs : pm_do sc nL rk np mc rkOf (.ishr) res pc lv st h = some (.inl s1)) (O : pm_ok lv st h.1) : pm_Ok2 (pc, lv, st, h) s1 := by
  simp only [pm_do] at hs
  split at hs
  · cases hs
    exact pk_st O (pk_c (pm_okv_int _ _) (pk_t2 O.2.1))
  · cases hs
theorem pr_iushr {sc : pm_Sc} {nL rk : Nat} {np mc rkOf : Nat → Nat} {res : List Nat} {pc : Nat} {lv : pm_L} {st : List Value} {h : pm_H} {s1 : pm_S}  (hs : pm_do sc nL rk np mc rkOf (.iushr) res pc lv st h = some (.inl s1)) (O : pm_ok lv st h.1) : pm_Ok2 (pc, lv, st, h) s1 := by
  simp only [pm_do] at hs
  split at hs
  · cases hs
    exact pk_st O (pk_c (pm_okv_int _ _) (pk_t2 O.2.1))
  · cases hs
theorem pr_lsub {sc : pm_Sc} {nL rk : Nat} {np mc rkOf : Nat → Nat} {res : List Nat} {pc : Nat} {lv : pm_L} {st : List Value} {h : pm_H} {s1 : pm_S}  (hs : pm_do sc nL rk np mc rkOf (.lsub) res pc lv st h = some (.inl s1)) (O : pm_ok lv st h.1) : pm_Ok2 (pc, lv, st, h) s1 := by
  simp only [pm_do] at hs
  split at hs
  · cases hs
    exact pk_st O (pk_c (pm_okv_long _ _) (pk_t2 O.2.1))
  · cases hs
theorem pr_land {sc : pm_Sc} {nL rk : Nat} {np mc rkOf : Nat → Nat} {res : List Nat} {pc : Nat} {lv : pm_L} {st : List Value} {h : pm_H} {s1 : pm_S}  (hs : pm_do sc nL rk np mc rkOf (.land) res pc lv st h = some (.inl s1)) (O : pm_ok lv st h.1) : pm_Ok2 (pc, lv, st, h) s1 := by
  simp only [pm_do] at hs
  split at hs
  · cases hs
    exact pk_st O (pk_c (pm_okv_long _ _) (pk_t2 O.2.1))
  · cases hs
theorem pr_lor {sc : pm_Sc} {nL rk : Nat} {np mc rkOf : Nat → Nat} {res : List Nat} {pc : Nat} {lv : pm_L} {st : List Value} {h : pm_H} {s1 : pm_S}  (hs : pm_do sc nL rk np mc rkOf (.lor) res pc lv st h = some (.inl s1)) (O : pm_ok lv st h.1) : pm_Ok2 (pc, lv, st, h) s1 := by
  simp only [pm_do] at hs
  split at hs
  · cases hs
    exact pk_st O (pk_c (pm_okv_long _ _) (pk_t2 O.2.1))
  · cases hs
theorem pr_lshl {sc : pm_Sc} {nL rk : Nat} {np mc rkOf : Nat → Nat} {res : List Nat} {pc : Nat} {lv : pm_L} {st : List Value} {h : pm_H} {s1 : pm_S}  (hs : pm_do sc nL rk np mc rkOf (.lshl) res pc lv st h = some (.inl s1)) (O : pm_ok lv st h.1) : pm_Ok2 (pc, lv, st, h) s1 := by
  simp only [pm_do] at hs
  split at hs
  · cases hs
    exact pk_st O (pk_c (pm_okv_long _ _) (pk_t2 O.2.1))
  · cases hs
theorem pr_lshr {sc : pm_Sc} {nL rk : Nat} {np mc rkOf : Nat → Nat} {res : List Nat} {pc : Nat} {lv : pm_L} {st : List Value} {h : pm_H} {s1 : pm_S}  (hs : pm_do sc nL rk np mc rkOf (.lshr) res pc lv st h = some (.inl s1)) (O : pm_ok lv st h.1) : pm_Ok2 (pc, lv, st, h) s1 := by
  simp only [pm_do] at hs
  split at hs
  · cases hs
    exact pk_st O (pk_c (pm_okv_long _ _) (pk_t2 O.2.1))
  · cases hs
theorem pr_i2l {sc : pm_Sc} {nL rk : Nat} {np mc rkOf : Nat → Nat} {res : List Nat} {pc : Nat} {lv : pm_L} {st : List Value} {h : pm_H} {s1 : pm_S}  (hs : pm_do sc nL rk np mc rkOf (.i2l) res pc lv st h = some (.inl s1)) (O : pm_ok lv st h.1) : pm_Ok2 (pc, lv, st, h) s1 := by
  simp only [pm_do] at hs
  split at hs
  · cases hs
    exact pk_st O (pk_c (pm_okv_long _ _) (pk_t1 O.2.1))
  · cases hs
theorem pr_l2i {sc : pm_Sc} {nL rk : Nat} {np mc rkOf : Nat → Nat} {res : List Nat} {pc : Nat} {lv : pm_L} {st : List Value} {h : pm_H} {s1 : pm_S}  (hs : pm_do sc nL rk np mc rkOf (.l2i) res pc lv st h = some (.inl s1)) (O : pm_ok lv st h.1) : pm_Ok2 (pc, lv, st, h) s1 := by
  simp only [pm_do] at hs
  split at hs
  · cases hs
    exact pk_st O (pk_c (pm_okv_int _ _) (pk_t1 O.2.1))
  · cases hs
theorem pr_lcmp {sc : pm_Sc} {nL rk : Nat} {np mc rkOf : Nat → Nat} {res : List Nat} {pc : Nat} {lv : pm_L} {st : List Value} {h : pm_H} {s1 : pm_S}  (hs : pm_do sc nL rk np mc rkOf (.lcmp) res pc lv st h = some (.inl s1)) (O : pm_ok lv st h.1) : pm_Ok2 (pc, lv, st, h) s1 := by
  simp only [pm_do] at hs
  split at hs
  · cases hs
    exact pk_st O (pk_c (pm_okv_int _ _) (pk_t2 O.2.1))
  · cases hs
theorem pr_irem {sc : pm_Sc} {nL rk : Nat} {np mc rkOf : Nat → Nat} {res : List Nat} {pc : Nat} {lv : pm_L} {st : List Value} {h : pm_H} {s1 : pm_S}  (hs : pm_do sc nL rk np mc rkOf (.irem) res pc lv st h = some (.inl s1)) (O : pm_ok lv st h.1) : pm_Ok2 (pc, lv, st, h) s1 := by
  simp only [pm_do] at hs
  split at hs
  · split at hs
    · cases hs
    · next hne => cases hs; exact pk_st O (pk_c (pm_okv_int _ _) (pk_t2 O.2.1))
  · cases hs
theorem pr_ldc_w {sc : pm_Sc} {nL rk : Nat} {np mc rkOf : Nat → Nat} {res : List Nat} {pc : Nat} {lv : pm_L} {st : List Value} {h : pm_H} {s1 : pm_S} {i : Nat}  (hs : pm_do sc nL rk np mc rkOf (.ldc_w i) res pc lv st h = some (.inl s1)) (O : pm_ok lv st h.1) : pm_Ok2 (pc, lv, st, h) s1 := by
  simp only [pm_do] at hs
  split at hs
  · cases hs
    exact pk_st O (pk_c (pm_okv_int _ _) O.2.1)
  · cases hs
theorem pr_ldc2_w {sc : pm_Sc} {nL rk : Nat} {np mc rkOf : Nat → Nat} {res : List Nat} {pc : Nat} {lv : pm_L} {st : List Value} {h : pm_H} {s1 : pm_S} {i : Nat}  (hs : pm_do sc nL rk np mc rkOf (.ldc2_w i) res pc lv st h = some (.inl s1)) (O : pm_ok lv st h.1) : pm_Ok2 (pc, lv, st, h) s1 := by
  simp only [pm_do] at hs
  split at hs
  · cases hs
    exact pk_st O (pk_c (pm_okv_long _ _) O.2.1)
  · cases hs
theorem pr_iload_n {sc : pm_Sc} {nL rk : Nat} {np mc rkOf : Nat → Nat} {res : List Nat} {pc : Nat} {lv : pm_L} {st : List Value} {h : pm_H} {s1 : pm_S} {k : Fin 4}  (hs : pm_do sc nL rk np mc rkOf (.iload_n k) res pc lv st h = some (.inl s1)) (O : pm_ok lv st h.1) : pm_Ok2 (pc, lv, st, h) s1 := by
  simp only [pm_do] at hs
  split at hs
  · next x hl => cases hs; exact pk_st O (pk_c (pm_okv_int _ _) O.2.1)
  · cases hs
theorem pr_iload {sc : pm_Sc} {nL rk : Nat} {np mc rkOf : Nat → Nat} {res : List Nat} {pc : Nat} {lv : pm_L} {st : List Value} {h : pm_H} {s1 : pm_S} {k : Nat}  (hs : pm_do sc nL rk np mc rkOf (.iload k) res pc lv st h = some (.inl s1)) (O : pm_ok lv st h.1) : pm_Ok2 (pc, lv, st, h) s1 := by
  simp only [pm_do] at hs
  split at hs
  · next x hl => cases hs; exact pk_st O (pk_c (pm_okv_int _ _) O.2.1)
  · cases hs
theorem pr_lload_n {sc : pm_Sc} {nL rk : Nat} {np mc rkOf : Nat → Nat} {res : List Nat} {pc : Nat} {lv : pm_L} {st : List Value} {h : pm_H} {s1 : pm_S} {k : Fin 4}  (hs : pm_do sc nL rk np mc rkOf (.lload_n k) res pc lv st h = some (.inl s1)) (O : pm_ok lv st h.1) : pm_Ok2 (pc, lv, st, h) s1 := by
  simp only [pm_do] at hs
  split at hs
  · next x hl => cases hs; exact pk_st O (pk_c (pm_okv_long _ _) O.2.1)
  · cases hs
theorem pr_lload {sc : pm_Sc} {nL rk : Nat} {np mc rkOf : Nat → Nat} {res : List Nat} {pc : Nat} {lv : pm_L} {st : List Value} {h : pm_H} {s1 : pm_S} {k : Nat}  (hs : pm_do sc nL rk np mc rkOf (.lload k) res pc lv st h = some (.inl s1)) (O : pm_ok lv st h.1) : pm_Ok2 (pc, lv, st, h) s1 := by
  simp only [pm_do] at hs
  split at hs
  · next x hl => cases hs; exact pk_st O (pk_c (pm_okv_long _ _) O.2.1)
  · cases hs
theorem pr_aload_n {sc : pm_Sc} {nL rk : Nat} {np mc rkOf : Nat → Nat} {res : List Nat} {pc : Nat} {lv : pm_L} {st : List Value} {h : pm_H} {s1 : pm_S} {k : Fin 4}  (hs : pm_do sc nL rk np mc rkOf (.aload_n k) res pc lv st h = some (.inl s1)) (O : pm_ok lv st h.1) : pm_Ok2 (pc, lv, st, h) s1 := by
  simp only [pm_do] at hs
  split at hs
  · next x hl => cases hs; exact pk_st O (pk_c (O.1 _ (pm_ld_mem hl)) O.2.1)
  · next hl => cases hs; exact pk_st O (pk_c (pm_okv_null _) O.2.1)
  · next x hl => cases hs; exact pk_st O (pk_c (pm_okv_ra _ _) O.2.1)
  · cases hs
theorem pr_aload {sc : pm_Sc} {nL rk : Nat} {np mc rkOf : Nat → Nat} {res : List Nat} {pc : Nat} {lv : pm_L} {st : List Value} {h : pm_H} {s1 : pm_S} {k : Nat}  (hs : pm_do sc nL rk np mc rkOf (.aload k) res pc lv st h = some (.inl s1)) (O : pm_ok lv st h.1) : pm_Ok2 (pc, lv, st, h) s1 := by
  simp only [pm_do] at hs
  split at hs
  · next x hl => cases hs; exact pk_st O (pk_c (O.1 _ (pm_ld_mem hl)) O.2.1)
  · next hl => cases hs; exact pk_st O (pk_c (pm_okv_null _) O.2.1)
  · next x hl => cases hs; exact pk_st O (pk_c (pm_okv_ra _ _) O.2.1)
  · cases hs
theorem pr_istore_n {sc : pm_Sc} {nL rk : Nat} {np mc rkOf : Nat → Nat} {res : List Nat} {pc : Nat} {lv : pm_L} {st : List Value} {h : pm_H} {s1 : pm_S} {k : Fin 4}  (hs : pm_do sc nL rk np mc rkOf (.istore_n k) res pc lv st h = some (.inl s1)) (O : pm_ok lv st h.1) : pm_Ok2 (pc, lv, st, h) s1 := by
  simp only [pm_do] at hs
  split at hs
  · split at hs
    · next hk => cases hs; exact pk_lv O (pm_s1_ok O.1 (pm_okv_int _ _)) (pk_t1 O.2.1)
    · cases hs
  · cases hs
theorem pr_istore {sc : pm_Sc} {nL rk : Nat} {np mc rkOf : Nat → Nat} {res : List Nat} {pc : Nat} {lv : pm_L} {st : List Value} {h : pm_H} {s1 : pm_S} {k : Nat}  (hs : pm_do sc nL rk np mc rkOf (.istore k) res pc lv st h = some (.inl s1)) (O : pm_ok lv st h.1) : pm_Ok2 (pc, lv, st, h) s1 := by
  simp only [pm_do] at hs
  split at hs
  · split at hs
    · next hk => cases hs; exact pk_lv O (pm_s1_ok O.1 (pm_okv_int _ _)) (pk_t1 O.2.1)
    · cases hs
  · cases hs
theorem pr_lstore_n {sc : pm_Sc} {nL rk : Nat} {np mc rkOf : Nat → Nat} {res : List Nat} {pc : Nat} {lv : pm_L} {st : List Value} {h : pm_H} {s1 : pm_S} {k : Fin 4}  (hs : pm_do sc nL rk np mc rkOf (.lstore_n k) res pc lv st h = some (.inl s1)) (O : pm_ok lv st h.1) : pm_Ok2 (pc, lv, st, h) s1 := by
  simp only [pm_do] at hs
  split at hs
  · split at hs
    · next hk => cases hs; exact pk_lv O (pm_s2_ok O.1 (pm_okv_long _ _)) (pk_t1 O.2.1)
    · cases hs
  · cases hs
theorem pr_lstore {sc : pm_Sc} {nL rk : Nat} {np mc rkOf : Nat → Nat} {res : List Nat} {pc : Nat} {lv : pm_L} {st : List Value} {h : pm_H} {s1 : pm_S} {k : Nat}  (hs : pm_do sc nL rk np mc rkOf (.lstore k) res pc lv st h = some (.inl s1)) (O : pm_ok lv st h.1) : pm_Ok2 (pc, lv, st, h) s1 := by
  simp only [pm_do] at hs
  split at hs
  · split at hs
    · next hk => cases hs; exact pk_lv O (pm_s2_ok O.1 (pm_okv_long _ _)) (pk_t1 O.2.1)
    · cases hs
  · cases hs
theorem pr_astore_n {sc : pm_Sc} {nL rk : Nat} {np mc rkOf : Nat → Nat} {res : List Nat} {pc : Nat} {lv : pm_L} {st : List Value} {h : pm_H} {s1 : pm_S} {k : Fin 4}  (hs : pm_do sc nL rk np mc rkOf (.astore_n k) res pc lv st h = some (.inl s1)) (O : pm_ok lv st h.1) : pm_Ok2 (pc, lv, st, h) s1 := by
  simp only [pm_do] at hs
  split at hs
  · split at hs
    · next hk => cases hs; exact pk_lv O (pm_s1_ok O.1 (pk_h O.2.1)) (pk_t1 O.2.1)
    · cases hs
  · split at hs
    · next hk => cases hs; exact pk_lv O (pm_s1_ok O.1 (pm_okv_null _)) (pk_t1 O.2.1)
    · cases hs
  · cases hs
theorem pr_astore {sc : pm_Sc} {nL rk : Nat} {np mc rkOf : Nat → Nat} {res : List Nat} {pc : Nat} {lv : pm_L} {st : List Value} {h : pm_H} {s1 : pm_S} {k : Nat}  (hs : pm_do sc nL rk np mc rkOf (.astore k) res pc lv st h = some (.inl s1)) (O : pm_ok lv st h.1) : pm_Ok2 (pc, lv, st, h) s1 := by
  simp only [pm_do] at hs
  split at hs
  · split at hs
    · next hk => cases hs; exact pk_lv O (pm_s1_ok O.1 (pk_h O.2.1)) (pk_t1 O.2.1)
    · cases hs
  · split at hs
    · next hk => cases hs; exact pk_lv O (pm_s1_ok O.1 (pm_okv_null _)) (pk_t1 O.2.1)
    · cases hs
  · cases hs
theorem pr_iinc {sc : pm_Sc} {nL rk : Nat} {np mc rkOf : Nat → Nat} {res : List Nat} {pc : Nat} {lv : pm_L} {st : List Value} {h : pm_H} {s1 : pm_S} {k : Nat} {n : Int}  (hs : pm_do sc nL rk np mc rkOf (.iinc k n) res pc lv st h = some (.inl s1)) (O : pm_ok lv st h.1) : pm_Ok2 (pc, lv, st, h) s1 := by
  simp only [pm_do] at hs
  split at hs
  · next x hl =>
    split at hs
    · next hk => cases hs; exact pk_lv O (pm_s1_ok O.1 (pm_okv_int _ _)) O.2.1
    · cases hs
  · cases hs
theorem pr_dup {sc : pm_Sc} {nL rk : Nat} {np mc rkOf : Nat → Nat} {res : List Nat} {pc : Nat} {lv : pm_L} {st : List Value} {h : pm_H} {s1 : pm_S}  (hs : pm_do sc nL rk np mc rkOf (.dup) res pc lv st h = some (.inl s1)) (O : pm_ok lv st h.1) : pm_Ok2 (pc, lv, st, h) s1 := by
  simp only [pm_do] at hs
  split at hs
  · split at hs
    · next hk => cases hs; exact pk_st O (pk_c (pk_h O.2.1) O.2.1)
    · cases hs
  · cases hs
theorem pr_pop {sc : pm_Sc} {nL rk : Nat} {np mc rkOf : Nat → Nat} {res : List Nat} {pc : Nat} {lv : pm_L} {st : List Value} {h : pm_H} {s1 : pm_S}  (hs : pm_do sc nL rk np mc rkOf (.pop) res pc lv st h = some (.inl s1)) (O : pm_ok lv st h.1) : pm_Ok2 (pc, lv, st, h) s1 := by
  simp only [pm_do] at hs
  split at hs
  · split at hs
    · next hk => cases hs; exact pk_st O (pk_t1 O.2.1)
    · cases hs
  · cases hs
theorem pr_dup2 {sc : pm_Sc} {nL rk : Nat} {np mc rkOf : Nat → Nat} {res : List Nat} {pc : Nat} {lv : pm_L} {st : List Value} {h : pm_H} {s1 : pm_S}  (hs : pm_do sc nL rk np mc rkOf (.dup2) res pc lv st h = some (.inl s1)) (O : pm_ok lv st h.1) : pm_Ok2 (pc, lv, st, h) s1 := by
  simp only [pm_do] at hs
  split at hs
  · split at hs
    · next hk => cases hs; exact pk_st O (pk_c (pk_h O.2.1) (pk_c (pk_h (pk_t1 O.2.1)) O.2.1))
    · cases hs
  · cases hs
theorem pr_goto {sc : pm_Sc} {nL rk : Nat} {np mc rkOf : Nat → Nat} {res : List Nat} {pc : Nat} {lv : pm_L} {st : List Value} {h : pm_H} {s1 : pm_S} {off : Int}  (hs : pm_do sc nL rk np mc rkOf (.goto off) res pc lv st h = some (.inl s1)) (O : pm_ok lv st h.1) : pm_Ok2 (pc, lv, st, h) s1 := by
  simp only [pm_do] at hs
  split at hs
  · next t ht => cases hs; exact pk_st O O.2.1
  · cases hs
theorem pr_ifCond {sc : pm_Sc} {nL rk : Nat} {np mc rkOf : Nat → Nat} {res : List Nat} {pc : Nat} {lv : pm_L} {st : List Value} {h : pm_H} {s1 : pm_S} {q : ClassFile.Cond} {off : Int}  (hs : pm_do sc nL rk np mc rkOf (.ifCond q off) res pc lv st h = some (.inl s1)) (O : pm_ok lv st h.1) : pm_Ok2 (pc, lv, st, h) s1 := by
  simp only [pm_do] at hs
  split at hs
  · next ht => cases hs; exact pk_st O (pk_t1 O.2.1)
  · cases hs
theorem pr_if_icmp {sc : pm_Sc} {nL rk : Nat} {np mc rkOf : Nat → Nat} {res : List Nat} {pc : Nat} {lv : pm_L} {st : List Value} {h : pm_H} {s1 : pm_S} {q : ClassFile.Cond} {off : Int}  (hs : pm_do sc nL rk np mc rkOf (.if_icmp q off) res pc lv st h = some (.inl s1)) (O : pm_ok lv st h.1) : pm_Ok2 (pc, lv, st, h) s1 := by
  simp only [pm_do] at hs
  split at hs
  · next ht => cases hs; exact pk_st O (pk_t2 O.2.1)
  · cases hs
theorem pr_ifnull {sc : pm_Sc} {nL rk : Nat} {np mc rkOf : Nat → Nat} {res : List Nat} {pc : Nat} {lv : pm_L} {st : List Value} {h : pm_H} {s1 : pm_S} {off : Int}  (hs : pm_do sc nL rk np mc rkOf (.ifnull off) res pc lv st h = some (.inl s1)) (O : pm_ok lv st h.1) : pm_Ok2 (pc, lv, st, h) s1 := by
  simp only [pm_do] at hs
  split at hs
  · next ht => cases hs; exact pk_st O (pk_t1 O.2.1)
  · next ht => cases hs; exact pk_st O (pk_t1 O.2.1)
  · cases hs
theorem pr_ifnonnull {sc : pm_Sc} {nL rk : Nat} {np mc rkOf : Nat → Nat} {res : List Nat} {pc : Nat} {lv : pm_L} {st : List Value} {h : pm_H} {s1 : pm_S} {off : Int}  (hs : pm_do sc nL rk np mc rkOf (.ifnonnull off) res pc lv st h = some (.inl s1)) (O : pm_ok lv st h.1) : pm_Ok2 (pc, lv, st, h) s1 := by
  simp only [pm_do] at hs
  split at hs
  · next ht => cases hs; exact pk_st O (pk_t1 O.2.1)
  · next ht => cases hs; exact pk_st O (pk_t1 O.2.1)
  · cases hs
theorem pr_tableswitch {sc : pm_Sc} {nL rk : Nat} {np mc rkOf : Nat → Nat} {res : List Nat} {pc : Nat} {lv : pm_L} {st : List Value} {h : pm_H} {s1 : pm_S} {d lo hi : Int} {offs : Array Int}  (hs : pm_do sc nL rk np mc rkOf (.tableswitch d lo hi offs) res pc lv st h = some (.inl s1)) (O : pm_ok lv st h.1) : pm_Ok2 (pc, lv, st, h) s1 := by
  simp only [pm_do] at hs
  split at hs
  · split at hs
    · next hr =>
      split at hs
      · next ht => cases hs; exact pk_st O (pk_t1 O.2.1)
      · cases hs
    · next hr =>
      split at hs
      · next ho =>
        split at hs
        · next ht => cases hs; exact pk_st O (pk_t1 O.2.1)
        · cases hs
      · cases hs
  · cases hs
theorem pr_getfield {sc : pm_Sc} {nL rk : Nat} {np mc rkOf : Nat → Nat} {res : List Nat} {pc : Nat} {lv : pm_L} {st : List Value} {h : pm_H} {s1 : pm_S} {i : Nat}  (hs : pm_do sc nL rk np mc rkOf (.getfield i) res pc lv st h = some (.inl s1)) (O : pm_ok lv st h.1) : pm_Ok2 (pc, lv, st, h) s1 := by
  simp only [pm_do] at hs
  split at hs
  · next ci k lk q r =>
    split at hs
    · next c0 fs hq =>
      split at hs
      · split at hs
        · next v hv =>
          cases hs
          exact pk_st O (pk_c (pk_cell (c := .inr (c0, fs)) O.2.2 hq hv) (pk_t1 O.2.1))
        · cases hs
      · cases hs
    · cases hs
  · cases hs
theorem pr_putfield {sc : pm_Sc} {nL rk : Nat} {np mc rkOf : Nat → Nat} {res : List Nat} {pc : Nat} {lv : pm_L} {st : List Value} {h : pm_H} {s1 : pm_S} {i : Nat}  (hs : pm_do sc nL rk np mc rkOf (.putfield i) res pc lv st h = some (.inl s1)) (O : pm_ok lv st h.1) : pm_Ok2 (pc, lv, st, h) s1 := by
  simp only [pm_do] at hs
  split at hs
  · next ci k lk v q r =>
    split at hs
    · next c0 fs hq =>
      split at hs
      · cases hs
        exact pk_set O (pk_t2 O.2.1) (pk_vset (fun w hw => O.2.2 _ (List.mem_of_getElem? hq) w hw) (pk_h O.2.1))
      · cases hs
    · cases hs
  · cases hs
theorem pr_arraylength {sc : pm_Sc} {nL rk : Nat} {np mc rkOf : Nat → Nat} {res : List Nat} {pc : Nat} {lv : pm_L} {st : List Value} {h : pm_H} {s1 : pm_S}  (hs : pm_do sc nL rk np mc rkOf (.arraylength) res pc lv st h = some (.inl s1)) (O : pm_ok lv st h.1) : pm_Ok2 (pc, lv, st, h) s1 := by
  simp only [pm_do] at hs
  split at hs
  · split at hs
    · next t vs hq =>
      split at hs
      · next ht =>
        cases hs
        exact pk_st O (pk_c (pm_okv_int _ _) (pk_t1 O.2.1))
      · cases hs
    · cases hs
  · cases hs
    exact pk_st O (pk_c (pm_okv_int _ _) (pk_t1 O.2.1))
  · cases hs
theorem pr_iaload {sc : pm_Sc} {nL rk : Nat} {np mc rkOf : Nat → Nat} {res : List Nat} {pc : Nat} {lv : pm_L} {st : List Value} {h : pm_H} {s1 : pm_S}  (hs : pm_do sc nL rk np mc rkOf (.iaload) res pc lv st h = some (.inl s1)) (O : pm_ok lv st h.1) : pm_Ok2 (pc, lv, st, h) s1 := by
  simp only [pm_do] at hs
  split at hs
  · split at hs
    · next hq =>
      split at hs
      · cases hs
      · next hi =>
        split at hs
        · next x hv => cases hs; exact pk_st O (pk_c (pm_okv_int _ _) (pk_t2 O.2.1))
        · cases hs
    · cases hs
  · split at hs
    · next hi => cases hs; exact pk_st O (pk_c (pm_okv_int _ _) (pk_t2 O.2.1))
    · cases hs
  · cases hs
theorem pr_laload {sc : pm_Sc} {nL rk : Nat} {np mc rkOf : Nat → Nat} {res : List Nat} {pc : Nat} {lv : pm_L} {st : List Value} {h : pm_H} {s1 : pm_S}  (hs : pm_do sc nL rk np mc rkOf (.laload) res pc lv st h = some (.inl s1)) (O : pm_ok lv st h.1) : pm_Ok2 (pc, lv, st, h) s1 := by
  simp only [pm_do] at hs
  split at hs
  · split at hs
    · next hq =>
      split at hs
      · cases hs
      · next hi =>
        split at hs
        · next x hv => cases hs; exact pk_st O (pk_c (pm_okv_long _ _) (pk_t2 O.2.1))
        · cases hs
    · cases hs
  · cases hs
theorem pr_baload {sc : pm_Sc} {nL rk : Nat} {np mc rkOf : Nat → Nat} {res : List Nat} {pc : Nat} {lv : pm_L} {st : List Value} {h : pm_H} {s1 : pm_S}  (hs : pm_do sc nL rk np mc rkOf (.baload) res pc lv st h = some (.inl s1)) (O : pm_ok lv st h.1) : pm_Ok2 (pc, lv, st, h) s1 := by
  simp only [pm_do] at hs
  split at hs
  · split at hs
    · next hq =>
      split at hs
      · cases hs
      · next hi =>
        split at hs
        · next x hv => cases hs; exact pk_st O (pk_c (pm_okv_int _ _) (pk_t2 O.2.1))
        · cases hs
    · cases hs
  · cases hs
theorem pr_aaload {sc : pm_Sc} {nL rk : Nat} {np mc rkOf : Nat → Nat} {res : List Nat} {pc : Nat} {lv : pm_L} {st : List Value} {h : pm_H} {s1 : pm_S}  (hs : pm_do sc nL rk np mc rkOf (.aaload) res pc lv st h = some (.inl s1)) (O : pm_ok lv st h.1) : pm_Ok2 (pc, lv, st, h) s1 := by
  simp only [pm_do] at hs
  split at hs
  · split at hs
    · next t vs hq =>
      split at hs
      · cases hs
      · next hi =>
        have h3 : 3 ≤ t := by omega
        split at hs
        · next x hv => cases hs; exact pk_st O (pk_c (pk_cell (c := .inl (t, vs)) O.2.2 hq hv) (pk_t2 O.2.1))
        · next hv => cases hs; exact pk_st O (pk_c (pm_okv_null _) (pk_t2 O.2.1))
        · cases hs
    · cases hs
  · cases hs
theorem pr_iastore {sc : pm_Sc} {nL rk : Nat} {np mc rkOf : Nat → Nat} {res : List Nat} {pc : Nat} {lv : pm_L} {st : List Value} {h : pm_H} {s1 : pm_S}  (hs : pm_do sc nL rk np mc rkOf (.iastore) res pc lv st h = some (.inl s1)) (O : pm_ok lv st h.1) : pm_Ok2 (pc, lv, st, h) s1 := by
  simp only [pm_do] at hs
  split at hs
  · split at hs
    · next vs hq =>
      split at hs
      · next hi =>
        cases hs
        exact pk_set O (pk_t3 O.2.1) (pk_vset (fun w hw => O.2.2 _ (List.mem_of_getElem? hq) w hw) (pm_okv_int _ _))
      · cases hs
    · cases hs
  · cases hs
theorem pr_lastore {sc : pm_Sc} {nL rk : Nat} {np mc rkOf : Nat → Nat} {res : List Nat} {pc : Nat} {lv : pm_L} {st : List Value} {h : pm_H} {s1 : pm_S}  (hs : pm_do sc nL rk np mc rkOf (.lastore) res pc lv st h = some (.inl s1)) (O : pm_ok lv st h.1) : pm_Ok2 (pc, lv, st, h) s1 := by
  simp only [pm_do] at hs
  split at hs
  · split at hs
    · next vs hq =>
      split at hs
      · next hi =>
        cases hs
        exact pk_set O (pk_t3 O.2.1) (pk_vset (fun w hw => O.2.2 _ (List.mem_of_getElem? hq) w hw) (pm_okv_long _ _))
      · cases hs
    · cases hs
  · cases hs
theorem pr_bastore {sc : pm_Sc} {nL rk : Nat} {np mc rkOf : Nat → Nat} {res : List Nat} {pc : Nat} {lv : pm_L} {st : List Value} {h : pm_H} {s1 : pm_S}  (hs : pm_do sc nL rk np mc rkOf (.bastore) res pc lv st h = some (.inl s1)) (O : pm_ok lv st h.1) : pm_Ok2 (pc, lv, st, h) s1 := by
  simp only [pm_do] at hs
  split at hs
  · split at hs
    · next vs hq =>
      split at hs
      · next hi =>
        cases hs
        exact pk_set O (pk_t3 O.2.1) (pk_vset (fun w hw => O.2.2 _ (List.mem_of_getElem? hq) w hw) (pm_okv_int _ _))
      · cases hs
    · cases hs
  · cases hs
theorem pr_aastore {sc : pm_Sc} {nL rk : Nat} {np mc rkOf : Nat → Nat} {res : List Nat} {pc : Nat} {lv : pm_L} {st : List Value} {h : pm_H} {s1 : pm_S}  (hs : pm_do sc nL rk np mc rkOf (.aastore) res pc lv st h = some (.inl s1)) (O : pm_ok lv st h.1) : pm_Ok2 (pc, lv, st, h) s1 := by
  simp only [pm_do] at hs
  split at hs
  · split at hs
    · next t vs c0 ws hq hw =>
      split at hs
      · next hi =>
        obtain ⟨i1, i2, h3, h6, rfl⟩ := hi
        cases hs
        exact pk_set O (pk_t3 O.2.1) (pk_vset (fun w hw => O.2.2 _ (List.mem_of_getElem? hq) w hw) (pk_h O.2.1))
      · cases hs
    · cases hs
  · split at hs
    · next t vs hq =>
      split at hs
      · next hi =>
        obtain ⟨i1, i2, h3, h6⟩ := hi
        cases hs
        exact pk_set O (pk_t3 O.2.1) (pk_vset (fun w hw => O.2.2 _ (List.mem_of_getElem? hq) w hw) (pm_okv_null _))
      · cases hs
    · cases hs
  · cases hs
theorem pr_new {sc : pm_Sc} {nL rk : Nat} {np mc rkOf : Nat → Nat} {res : List Nat} {pc : Nat} {lv : pm_L} {st : List Value} {h : pm_H} {s1 : pm_S} {i : Nat}  (hs : pm_do sc nL rk np mc rkOf (.new i) res pc lv st h = some (.inl s1)) (O : pm_ok lv st h.1) : pm_Ok2 (pc, lv, st, h) s1 := by
  simp only [pm_do] at hs
  split at hs
  · next ci =>
    split at hs
    · cases hs
      exact pk_new O O.2.1 (pk_df ci)
    · cases hs
  · cases hs
theorem pr_newarray {sc : pm_Sc} {nL rk : Nat} {np mc rkOf : Nat → Nat} {res : List Nat} {pc : Nat} {lv : pm_L} {st : List Value} {h : pm_H} {s1 : pm_S} {a : ArrayType}  (hs : pm_do sc nL rk np mc rkOf (.newarray a) res pc lv st h = some (.inl s1)) (O : pm_ok lv st h.1) : pm_Ok2 (pc, lv, st, h) s1 := by
  simp only [pm_do] at hs
  split at hs
  · split at hs
    · next hi =>
      cases hs
      rcases hi.1 with ⟨rfl, rfl⟩ | ⟨rfl, rfl⟩ | ⟨rfl, rfl⟩
      · exact pk_new O (pk_t1 O.2.1) (pk_rep (pm_okv_int _ _))
      · exact pk_new O (pk_t1 O.2.1) (pk_rep (pm_okv_long _ _))
      · exact pk_new O (pk_t1 O.2.1) (pk_rep (pm_okv_int _ _))
    · cases hs
  · cases hs
theorem pr_anewarray {sc : pm_Sc} {nL rk : Nat} {np mc rkOf : Nat → Nat} {res : List Nat} {pc : Nat} {lv : pm_L} {st : List Value} {h : pm_H} {s1 : pm_S} {i : Nat}  (hs : pm_do sc nL rk np mc rkOf (.anewarray i) res pc lv st h = some (.inl s1)) (O : pm_ok lv st h.1) : pm_Ok2 (pc, lv, st, h) s1 := by
  simp only [pm_do] at hs
  split at hs
  · split at hs
    · cases hs
      exact pk_new O (pk_t1 O.2.1) (pk_rep (pm_okv_null _))
    · cases hs
  · cases hs
theorem pr_invokespecial {sc : pm_Sc} {nL rk : Nat} {np mc rkOf : Nat → Nat} {res : List Nat} {pc : Nat} {lv : pm_L} {st : List Value} {h : pm_H} {s1 : pm_S} {i : Nat}  (hs : pm_do sc nL rk np mc rkOf (.invokespecial i) res pc lv st h = some (.inl s1)) (O : pm_ok lv st h.1) : pm_Ok2 (pc, lv, st, h) s1 := by
  simp only [pm_do] at hs
  split at hs
  · split at hs
    · next hk =>
      subst hk
      split at hs
      · split at hs
        · next hi =>
          cases hs
          exact pk_st O (pk_t1 O.2.1)
        · cases hs
      · cases hs
    · split at hs
      · split at hs
        · split at hs
          · cases hs
          · cases hs
        · cases hs
      · cases hs
  · cases hs
theorem pr_invokestatic {sc : pm_Sc} {nL rk : Nat} {np mc rkOf : Nat → Nat} {res : List Nat} {pc : Nat} {lv : pm_L} {st : List Value} {h : pm_H} {s1 : pm_S} {i : Nat}  (hs : pm_do sc nL rk np mc rkOf (.invokestatic i) res pc lv st h = some (.inl s1)) (O : pm_ok lv st h.1) : pm_Ok2 (pc, lv, st, h) s1 := by
  simp only [pm_do] at hs
  split at hs
  · split at hs
    · next hk =>
      subst hk
      split at hs
      · split at hs
        · next hi =>
          cases hs
          exact pk_st O (pk_c (pm_okv_int _ _) (pk_t2 O.2.1))
        · cases hs
      · cases hs
    · split at hs
      · next hk =>
        subst hk
        split at hs
        · split at hs
          · next vs ws hq hw =>
            split at hs
            · next hi =>
              obtain ⟨i1, i2, i3, i4, i5, i6, i7⟩ := hi
              cases hs
              exact pk_set O (pk_t5 O.2.1) (pk_cpy (fun v hv => O.2.2 _ (List.mem_of_getElem? hq) v hv) (fun v hv => O.2.2 _ (List.mem_of_getElem? hw) v hv))
            · cases hs
          · cases hs
        · cases hs
      · split at hs
        · split at hs
          · cases hs
          · cases hs
        · cases hs
  · cases hs
theorem pm_do_ok {sc : pm_Sc} {nL rk : Nat} {np mc rkOf : Nat → Nat} {res : List Nat} {pc : Nat} {lv : pm_L} {st : List Value} {h : pm_H} {s1 : pm_S} {ins : Instr} (hs : pm_do sc nL rk np mc rkOf ins res pc lv st h = some (.inl s1)) (O : pm_ok lv st h.1) : pm_Ok2 (pc, lv, st, h) s1 := by
  cases ins
  case aconst_null => exact pr_aconst_null hs O
  case iconst => exact pr_iconst hs O
  case bipush => exact pr_bipush hs O
  case sipush => exact pr_sipush hs O
  case lconst => exact pr_lconst hs O
  case iadd => exact pr_iadd hs O
  case isub => exact pr_isub hs O
  case imul => exact pr_imul hs O
  case iand => exact pr_iand hs O
  case ior => exact pr_ior hs O
  case ixor => exact pr_ixor hs O
  case ishl => exact pr_ishl hs O
  case ishr => exact pr_ishr hs O
  case iushr => exact pr_iushr hs O
  case lsub => exact pr_lsub hs O
  case land => exact pr_land hs O
  case lor => exact pr_lor hs O
  case lshl => exact pr_lshl hs O
  case lshr => exact pr_lshr hs O
  case i2l => exact pr_i2l hs O
  case l2i => exact pr_l2i hs O
  case lcmp => exact pr_lcmp hs O
  case irem => exact pr_irem hs O
  case ldc_w => exact pr_ldc_w hs O
  case ldc2_w => exact pr_ldc2_w hs O
  case iload_n => exact pr_iload_n hs O
  case iload => exact pr_iload hs O
  case lload_n => exact pr_lload_n hs O
  case lload => exact pr_lload hs O
  case aload_n => exact pr_aload_n hs O
  case aload => exact pr_aload hs O
  case istore_n => exact pr_istore_n hs O
  case istore => exact pr_istore hs O
  case lstore_n => exact pr_lstore_n hs O
  case lstore => exact pr_lstore hs O
  case astore_n => exact pr_astore_n hs O
  case astore => exact pr_astore hs O
  case iinc => exact pr_iinc hs O
  case dup => exact pr_dup hs O
  case pop => exact pr_pop hs O
  case dup2 => exact pr_dup2 hs O
  case goto => exact pr_goto hs O
  case ifCond => exact pr_ifCond hs O
  case if_icmp => exact pr_if_icmp hs O
  case ifnull => exact pr_ifnull hs O
  case ifnonnull => exact pr_ifnonnull hs O
  case tableswitch => exact pr_tableswitch hs O
  case getfield => exact pr_getfield hs O
  case putfield => exact pr_putfield hs O
  case arraylength => exact pr_arraylength hs O
  case iaload => exact pr_iaload hs O
  case laload => exact pr_laload hs O
  case baload => exact pr_baload hs O
  case aaload => exact pr_aaload hs O
  case iastore => exact pr_iastore hs O
  case lastore => exact pr_lastore hs O
  case bastore => exact pr_bastore hs O
  case aastore => exact pr_aastore hs O
  case new => exact pr_new hs O
  case newarray => exact pr_newarray hs O
  case anewarray => exact pr_anewarray hs O
  case invokespecial => exact pr_invokespecial hs O
  case invokestatic => exact pr_invokestatic hs O
  case invokevirtual =>
    simp only [pm_do] at hs
    split at hs
    · split at hs
      · split at hs
        · split at hs
          · split at hs
            · cases hs
            · cases hs
          · cases hs
        · cases hs
      · cases hs
    · cases hs
  all_goals (exact absurd hs (by simp [pm_do]))
/-- a call takes its arguments, and the rest, from the stack -/
theorem pm_do_call {sc : pm_Sc} {nL rk : Nat} {np mc rkOf : Nat → Nat} {ins : Instr} {res : List Nat} {pc : Nat} {lv : pm_L} {st : List Value} {h : pm_H} {k : pm_K} (hs : pm_do sc nL rk np mc rkOf ins res pc lv st h = some (.inr k)) :
    (∃ (i : Nat) (b : Nat) (c : Nat) (fs : List Value) (kd : Nat), ins = .invokevirtual i ∧ res = [k.1, kd] ∧ kd ≤ 1 ∧ st.drop (np k.1) = .ref b :: k.2.2 ∧ h.1[b]? = some (.inr (c, fs)) ∧ np k.1 < st.length ∧ c = mc k.1 ∧ pm_sum k.2.2 ≤ 12 ∧ rkOf k.1 < rk ∧ k.2.1 = .ref b :: (st.take (np k.1)).reverse) ∨
    (∃ (i : Nat) (b : Nat) (kd : Nat), ins = .invokespecial i ∧ res = [k.1, kd] ∧ (kd = 2 ∨ kd = 3) ∧ st.drop (np k.1) = .ref b :: k.2.2 ∧ np k.1 < st.length ∧ pm_sum k.2.2 ≤ 8 ∧ rkOf k.1 < rk ∧ k.2.1 = .ref b :: (st.take (np k.1)).reverse) ∨
    (∃ (i : Nat) (kd : Nat), ins = .invokestatic i ∧ res = [k.1, kd] ∧ (kd = 4 ∨ kd = 5 ∨ kd = 9) ∧ k.2.2 = st.drop (np k.1) ∧ np k.1 ≤ st.length ∧ pm_sum k.2.2 ≤ 8 ∧ rkOf k.1 < rk ∧ k.2.1 = (st.take (np k.1)).reverse) := by
  cases ins
  case invokevirtual i =>
    simp only [pm_do] at hs
    split at hs
    · split at hs
      · next hkd =>
        split at hs
        · next hdr =>
          split at hs
          · next hc =>
            split at hs
            · next hi =>
              cases hs
              exact Or.inl ⟨i, _, _, _, _, rfl, rfl, hkd, hdr, hc, hi.1, hi.2.1, hi.2.2.1, hi.2.2.2, rfl⟩
            · cases hs
          · cases hs
        · cases hs
      · cases hs
    · cases hs
  case invokespecial i =>
    simp only [pm_do] at hs
    split at hs
    · split at hs
      · split at hs
        · split at hs
          · cases hs
          · cases hs
        · cases hs
      · split at hs
        · next hkd =>
          split at hs
          · next hdr =>
            split at hs
            · next hi =>
              cases hs
              exact Or.inr (Or.inl ⟨i, _, _, rfl, rfl, hkd, hdr, hi.1, hi.2.1, hi.2.2, rfl⟩)
            · cases hs
          · cases hs
        · cases hs
    · cases hs
  case invokestatic i =>
    simp only [pm_do] at hs
    split at hs
    · split at hs
      · split at hs
        · split at hs
          · cases hs
          · cases hs
        · cases hs
      · split at hs
        · split at hs
          · split at hs
            · split at hs
              · cases hs
              · cases hs
            · cases hs
          · cases hs
        · split at hs
          · next hkd =>
            split at hs
            · next hi =>
              cases hs
              exact Or.inr (Or.inr ⟨i, _, rfl, rfl, hkd, rfl, hi.1, hi.2.1, hi.2.2, rfl⟩)
            · cases hs
          · cases hs
    · cases hs
  all_goals (try simp only [pm_do] at hs)
  all_goals (repeat' split at hs)
  all_goals (cases hs)
theorem pm_do_sub {sc : pm_Sc} {nL rk : Nat} {np mc rkOf : Nat → Nat} {ins : Instr} {res : List Nat} {pc : Nat} {lv : pm_L} {st : List Value} {h : pm_H} {k : pm_K} (hs : pm_do sc nL rk np mc rkOf ins res pc lv st h = some (.inr k)) : (∀ v ∈ k.2.1, v ∈ st) ∧ ∀ v ∈ k.2.2, v ∈ st := by
  have tk : ∀ (n : Nat) (v : Value), v ∈ (st.take n).reverse → v ∈ st := fun n v hv => List.mem_of_mem_take (List.mem_reverse.mp hv)
  have dr : ∀ (n : Nat) (v : Value) (l : List Value), st.drop n = l → v ∈ l → v ∈ st := fun n v l e hv => List.mem_of_mem_drop (e ▸ hv)
  rcases pm_do_call hs with ⟨i, b, c, fs, kd, -, -, -, hd, -, -, -, -, -, ha⟩ | ⟨i, b, kd, -, -, -, hd, -, -, -, ha⟩ | ⟨i, kd, -, -, -, hd, -, -, -, ha⟩
  · refine ⟨fun v hv => ?_, fun v hv => dr _ v _ hd (List.mem_cons_of_mem _ hv)⟩
    rw [ha] at hv
    rcases List.mem_cons.mp hv with z | z
    · exact dr _ v _ hd (by rw [z]; exact List.mem_cons_self)
    · exact tk _ v z
  · refine ⟨fun v hv => ?_, fun v hv => dr _ v _ hd (List.mem_cons_of_mem _ hv)⟩
    rw [ha] at hv
    rcases List.mem_cons.mp hv with z | z
    · exact dr _ v _ hd (by rw [z]; exact List.mem_cons_self)
    · exact tk _ v z
  · refine ⟨fun v hv => ?_, fun v hv => dr _ v _ hd.symm hv⟩
    rw [ha] at hv
    exact tk _ v hv
theorem pm_args_mem : ∀ (as : List Value) (k : Nat) (q : Nat × Value), q ∈ lv_args k as → q.2 ∈ as
  | [], k, q, h => by cases h
  | v :: vs, k, q, h => by
    rcases List.mem_cons.mp h with z | z
    · rw [z]; exact List.mem_cons_self
    · exact List.mem_cons_of_mem _ (pm_args_mem vs _ q z)
theorem pm_ret_mem {i : Nat} {o : pm_S} {v : Value} (h : pm_ret i o = some (.inl (some v))) : v ∈ o.2.2.1 := by
  unfold pm_ret at h
  split at h
  · unfold pm_out at h
    split at h
    all_goals (try split at h)
    all_goals (try cases h)
    all_goals (simp [*])
  · cases h
end
section
/-! THE TABLES, method by method -/
def pm_G : List Cond := lw_tbl.filter goodWord
def pm_isN (w : Cond) : Bool := match w with
  | .fieldLinkNest _ _ _ _ _ _ => true
  | .methodLinkNest _ _ _ _ => true
  | .castable _ _ => true
  | .declares _ => true
  | _ => false
def pm_NW : List Cond := lw_tbl.filter pm_isN
theorem pm_needN_isN (own : String) (ins : Instr) (res : List Nat) : ∀ w ∈ pm_needN own ins res ++ pm_needN2 own ins res, pm_isN w = true := by
  intro w hw
  rcases List.mem_append.mp hw with h | h
  · unfold pm_needN at h
    split at h
    · split at h
      · split at h
        · rw [List.mem_singleton.mp h]; rfl
        · cases h
      · cases h
    · split at h
      · split at h
        · rw [List.mem_singleton.mp h]; rfl
        · cases h
      · cases h
    · cases h
  · unfold pm_needN2 at h
    split at h
    · rw [List.mem_singleton.mp h]; rfl
    · rw [List.mem_singleton.mp h]; rfl
    · cases h
/-- what holds of each row of a method's table -/
def pm_RowOk (own : String) (ini : Bool) (bs : ByteArray) (r : pm_R) : Prop := decode bs r.1 = .ok (r.2.1, r.2.2.1) ∧ (∀ w ∈ pm_all own r, w ∈ pm_G) ∧ (∀ w ∈ pm_allN own r, w ∈ pm_NW) ∧ pm_chk own ini r.2.1 r.2.2.1 r.2.2.2 = true ∧ pm_ckj r = true
theorem pm_mkrow {own : String} {ini : Bool} {bs : ByteArray} {tb : List pm_R} {ps qs : List Nat} (h0 : ∀ r ∈ tb, decode bs r.1 = .ok (r.2.1, r.2.2.1)) (h1 : tb.flatMap (pm_all own) = ps.filterMap (fun (i : Nat) => lw_tbl[i]?) ∧ (tb.flatMap (pm_all own)).all goodWord = true) (h2 : tb.flatMap (pm_allN own) = qs.filterMap (fun (i : Nat) => lw_tbl[i]?) ∧ tb.all (fun r => pm_chk own ini r.2.1 r.2.2.1 r.2.2.2 && pm_ckj r) = true) : ∀ r ∈ tb, pm_RowOk own ini bs r := by
  intro r hr
  have a2 := List.all_eq_true.mp h2.2 r hr
  simp only [Bool.and_eq_true] at a2
  refine ⟨h0 r hr, fun w hw => ?_, fun w hw => ?_, a2.1, a2.2⟩
  · have m : w ∈ tb.flatMap (pm_all own) := List.mem_flatMap.mpr ⟨r, hr, hw⟩
    have g := List.all_eq_true.mp h1.2 w m
    rw [h1.1] at m
    obtain ⟨i, -, hi⟩ := List.mem_filterMap.mp m
    exact List.mem_filter.mpr ⟨List.mem_of_getElem? hi, g⟩
  · have m : w ∈ tb.flatMap (pm_allN own) := List.mem_flatMap.mpr ⟨r, hr, hw⟩
    have g := pm_needN_isN own r.2.1 r.2.2.2 w hw
    rw [h2.1] at m
    obtain ⟨i, -, hi⟩ := List.mem_filterMap.mp m
    exact List.mem_filter.mpr ⟨List.mem_of_getElem? hi, g⟩
theorem tr_X0_init : ∀ r ∈ tb_X0_init, pm_RowOk RX0 true cX0_init r := pm_mkrow td_X0_init tn_X0_init tm_X0_init
theorem tr_X0_find : ∀ r ∈ tb_X0_find, pm_RowOk RX0 false cX0_find r := pm_mkrow td_X0_find tn_X0_find tm_X0_find
theorem tr_X0_begin : ∀ r ∈ tb_X0_begin, pm_RowOk RX0 false cX0_begin r := pm_mkrow td_X0_begin tn_X0_begin tm_X0_begin
theorem tr_X0_tryAgain : ∀ r ∈ tb_X0_tryAgain, pm_RowOk RX0 false cX0_tryAgain r := pm_mkrow td_X0_tryAgain tn_X0_tryAgain tm_X0_tryAgain
theorem tr_X0_take : ∀ r ∈ tb_X0_take, pm_RowOk RX0 false cX0_take r := pm_mkrow td_X0_take tn_X0_take tm_X0_take
theorem tr_X0_lookAt : ∀ r ∈ tb_X0_lookAt, pm_RowOk RX0 false cX0_lookAt r := pm_mkrow td_X0_lookAt tn_X0_lookAt tm_X0_lookAt
theorem tr_X0_countAcks : ∀ r ∈ tb_X0_countAcks, pm_RowOk RX0 false cX0_countAcks r := pm_mkrow td_X0_countAcks tn_X0_countAcks tm_X0_countAcks
theorem tr_X1_init : ∀ r ∈ tb_X1_init, pm_RowOk RX1 true cX1_init r := pm_mkrow td_X1_init tn_X1_init tm_X1_init
theorem tr_X1_add : ∀ r ∈ tb_X1_add, pm_RowOk RX1 false cX1_add r := pm_mkrow td_X1_add tn_X1_add tm_X1_add
theorem tr_X1_at : ∀ r ∈ tb_X1_at, pm_RowOk RX1 false cX1_at r := pm_mkrow td_X1_at tn_X1_at tm_X1_at
theorem tr_X1_placeOf : ∀ r ∈ tb_X1_placeOf, pm_RowOk RX1 false cX1_placeOf r := pm_mkrow td_X1_placeOf tn_X1_placeOf tm_X1_placeOf
theorem tr_X1_digest : ∀ r ∈ tb_X1_digest, pm_RowOk RX1 false cX1_digest r := pm_mkrow td_X1_digest tn_X1_digest tm_X1_digest
theorem tr_X1_beginsWith : ∀ r ∈ tb_X1_beginsWith, pm_RowOk RX1 false cX1_beginsWith r := pm_mkrow td_X1_beginsWith tn_X1_beginsWith tm_X1_beginsWith
theorem tr_X1_copy : ∀ r ∈ tb_X1_copy, pm_RowOk RX1 false cX1_copy r := pm_mkrow td_X1_copy tn_X1_copy tm_X1_copy
theorem tr_X1_digestWith : ∀ r ∈ tb_X1_digestWith, pm_RowOk RX1 false cX1_digestWith r := pm_mkrow td_X1_digestWith tn_X1_digestWith tm_X1_digestWith
theorem tr_X2_init : ∀ r ∈ tb_X2_init, pm_RowOk RX2 true cX2_init r := pm_mkrow td_X2_init tn_X2_init tm_X2_init
theorem tr_X2_samePoint : ∀ r ∈ tb_X2_samePoint, pm_RowOk RX2 false cX2_samePoint r := pm_mkrow td_X2_samePoint tn_X2_samePoint tm_X2_samePoint
theorem tr_X2_sameReply : ∀ r ∈ tb_X2_sameReply, pm_RowOk RX2 false cX2_sameReply r := pm_mkrow td_X2_sameReply tn_X2_sameReply tm_X2_sameReply
theorem tr_X3_init : ∀ r ∈ tb_X3_init, pm_RowOk RX3 true cX3_init r := pm_mkrow td_X3_init tn_X3_init tm_X3_init
theorem tr_X3_tell : ∀ r ∈ tb_X3_tell, pm_RowOk RX3 false cX3_tell r := pm_mkrow td_X3_tell tn_X3_tell tm_X3_tell
theorem tr_X4_init : ∀ r ∈ tb_X4_init, pm_RowOk RX4 true cX4_init r := pm_mkrow td_X4_init tn_X4_init tm_X4_init
theorem tr_X4_send : ∀ r ∈ tb_X4_send, pm_RowOk RX4 false cX4_send r := pm_mkrow td_X4_send tn_X4_send tm_X4_send
theorem tr_X4_sendToAll : ∀ r ∈ tb_X4_sendToAll, pm_RowOk RX4 false cX4_sendToAll r := pm_mkrow td_X4_sendToAll tn_X4_sendToAll tm_X4_sendToAll
theorem tr_X4_find : ∀ r ∈ tb_X4_find, pm_RowOk RX4 false cX4_find r := pm_mkrow td_X4_find tn_X4_find tm_X4_find
theorem tr_X5_init : ∀ r ∈ tb_X5_init, pm_RowOk RX5 true cX5_init r := pm_mkrow td_X5_init tn_X5_init tm_X5_init
theorem tr_X5_tell : ∀ r ∈ tb_X5_tell, pm_RowOk RX5 false cX5_tell r := pm_mkrow td_X5_tell tn_X5_tell tm_X5_tell
theorem tr_X5_fittingOrder : ∀ r ∈ tb_X5_fittingOrder, pm_RowOk RX5 false cX5_fittingOrder r := pm_mkrow td_X5_fittingOrder tn_X5_fittingOrder tm_X5_fittingOrder
theorem tr_X5_take : ∀ r ∈ tb_X5_take, pm_RowOk RX5 false cX5_take r := pm_mkrow td_X5_take tn_X5_take tm_X5_take
theorem tr_X5_endPatience : ∀ r ∈ tb_X5_endPatience, pm_RowOk RX5 false cX5_endPatience r := pm_mkrow td_X5_endPatience tn_X5_endPatience tm_X5_endPatience
theorem tr_X5_takeAsk : ∀ r ∈ tb_X5_takeAsk, pm_RowOk RX5 false cX5_takeAsk r := pm_mkrow td_X5_takeAsk tn_X5_takeAsk tm_X5_takeAsk
theorem tr_X5_takeOrder : ∀ r ∈ tb_X5_takeOrder, pm_RowOk RX5 false cX5_takeOrder r := pm_mkrow td_X5_takeOrder tn_X5_takeOrder tm_X5_takeOrder
theorem tr_X5_takeProof : ∀ r ∈ tb_X5_takeProof, pm_RowOk RX5 false cX5_takeProof r := pm_mkrow td_X5_takeProof tn_X5_takeProof tm_X5_takeProof
theorem tr_X5_takeHate : ∀ r ∈ tb_X5_takeHate, pm_RowOk RX5 false cX5_takeHate r := pm_mkrow td_X5_takeHate tn_X5_takeHate tm_X5_takeHate
theorem tr_X5_changeView : ∀ r ∈ tb_X5_changeView, pm_RowOk RX5 false cX5_changeView r := pm_mkrow td_X5_changeView tn_X5_changeView tm_X5_changeView
theorem tr_X5_keepChange : ∀ r ∈ tb_X5_keepChange, pm_RowOk RX5 false cX5_keepChange r := pm_mkrow td_X5_keepChange tn_X5_keepChange tm_X5_keepChange
theorem tr_X5_mayTurn : ∀ r ∈ tb_X5_mayTurn, pm_RowOk RX5 false cX5_mayTurn r := pm_mkrow td_X5_mayTurn tn_X5_mayTurn tm_X5_mayTurn
theorem tr_X5_countChanges : ∀ r ∈ tb_X5_countChanges, pm_RowOk RX5 false cX5_countChanges r := pm_mkrow td_X5_countChanges tn_X5_countChanges tm_X5_countChanges
theorem tr_X5_changedHistory : ∀ r ∈ tb_X5_changedHistory, pm_RowOk RX5 false cX5_changedHistory r := pm_mkrow td_X5_changedHistory tn_X5_changedHistory tm_X5_changedHistory
theorem tr_X5_mergeChanges : ∀ r ∈ tb_X5_mergeChanges, pm_RowOk RX5 false cX5_mergeChanges r := pm_mkrow td_X5_mergeChanges tn_X5_mergeChanges tm_X5_mergeChanges
theorem tr_X5_mostFixed : ∀ r ∈ tb_X5_mostFixed, pm_RowOk RX5 false cX5_mostFixed r := pm_mkrow td_X5_mostFixed tn_X5_mostFixed tm_X5_mostFixed
theorem tr_X5_agreedNext : ∀ r ∈ tb_X5_agreedNext, pm_RowOk RX5 false cX5_agreedNext r := pm_mkrow td_X5_agreedNext tn_X5_agreedNext tm_X5_agreedNext
theorem tr_X5_nextAfter : ∀ r ∈ tb_X5_nextAfter, pm_RowOk RX5 false cX5_nextAfter r := pm_mkrow td_X5_nextAfter tn_X5_nextAfter tm_X5_nextAfter
theorem tr_X5_turnTo : ∀ r ∈ tb_X5_turnTo, pm_RowOk RX5 false cX5_turnTo r := pm_mkrow td_X5_turnTo tn_X5_turnTo tm_X5_turnTo
theorem tr_X5_doNext : ∀ r ∈ tb_X5_doNext, pm_RowOk RX5 false cX5_doNext r := pm_mkrow td_X5_doNext tn_X5_doNext tm_X5_doNext
theorem tr_X5_orderOf : ∀ r ∈ tb_X5_orderOf, pm_RowOk RX5 false cX5_orderOf r := pm_mkrow td_X5_orderOf tn_X5_orderOf tm_X5_orderOf
theorem tr_X5_reply : ∀ r ∈ tb_X5_reply, pm_RowOk RX5 false cX5_reply r := pm_mkrow td_X5_reply tn_X5_reply tm_X5_reply
theorem tr_X6_init : ∀ r ∈ tb_X6_init, pm_RowOk RX6 true cX6_init r := pm_mkrow td_X6_init tn_X6_init tm_X6_init
theorem tr_X6_doOn : ∀ r ∈ tb_X6_doOn, pm_RowOk RX6 false cX6_doOn r := pm_mkrow td_X6_doOn tn_X6_doOn tm_X6_doOn
theorem tr_X6_keep : ∀ r ∈ tb_X6_keep, pm_RowOk RX6 false cX6_keep r := pm_mkrow td_X6_keep tn_X6_keep tm_X6_keep
theorem tr_X6_agreedBy : ∀ r ∈ tb_X6_agreedBy, pm_RowOk RX6 false cX6_agreedBy r := pm_mkrow td_X6_agreedBy tn_X6_agreedBy tm_X6_agreedBy
theorem tr_X6_countLike : ∀ r ∈ tb_X6_countLike, pm_RowOk RX6 false cX6_countLike r := pm_mkrow td_X6_countLike tn_X6_countLike tm_X6_countLike
theorem tr_X6_finish : ∀ r ∈ tb_X6_finish, pm_RowOk RX6 false cX6_finish r := pm_mkrow td_X6_finish tn_X6_finish tm_X6_finish
theorem tr_X6_tell : ∀ r ∈ tb_X6_tell, pm_RowOk RX6 false cX6_tell r := pm_mkrow td_X6_tell tn_X6_tell tm_X6_tell
theorem tr_X6_countReplies : ∀ r ∈ tb_X6_countReplies, pm_RowOk RX6 false cX6_countReplies r := pm_mkrow td_X6_countReplies tn_X6_countReplies tm_X6_countReplies
theorem tr_X7_init : ∀ r ∈ tb_X7_init, pm_RowOk RX7 true cX7_init r := pm_mkrow td_X7_init tn_X7_init tm_X7_init
theorem tr_X7_issue : ∀ r ∈ tb_X7_issue, pm_RowOk RX7 false cX7_issue r := pm_mkrow td_X7_issue tn_X7_issue tm_X7_issue
theorem tr_X7_retry : ∀ r ∈ tb_X7_retry, pm_RowOk RX7 false cX7_retry r := pm_mkrow td_X7_retry tn_X7_retry tm_X7_retry
theorem tr_X7_deliver : ∀ r ∈ tb_X7_deliver, pm_RowOk RX7 false cX7_deliver r := pm_mkrow td_X7_deliver tn_X7_deliver tm_X7_deliver
theorem tr_X7_flood : ∀ r ∈ tb_X7_flood, pm_RowOk RX7 false cX7_flood r := pm_mkrow td_X7_flood tn_X7_flood tm_X7_flood
theorem tr_X7_lose : ∀ r ∈ tb_X7_lose, pm_RowOk RX7 false cX7_lose r := pm_mkrow td_X7_lose tn_X7_lose tm_X7_lose
theorem tr_X7_patience : ∀ r ∈ tb_X7_patience, pm_RowOk RX7 false cX7_patience r := pm_mkrow td_X7_patience tn_X7_patience tm_X7_patience
theorem tr_X7_lie : ∀ r ∈ tb_X7_lie, pm_RowOk RX7 false cX7_lie r := pm_mkrow td_X7_lie tn_X7_lie tm_X7_lie
theorem tr_X7_echo : ∀ r ∈ tb_X7_echo, pm_RowOk RX7 false cX7_echo r := pm_mkrow td_X7_echo tn_X7_echo tm_X7_echo
theorem tr_X7_replica : ∀ r ∈ tb_X7_replica, pm_RowOk RX7 false cX7_replica r := pm_mkrow td_X7_replica tn_X7_replica tm_X7_replica
theorem tr_X7_messages : ∀ r ∈ tb_X7_messages, pm_RowOk RX7 false cX7_messages r := pm_mkrow td_X7_messages tn_X7_messages tm_X7_messages
theorem tr_X7_message : ∀ r ∈ tb_X7_message, pm_RowOk RX7 false cX7_message r := pm_mkrow td_X7_message tn_X7_message tm_X7_message
theorem tr_X7_request : ∀ r ∈ tb_X7_request, pm_RowOk RX7 false cX7_request r := pm_mkrow td_X7_request tn_X7_request tm_X7_request
theorem tr_X7_view : ∀ r ∈ tb_X7_view, pm_RowOk RX7 false cX7_view r := pm_mkrow td_X7_view tn_X7_view tm_X7_view
theorem tr_X7_handOver : ∀ r ∈ tb_X7_handOver, pm_RowOk RX7 false cX7_handOver r := pm_mkrow td_X7_handOver tn_X7_handOver tm_X7_handOver
theorem tr_X7_isReplica : ∀ r ∈ tb_X7_isReplica, pm_RowOk RX7 false cX7_isReplica r := pm_mkrow td_X7_isReplica tn_X7_isReplica tm_X7_isReplica
theorem tr_X7_primaryOf : ∀ r ∈ tb_X7_primaryOf, pm_RowOk RX7 false cX7_primaryOf r := pm_mkrow td_X7_primaryOf tn_X7_primaryOf tm_X7_primaryOf
theorem tr_X7_askFor : ∀ r ∈ tb_X7_askFor, pm_RowOk RX7 false cX7_askFor r := pm_mkrow td_X7_askFor tn_X7_askFor tm_X7_askFor
theorem tr_X8_init : ∀ r ∈ tb_X8_init, pm_RowOk RX8 true cX8_init r := pm_mkrow td_X8_init tn_X8_init tm_X8_init
theorem tr_X8_thrown : ∀ r ∈ tb_X8_thrown, pm_RowOk RX8 false cX8_thrown r := pm_mkrow td_X8_thrown tn_X8_thrown tm_X8_thrown
theorem tr_X8_refuse : ∀ r ∈ tb_X8_refuse, pm_RowOk RX8 false cX8_refuse r := pm_mkrow td_X8_refuse tn_X8_refuse tm_X8_refuse
theorem tr_X8_at : ∀ r ∈ tb_X8_at, pm_RowOk RX8 false cX8_at r := pm_mkrow td_X8_at tn_X8_at tm_X8_at
theorem tr_X8_with : ∀ r ∈ tb_X8_with, pm_RowOk RX8 false cX8_with r := pm_mkrow td_X8_with tn_X8_with tm_X8_with
theorem tr_X8_begin : ∀ r ∈ tb_X8_begin, pm_RowOk RX8 false cX8_begin r := pm_mkrow td_X8_begin tn_X8_begin tm_X8_begin
theorem tr_X8_digestOf : ∀ r ∈ tb_X8_digestOf, pm_RowOk RX8 false cX8_digestOf r := pm_mkrow td_X8_digestOf tn_X8_digestOf tm_X8_digestOf
theorem tr_X8_placeIn : ∀ r ∈ tb_X8_placeIn, pm_RowOk RX8 false cX8_placeIn r := pm_mkrow td_X8_placeIn tn_X8_placeIn tm_X8_placeIn
theorem tr_X8_work : ∀ r ∈ tb_X8_work, pm_RowOk RX8 false cX8_work r := pm_mkrow td_X8_work tn_X8_work tm_X8_work
theorem tr_X8_send : ∀ r ∈ tb_X8_send, pm_RowOk RX8 false cX8_send r := pm_mkrow td_X8_send tn_X8_send tm_X8_send
theorem tr_X8_sendToAll : ∀ r ∈ tb_X8_sendToAll, pm_RowOk RX8 false cX8_sendToAll r := pm_mkrow td_X8_sendToAll tn_X8_sendToAll tm_X8_sendToAll
theorem tr_X8_sendRow : ∀ r ∈ tb_X8_sendRow, pm_RowOk RX8 false cX8_sendRow r := pm_mkrow td_X8_sendRow tn_X8_sendRow tm_X8_sendRow
theorem tr_X8_reply : ∀ r ∈ tb_X8_reply, pm_RowOk RX8 false cX8_reply r := pm_mkrow td_X8_reply tn_X8_reply tm_X8_reply
theorem tr_X8_order : ∀ r ∈ tb_X8_order, pm_RowOk RX8 false cX8_order r := pm_mkrow td_X8_order tn_X8_order tm_X8_order
theorem tr_X8_isPrimary : ∀ r ∈ tb_X8_isPrimary, pm_RowOk RX8 false cX8_isPrimary r := pm_mkrow td_X8_isPrimary tn_X8_isPrimary tm_X8_isPrimary
theorem tr_X8_append : ∀ r ∈ tb_X8_append, pm_RowOk RX8 false cX8_append r := pm_mkrow td_X8_append tn_X8_append tm_X8_append
theorem tr_X8_takeAsk : ∀ r ∈ tb_X8_takeAsk, pm_RowOk RX8 false cX8_takeAsk r := pm_mkrow td_X8_takeAsk tn_X8_takeAsk tm_X8_takeAsk
theorem tr_X8_takeOrder : ∀ r ∈ tb_X8_takeOrder, pm_RowOk RX8 false cX8_takeOrder r := pm_mkrow td_X8_takeOrder tn_X8_takeOrder tm_X8_takeOrder
theorem tr_X8_takeProof : ∀ r ∈ tb_X8_takeProof, pm_RowOk RX8 false cX8_takeProof r := pm_mkrow td_X8_takeProof tn_X8_takeProof tm_X8_takeProof
theorem tr_X8_bits : ∀ r ∈ tb_X8_bits, pm_RowOk RX8 false cX8_bits r := pm_mkrow td_X8_bits tn_X8_bits tm_X8_bits
theorem tr_X8_takeHate : ∀ r ∈ tb_X8_takeHate, pm_RowOk RX8 false cX8_takeHate r := pm_mkrow td_X8_takeHate tn_X8_takeHate tm_X8_takeHate
theorem tr_X8_takeChange : ∀ r ∈ tb_X8_takeChange, pm_RowOk RX8 false cX8_takeChange r := pm_mkrow td_X8_takeChange tn_X8_takeChange tm_X8_takeChange
theorem tr_X8_safest : ∀ r ∈ tb_X8_safest, pm_RowOk RX8 false cX8_safest r := pm_mkrow td_X8_safest tn_X8_safest tm_X8_safest
theorem tr_X8_goesOn : ∀ r ∈ tb_X8_goesOn, pm_RowOk RX8 false cX8_goesOn r := pm_mkrow td_X8_goesOn tn_X8_goesOn tm_X8_goesOn
theorem tr_X8_nextOf : ∀ r ∈ tb_X8_nextOf, pm_RowOk RX8 false cX8_nextOf r := pm_mkrow td_X8_nextOf tn_X8_nextOf tm_X8_nextOf
theorem tr_X8_makeNew : ∀ r ∈ tb_X8_makeNew, pm_RowOk RX8 false cX8_makeNew r := pm_mkrow td_X8_makeNew tn_X8_makeNew tm_X8_makeNew
theorem tr_X8_turn : ∀ r ∈ tb_X8_turn, pm_RowOk RX8 false cX8_turn r := pm_mkrow td_X8_turn tn_X8_turn tm_X8_turn
theorem tr_X8_takeNew : ∀ r ∈ tb_X8_takeNew, pm_RowOk RX8 false cX8_takeNew r := pm_mkrow td_X8_takeNew tn_X8_takeNew tm_X8_takeNew
theorem tr_X8_take : ∀ r ∈ tb_X8_take, pm_RowOk RX8 false cX8_take r := pm_mkrow td_X8_take tn_X8_take tm_X8_take
theorem tr_X8_areAlike : ∀ r ∈ tb_X8_areAlike, pm_RowOk RX8 false cX8_areAlike r := pm_mkrow td_X8_areAlike tn_X8_areAlike tm_X8_areAlike
theorem tr_X8_alike : ∀ r ∈ tb_X8_alike, pm_RowOk RX8 false cX8_alike r := pm_mkrow td_X8_alike tn_X8_alike tm_X8_alike
theorem tr_X8_finish : ∀ r ∈ tb_X8_finish, pm_RowOk RX8 false cX8_finish r := pm_mkrow td_X8_finish tn_X8_finish tm_X8_finish
theorem tr_X8_look : ∀ r ∈ tb_X8_look, pm_RowOk RX8 false cX8_look r := pm_mkrow td_X8_look tn_X8_look tm_X8_look
theorem tr_X8_takeReply : ∀ r ∈ tb_X8_takeReply, pm_RowOk RX8 false cX8_takeReply r := pm_mkrow td_X8_takeReply tn_X8_takeReply tm_X8_takeReply
theorem tr_X8_takeAck : ∀ r ∈ tb_X8_takeAck, pm_RowOk RX8 false cX8_takeAck r := pm_mkrow td_X8_takeAck tn_X8_takeAck tm_X8_takeAck
theorem tr_X8_issue : ∀ r ∈ tb_X8_issue, pm_RowOk RX8 false cX8_issue r := pm_mkrow td_X8_issue tn_X8_issue tm_X8_issue
theorem tr_X8_isRequest : ∀ r ∈ tb_X8_isRequest, pm_RowOk RX8 false cX8_isRequest r := pm_mkrow td_X8_isRequest tn_X8_isRequest tm_X8_isRequest
theorem tr_X8_retry : ∀ r ∈ tb_X8_retry, pm_RowOk RX8 false cX8_retry r := pm_mkrow td_X8_retry tn_X8_retry tm_X8_retry
theorem tr_X8_isUnderWay : ∀ r ∈ tb_X8_isUnderWay, pm_RowOk RX8 false cX8_isUnderWay r := pm_mkrow td_X8_isUnderWay tn_X8_isUnderWay tm_X8_isUnderWay
theorem tr_X8_deliver : ∀ r ∈ tb_X8_deliver, pm_RowOk RX8 false cX8_deliver r := pm_mkrow td_X8_deliver tn_X8_deliver tm_X8_deliver
theorem tr_X8_flood : ∀ r ∈ tb_X8_flood, pm_RowOk RX8 false cX8_flood r := pm_mkrow td_X8_flood tn_X8_flood tm_X8_flood
theorem tr_X8_lose : ∀ r ∈ tb_X8_lose, pm_RowOk RX8 false cX8_lose r := pm_mkrow td_X8_lose tn_X8_lose tm_X8_lose
theorem tr_X8_isReplica : ∀ r ∈ tb_X8_isReplica, pm_RowOk RX8 false cX8_isReplica r := pm_mkrow td_X8_isReplica tn_X8_isReplica tm_X8_isReplica
theorem tr_X8_refuseThis : ∀ r ∈ tb_X8_refuseThis, pm_RowOk RX8 false cX8_refuseThis r := pm_mkrow td_X8_refuseThis tn_X8_refuseThis tm_X8_refuseThis
theorem tr_X8_patience : ∀ r ∈ tb_X8_patience, pm_RowOk RX8 false cX8_patience r := pm_mkrow td_X8_patience tn_X8_patience tm_X8_patience
theorem tr_X8_lie : ∀ r ∈ tb_X8_lie, pm_RowOk RX8 false cX8_lie r := pm_mkrow td_X8_lie tn_X8_lie tm_X8_lie
theorem tr_X8_echo : ∀ r ∈ tb_X8_echo, pm_RowOk RX8 false cX8_echo r := pm_mkrow td_X8_echo tn_X8_echo tm_X8_echo
theorem tr_X8_replica : ∀ r ∈ tb_X8_replica, pm_RowOk RX8 false cX8_replica r := pm_mkrow td_X8_replica tn_X8_replica tm_X8_replica
theorem tr_X8_messages : ∀ r ∈ tb_X8_messages, pm_RowOk RX8 false cX8_messages r := pm_mkrow td_X8_messages tn_X8_messages tm_X8_messages
theorem tr_X8_message : ∀ r ∈ tb_X8_message, pm_RowOk RX8 false cX8_message r := pm_mkrow td_X8_message tn_X8_message tm_X8_message
theorem tr_X8_replies : ∀ r ∈ tb_X8_replies, pm_RowOk RX8 false cX8_replies r := pm_mkrow td_X8_replies tn_X8_replies tm_X8_replies
theorem tr_X8_request : ∀ r ∈ tb_X8_request, pm_RowOk RX8 false cX8_request r := pm_mkrow td_X8_request tn_X8_request tm_X8_request
theorem tr_X8_view : ∀ r ∈ tb_X8_view, pm_RowOk RX8 false cX8_view r := pm_mkrow td_X8_view tn_X8_view tm_X8_view
theorem tr_J6_bitCount_0f7a4 : ∀ r ∈ tb_J6_bitCount_0f7a4, pm_RowOk RJ6 false cJ6_bitCount_0f7a4 r := pm_mkrow td_J6_bitCount_0f7a4 tn_J6_bitCount_0f7a4 tm_J6_bitCount_0f7a4
theorem tr_L_cell : ∀ r ∈ tb_L_cell, pm_RowOk RL false cL_cell r := pm_mkrow td_L_cell tn_L_cell tm_L_cell
theorem tr_L_issue : ∀ r ∈ tb_L_issue, pm_RowOk RL false cL_issue r := pm_mkrow td_L_issue tn_L_issue tm_L_issue
theorem tr_L_retry : ∀ r ∈ tb_L_retry, pm_RowOk RL false cL_retry r := pm_mkrow td_L_retry tn_L_retry tm_L_retry
theorem tr_L_flood : ∀ r ∈ tb_L_flood, pm_RowOk RL false cL_flood r := pm_mkrow td_L_flood tn_L_flood tm_L_flood
theorem tr_L_patience : ∀ r ∈ tb_L_patience, pm_RowOk RL false cL_patience r := pm_mkrow td_L_patience tn_L_patience tm_L_patience
theorem tr_L_lie : ∀ r ∈ tb_L_lie, pm_RowOk RL false cL_lie r := pm_mkrow td_L_lie tn_L_lie tm_L_lie
theorem tr_L_echo : ∀ r ∈ tb_L_echo, pm_RowOk RL false cL_echo r := pm_mkrow td_L_echo tn_L_echo tm_L_echo
theorem tr_L_replica : ∀ r ∈ tb_L_replica, pm_RowOk RL false cL_replica r := pm_mkrow td_L_replica tn_L_replica tm_L_replica
theorem tr_L_message : ∀ r ∈ tb_L_message, pm_RowOk RL false cL_message r := pm_mkrow td_L_message tn_L_message tm_L_message
theorem tr_L_request : ∀ r ∈ tb_L_request, pm_RowOk RL false cL_request r := pm_mkrow td_L_request tn_L_request tm_L_request
theorem tr_L_law : ∀ r ∈ tb_L_law, pm_RowOk RL false cL_law r := pm_mkrow td_L_law tn_L_law tm_L_law
theorem pm_rows (i : Nat) : ∀ r ∈ pm_tb i, pm_RowOk (pm_own i) (pm_ini i) (pm_b i) r := by
  match i with
  | 0 => exact tr_X0_init
  | 1 => exact tr_X0_find
  | 2 => exact tr_X0_begin
  | 3 => exact tr_X0_tryAgain
  | 4 => exact tr_X0_take
  | 5 => exact tr_X0_lookAt
  | 6 => exact tr_X0_countAcks
  | 7 => exact tr_X1_init
  | 8 => exact tr_X1_add
  | 9 => exact tr_X1_at
  | 10 => exact tr_X1_placeOf
  | 11 => exact tr_X1_digest
  | 12 => exact tr_X1_beginsWith
  | 13 => exact tr_X1_copy
  | 14 => exact tr_X1_digestWith
  | 15 => exact tr_X2_init
  | 16 => exact tr_X2_samePoint
  | 17 => exact tr_X2_sameReply
  | 18 => exact tr_X3_init
  | 19 => exact tr_X3_tell
  | 20 => exact tr_X4_init
  | 21 => exact tr_X4_send
  | 22 => exact tr_X4_sendToAll
  | 23 => exact tr_X4_find
  | 24 => exact tr_X5_init
  | 25 => exact tr_X5_tell
  | 26 => exact tr_X5_fittingOrder
  | 27 => exact tr_X5_take
  | 28 => exact tr_X5_endPatience
  | 29 => exact tr_X5_takeAsk
  | 30 => exact tr_X5_takeOrder
  | 31 => exact tr_X5_takeProof
  | 32 => exact tr_X5_takeHate
  | 33 => exact tr_X5_changeView
  | 34 => exact tr_X5_keepChange
  | 35 => exact tr_X5_mayTurn
  | 36 => exact tr_X5_countChanges
  | 37 => exact tr_X5_changedHistory
  | 38 => exact tr_X5_mergeChanges
  | 39 => exact tr_X5_mostFixed
  | 40 => exact tr_X5_agreedNext
  | 41 => exact tr_X5_nextAfter
  | 42 => exact tr_X5_turnTo
  | 43 => exact tr_X5_doNext
  | 44 => exact tr_X5_orderOf
  | 45 => exact tr_X5_reply
  | 46 => exact tr_X6_init
  | 47 => exact tr_X6_doOn
  | 48 => exact tr_X6_keep
  | 49 => exact tr_X6_agreedBy
  | 50 => exact tr_X6_countLike
  | 51 => exact tr_X6_finish
  | 52 => exact tr_X6_tell
  | 53 => exact tr_X6_countReplies
  | 54 => exact tr_X7_init
  | 55 => exact tr_X7_issue
  | 56 => exact tr_X7_retry
  | 57 => exact tr_X7_deliver
  | 58 => exact tr_X7_flood
  | 59 => exact tr_X7_lose
  | 60 => exact tr_X7_patience
  | 61 => exact tr_X7_lie
  | 62 => exact tr_X7_echo
  | 63 => exact tr_X7_replica
  | 64 => exact tr_X7_messages
  | 65 => exact tr_X7_message
  | 66 => exact tr_X7_request
  | 67 => exact tr_X7_view
  | 68 => exact tr_X7_handOver
  | 69 => exact tr_X7_isReplica
  | 70 => exact tr_X7_primaryOf
  | 71 => exact tr_X7_askFor
  | 72 => exact tr_X8_init
  | 73 => exact tr_X8_thrown
  | 74 => exact tr_X8_refuse
  | 75 => exact tr_X8_at
  | 76 => exact tr_X8_with
  | 77 => exact tr_X8_begin
  | 78 => exact tr_X8_digestOf
  | 79 => exact tr_X8_placeIn
  | 80 => exact tr_X8_work
  | 81 => exact tr_X8_send
  | 82 => exact tr_X8_sendToAll
  | 83 => exact tr_X8_sendRow
  | 84 => exact tr_X8_reply
  | 85 => exact tr_X8_order
  | 86 => exact tr_X8_isPrimary
  | 87 => exact tr_X8_append
  | 88 => exact tr_X8_takeAsk
  | 89 => exact tr_X8_takeOrder
  | 90 => exact tr_X8_takeProof
  | 91 => exact tr_X8_bits
  | 92 => exact tr_X8_takeHate
  | 93 => exact tr_X8_takeChange
  | 94 => exact tr_X8_safest
  | 95 => exact tr_X8_goesOn
  | 96 => exact tr_X8_nextOf
  | 97 => exact tr_X8_makeNew
  | 98 => exact tr_X8_turn
  | 99 => exact tr_X8_takeNew
  | 100 => exact tr_X8_take
  | 101 => exact tr_X8_areAlike
  | 102 => exact tr_X8_alike
  | 103 => exact tr_X8_finish
  | 104 => exact tr_X8_look
  | 105 => exact tr_X8_takeReply
  | 106 => exact tr_X8_takeAck
  | 107 => exact tr_X8_issue
  | 108 => exact tr_X8_isRequest
  | 109 => exact tr_X8_retry
  | 110 => exact tr_X8_isUnderWay
  | 111 => exact tr_X8_deliver
  | 112 => exact tr_X8_flood
  | 113 => exact tr_X8_lose
  | 114 => exact tr_X8_isReplica
  | 115 => exact tr_X8_refuseThis
  | 116 => exact tr_X8_patience
  | 117 => exact tr_X8_lie
  | 118 => exact tr_X8_echo
  | 119 => exact tr_X8_replica
  | 120 => exact tr_X8_messages
  | 121 => exact tr_X8_message
  | 122 => exact tr_X8_replies
  | 123 => exact tr_X8_request
  | 124 => exact tr_X8_view
  | 125 => exact tr_J6_bitCount_0f7a4
  | 126 => exact tr_L_cell
  | 127 => exact tr_L_issue
  | 128 => exact tr_L_retry
  | 129 => exact tr_L_flood
  | 130 => exact tr_L_patience
  | 131 => exact tr_L_lie
  | 132 => exact tr_L_echo
  | 133 => exact tr_L_replica
  | 134 => exact tr_L_message
  | 135 => exact tr_L_request
  | 136 => exact tr_L_law
  | n + 137 =>
    intro r hr
    have e : pm_tb (n + 137) = [] := by
      unfold pm_tb
      rw [List.getD_eq_getElem?_getD, List.getElem?_eq_none (by show pm_tbs.length ≤ n + 137; exact Nat.le_add_left _ _)]
      rfl
    rw [e] at hr
    cases hr
set_option maxRecDepth 100000 in
theorem tu_0 : u_ws RX0 TX0 5 = [117, 119, 121, 123, 125].filterMap (fun (i : Nat) => lw_tbl[i]?) ∧ (u_ws RX0 TX0 5).all goodWord = true := by decide +kernel
set_option maxRecDepth 100000 in
theorem tu_1 : u_ws RX1 TX1 3 = [147, 149, 151].filterMap (fun (i : Nat) => lw_tbl[i]?) ∧ (u_ws RX1 TX1 3).all goodWord = true := by decide +kernel
set_option maxRecDepth 100000 in
theorem tu_2 : u_ws RX2 TX2 7 = [324, 326, 328, 330, 332, 334, 336].filterMap (fun (i : Nat) => lw_tbl[i]?) ∧ (u_ws RX2 TX2 7).all goodWord = true := by decide +kernel
set_option maxRecDepth 100000 in
theorem tu_3 : u_ws RX3 TX3 4 = [356, 358, 360, 362].filterMap (fun (i : Nat) => lw_tbl[i]?) ∧ (u_ws RX3 TX3 4).all goodWord = true := by decide +kernel
set_option maxRecDepth 100000 in
theorem tu_4 : u_ws RX4 TX4 2 = [94, 96].filterMap (fun (i : Nat) => lw_tbl[i]?) ∧ (u_ws RX4 TX4 2).all goodWord = true := by decide +kernel
set_option maxRecDepth 100000 in
theorem tu_5 : u_ws RX5 TX5 11 = [170, 172, 174, 176, 178, 180, 182, 184, 186, 188, 190].filterMap (fun (i : Nat) => lw_tbl[i]?) ∧ (u_ws RX5 TX5 11).all goodWord = true := by decide +kernel
set_option maxRecDepth 100000 in
theorem tu_6 : u_ws RX6 TX6 8 = [594, 596, 598, 600, 602, 604, 606, 608].filterMap (fun (i : Nat) => lw_tbl[i]?) ∧ (u_ws RX6 TX6 8).all goodWord = true := by decide +kernel
set_option maxRecDepth 100000 in
theorem tu_7 : u_ws RX7 TX7 4 = [197, 199, 201, 203].filterMap (fun (i : Nat) => lw_tbl[i]?) ∧ (u_ws RX7 TX7 4).all goodWord = true := by decide +kernel
set_option maxRecDepth 100000 in
theorem tu_8 : u_ws RX8 TX8 46 = [780, 782, 784, 786, 788, 790, 792, 794, 796, 798, 800, 802, 804, 806, 808, 810, 812, 814, 816, 818, 820, 822, 824, 826, 828, 830, 832, 834, 836, 838, 840, 842, 844, 846, 848, 850, 852, 854, 856, 858, 860, 862, 864, 866, 868, 870].filterMap (fun (i : Nat) => lw_tbl[i]?) ∧ (u_ws RX8 TX8 46).all goodWord = true := by decide +kernel
theorem pm_inG {l : List Cond} {ps : List Nat} (h : l = ps.filterMap (fun (i : Nat) => lw_tbl[i]?) ∧ l.all goodWord = true) : ∀ w ∈ l, w ∈ pm_G := by
  intro w hw
  have g := List.all_eq_true.mp h.2 w hw
  rw [h.1] at hw
  obtain ⟨i, -, hi⟩ := List.mem_filterMap.mp hw
  exact List.mem_filter.mpr ⟨List.mem_of_getElem? hi, g⟩
theorem pm_at_row {i pc : Nat} {r : Instr × Nat × List Nat} (h : pm_at i pc = some r) : (pc, r) ∈ pm_tb i := by
  unfold pm_at at h
  cases hf : (pm_tb i).find? (fun r => r.1 == pc) with
  | none => rw [hf] at h; cases h
  | some q =>
    rw [hf] at h
    have h1 := List.find?_some hf
    have h2 := List.mem_of_find?_eq_some hf
    cases h
    have : q.1 = pc := by simpa using h1
    rw [← this]
    exact h2
theorem pm_row {i pc : Nat} {r : Instr × Nat × List Nat} (h : pm_at i pc = some r) : pm_RowOk (pm_own i) (pm_ini i) (pm_b i) (pc, r) := pm_rows i _ (pm_at_row h)
theorem pm_usT : ∀ (ci : Nat) (q : vw_C), vwCl[ci]? = some q → ∀ w ∈ u_ws q.1 q.2.1 q.2.2, w ∈ pm_G := by
  intro ci q h
  match ci, h with
  | 0, h => cases h; exact pm_inG tu_0
  | 1, h => cases h; exact pm_inG tu_1
  | 2, h => cases h; exact pm_inG tu_2
  | 3, h => cases h; exact pm_inG tu_3
  | 4, h => cases h; exact pm_inG tu_4
  | 5, h => cases h; exact pm_inG tu_5
  | 6, h => cases h; exact pm_inG tu_6
  | 7, h => cases h; exact pm_inG tu_7
  | 8, h => cases h; exact pm_inG tu_8
  | n + 9, h => simp [vwCl] at h
end
section
/-! a run, taken apart; its references and counts -/
theorem pm_Ok2.rf {s : pm_S} (h : pm_okS s) : pm_Ok2 s s := ⟨h, Nat.le_refl _, Nat.le_refl _, Nat.le_refl _⟩
theorem pm_Ok2.tr {s0 s1 s2 : pm_S} (h1 : pm_Ok2 s0 s1) (h2 : pm_Ok2 s1 s2) : pm_Ok2 s0 s2 := ⟨h2.1, Nat.le_trans h1.2.1 h2.2.1, Nat.le_trans h1.2.2.1 h2.2.2.1, Nat.le_trans h1.2.2.2 h2.2.2.2⟩
theorem pm_step_at {sc : pm_Sc} {i : Nat} {s : pm_S} {r : pm_S ⊕ pm_K} (h : pm_step sc i s = some r) : ∃ a, pm_at i s.1 = some a ∧ pm_do sc (pm_nL i) (pm_rk i) pm_np pm_mc pm_rk a.1 a.2.2 s.1 s.2.1 s.2.2.1 s.2.2.2 = some r := by
  unfold pm_step at h
  split at h
  · next a ha => exact ⟨a, ha, h⟩
  · cases h
theorem pm_entry_ok {s : pm_S} {as : List Value} (O : pm_okS s) (h : ∀ v ∈ as, v ∈ s.2.2.1) : pm_okS (0, lv_args 0 as, [], s.2.2.2) := ⟨fun q hq => O.2.1 _ (h _ (pm_args_mem as 0 q hq)), fun v hv => (by cases hv), O.2.2⟩
theorem pm_back_ok {s o : pm_S} {a lv' : pm_L} {pc' k n : Nat} {st' : List Value} (O : pm_okS s) (E : pm_Ok2 (0, a, [], s.2.2.2) o) (hlv : ∀ q ∈ lv', q ∈ s.2.1) (hst : ∀ v ∈ st', v ∈ s.2.2.1 ∨ v ∈ o.2.2.1) (hk : o.2.2.2.2.1 ≤ k) (hn : o.2.2.2.2.2 ≤ n) : pm_Ok2 s (pc', lv', st', (o.2.2.2.1, k, n)) := by
  obtain ⟨e1, e2, e3, e4⟩ := E
  refine ⟨⟨fun q hq => pm_okv_mono e4 (O.1 q (hlv q hq)), fun v hv => ?_, e1.2.2⟩, Nat.le_trans e2 hk, Nat.le_trans e3 hn, e4⟩
  rcases hst v hv with z | z
  · exact pm_okv_mono e4 (O.2.1 v z)
  · exact e1.2.1 v z
theorem pm_ev_inv {sc : pm_Sc} {n i : Nat} {s o : pm_S} (h : pm_ev sc (n + 1) i s = some o) :
    (pm_term i s.1 = true ∧ o = s) ∨ (∃ s', pm_step sc i s = some (.inl s') ∧ pm_ev sc n i s' = some o) ∨
    (∃ (k : pm_K) (w : pm_S) (v : Option Value), pm_step sc i s = some (.inr k) ∧ pm_sum k.2.1 ≤ pm_nL k.1 ∧ pm_ev sc n k.1 (0, lv_args 0 k.2.1, [], s.2.2.2) = some w ∧ pm_ret k.1 w = some (.inl v) ∧ pm_ev sc n i (s.1 + 3, s.2.1, v.toList ++ k.2.2, w.2.2.2) = some o) ∨
    (∃ (k : pm_K) (w : pm_S) (x : Nat) (q : Nat × Nat × Nat × Nat × Nat × Nat), pm_step sc i s = some (.inr k) ∧ pm_sum k.2.1 ≤ pm_nL k.1 ∧ pm_ev sc n k.1 (0, lv_args 0 k.2.1, [], s.2.2.2) = some w ∧ pm_ret k.1 w = some (.inr x) ∧ pm_hnd (pm_hn i) s.1 x = some q ∧ pm_ev sc n i (q.2.2.2.2.2, pm_dr s.2.1 q.2.2.2.2.1, [], (w.2.2.2.1, w.2.2.2.2.1 + 1, w.2.2.2.2.2 + 6)) = some o) := by
  rw [pm_ev] at h
  split at h
  · next ht => cases h; exact Or.inl ⟨ht, rfl⟩
  · split at h
    · cases h
    · next s' hs => exact Or.inr (Or.inl ⟨s', hs, h⟩)
    · next k hs =>
      split at h
      · next hsum =>
        split at h
        · cases h
        · next w hw =>
          split at h
          · cases h
          · next v hv => exact Or.inr (Or.inr (Or.inl ⟨k, w, v, hs, hsum, hw, hv, h⟩))
          · next x hx =>
            split at h
            · cases h
            · next q hq => exact Or.inr (Or.inr (Or.inr ⟨k, w, x, q, hs, hsum, hw, hx, hq, h⟩))
      · cases h
theorem pm_ret_ok {i : Nat} {o : pm_S} {v : Option Value} {r : List Value} (h : pm_ret i o = some (.inl v)) {P : Value → Prop} (h1 : ∀ x ∈ o.2.2.1, P x) (h2 : ∀ x ∈ r, P x) : ∀ x ∈ v.toList ++ r, P x := by
  intro x hx
  rcases List.mem_append.mp hx with z | z
  · cases v with
    | none => cases z
    | some y => rw [List.mem_singleton.mp z]; exact h1 y (pm_ret_mem h)
  · exact h2 x z
theorem pm_dr_sub {lv : pm_L} {i : Nat} : ∀ q ∈ pm_dr lv i, q ∈ lv := fun q hq => (List.mem_filter.mp hq).1
theorem pm_ev_ok (sc : pm_Sc) : ∀ (n i : Nat) (s o : pm_S), pm_ev sc n i s = some o → pm_okS s → pm_Ok2 s o := by
  intro n
  induction n with
  | zero => intro i s o h; rw [pm_ev] at h; cases h
  | succ n ih =>
    intro i s o h O
    rcases pm_ev_inv h with ⟨-, rfl⟩ | ⟨s', hs, h⟩ | ⟨k, w, v, hs, -, hw, hv, h⟩ | ⟨k, w, x, q, hs, -, hw, -, -, h⟩
    · exact .rf O
    · obtain ⟨a, -, hd⟩ := pm_step_at hs
      have h1 : pm_Ok2 s s' := pm_do_ok hd O
      exact h1.tr (ih i s' o h h1.1)
    · obtain ⟨a, -, hd⟩ := pm_step_at hs
      obtain ⟨m1, m2⟩ := pm_do_sub hd
      have E := ih _ _ _ hw (pm_entry_ok O m1)
      have B : pm_Ok2 s (s.1 + 3, s.2.1, v.toList ++ k.2.2, w.2.2.2) := pm_back_ok O E (fun q hq => hq) (pm_ret_ok hv (fun x hx => Or.inr hx) (fun x hx => Or.inl (m2 x hx))) (Nat.le_refl _) (Nat.le_refl _)
      exact B.tr (ih _ _ _ h B.1)
    · obtain ⟨a, -, hd⟩ := pm_step_at hs
      obtain ⟨m1, m2⟩ := pm_do_sub hd
      have E := ih _ _ _ hw (pm_entry_ok O m1)
      have B : pm_Ok2 s (q.2.2.2.2.2, pm_dr s.2.1 q.2.2.2.2.1, [], (w.2.2.2.1, w.2.2.2.2.1 + 1, w.2.2.2.2.2 + 6)) := pm_back_ok O E pm_dr_sub (fun x hx => by cases hx) (Nat.le_succ _) (Nat.le_add_right _ _)
      exact B.tr (ih _ _ _ h B.1)
/-- more fuel changes nothing -/
theorem pm_ev_up (sc : pm_Sc) : ∀ (n i : Nat) (s o : pm_S), pm_ev sc n i s = some o → pm_ev sc (n + 1) i s = some o := by
  intro n
  induction n with
  | zero => intro i s o h; rw [pm_ev] at h; cases h
  | succ n ih =>
    intro i s o h
    rw [pm_ev] at h ⊢
    split at h
    · next ht => rw [if_pos ht]; exact h
    · next ht =>
      rw [if_neg ht]
      split at h
      · cases h
      · next s' hs => exact ih _ _ _ h
      · next k hs =>
        try dsimp only
        split at h
        · next hsum =>
          rw [if_pos hsum]
          split at h
          · cases h
          · next w hw =>
            rw [ih _ _ _ hw]
            try dsimp only
            split at h
            · cases h
            · exact ih _ _ _ h
            · try dsimp only
              split at h
              · cases h
              · exact ih _ _ _ h
        · cases h
theorem pm_ev_le (sc : pm_Sc) {n m i : Nat} {s o : pm_S} (hle : n ≤ m) (h : pm_ev sc n i s = some o) : pm_ev sc m i s = some o := by
  induction hle with
  | refl => exact h
  | step _ ih => exact pm_ev_up sc _ i s o ih
end
section
/-! ===== BEGIN words of one list among another's, by their places ===== -/
theorem goodIn_r {big : List Cond} (ws : List Cond) (ps : List Nat) (hp : ws = ps.filterMap (fun i => big[i]?)) (h : ws.all goodWord = true) : GoodIn big ws := by
  intro w hw
  have h1 := List.all_eq_true.mp h w hw
  rw [hp] at hw
  obtain ⟨i, -, hi⟩ := List.mem_filterMap.mp hw
  have hm : w ∈ big := by first | exact List.mem_of_getElem? hi | exact List.getElem?_mem hi
  exact ⟨hm, good_of_word h1⟩
theorem goodIn_app {big a b : List Cond} (ha : GoodIn big a) (hb : GoodIn big b) : GoodIn big (a ++ b) := fun w h => (List.mem_append.mp h).elim (ha w) (hb w)
theorem goodIn_ca {big a b : List Cond} {c : Cond} (ha : GoodIn big (c :: a)) (hb : GoodIn big b) : GoodIn big (c :: (a ++ b)) := fun w h => (List.mem_cons.mp h).elim (fun e => ha w (List.mem_cons.mpr (Or.inl e))) (fun h => (List.mem_append.mp h).elim (fun h => ha w (List.mem_cons.mpr (Or.inr h))) (hb w))
theorem goodIn_sub {big ws : List Cond} (hm : ∀ w ∈ ws, w ∈ big) (h : ws.all goodWord = true) : GoodIn big ws := fun w hw => ⟨hm w hw, good_of_word (List.all_eq_true.mp h w hw)⟩
/-! ===== END ===== -/

/-! ===== BEGIN exceptions that leave a method, and their catching by the caller (launches without stack traces) ===== -/
section VXA
/-! The laws vx_back, vx_callV, vx_callS, vx_callSW, vx_throw0, vx_throwS follow proofs of the library, with one case more: JvmDerived/Free/Laws.lean (Back.of_free), Shelf42/LK1.lean (callV, callS), Shelf/KitTraced.lean (throwNew0V, throwNewS). -/
/-- where a method has thrown q: the class by its name, the cell, what was written, the world -/
def vx_T (XC : String → State → State → Prop) (st : State) (q : Addr) (t : State) (mc ms : Nat) (free : Addr → Prop) : Prop :=
  ∃ (E : String) (ce : Cell) (L : List Loc), XC E st t ∧ t.heap[q]? = some ce ∧ ce.vm = .none ∧ st.vm.findClass E = some ce.cls ∧ st.WarmedH t.vm ∧ st.sameButNew ({ t with vm := st.vm } : State) L mc ms ∧ ∀ z ∈ L, free z.base
def vx_Q (Qc : Array Value → State → Outcome → State → Prop) (XC : String → State → State → Prop) (mc ms : Nat) (free : Addr → Prop) : Array Value → State → Outcome → State → Prop := fun a st o t =>
  (Qc a st o t ∧ ∃ L, FrameEnd st o t L mc ms ∧ ∀ q ∈ L, free q.base) ∨ ∃ q, o = .threw q ∧ vx_T XC st q t mc ms free
/-- a callee that returns or throws -/
def vx_Met (l : Launch) (y : MethodName) (ws : List Cond) (rm : Room) (Pc : Array Value → State → Prop) (Qc : Array Value → State → Outcome → State → Prop) (XC : String → State → State → Prop) (mc ms : Nat) (free : Addr → Prop) : Prop :=
  MetFree l y (headSpec ws rm) Pc (fun _ _ _ _ _ => True) (vx_Q Qc XC mc ms free)
def vx_Post (XC : String → State → State → Prop) (mc ms : Nat) (free : Addr → Prop) : Pt → Array Value → Addr → Pt → Prop := fun A a q B =>
  ∃ (g : JFrame) (mk : MethodId) (t : State) (L : List Loc) (E : String) (ce : Cell), B.U.heap = t.heap ∧ B.U.vm = t.vm ∧ XC E (A.U.calling g mk a) t ∧ t.heap[q]? = some ce ∧ ce.vm = .none ∧ A.U.vm.findClass E = some ce.cls ∧ B.locs = A.locs ++ L ∧ (∀ z ∈ L, free z.base) ∧ B.cells = A.cells + mc ∧ B.slots = A.slots + ms
def vx_Back (l : Launch) (R : Room) (p : Program) (e : Env) (below : List Frame) (s : State) (sargs : Array Value) (y : MethodName) (len W9 : Nat)
    (Pre : Pt → Array Value → Prop) (Post : Pt → Array Value → Option Value → Pt → Prop) (PostX : Pt → Array Value → Addr → Pt → Prop) : Prop :=
  ∀ (m : MethodId) (meth : Method) (c : Code) (A : Pt) (g : JFrame) (ig : Instr) (mk : MethodId) (a : Array Value),
    Stand p l e R s m sargs below meth c A.U A.locs A.cells A.slots → g.method = m → g.locals.size = c.maxLocals → decode c.code g.pc = .ok (ig, len) →
    2 * g.monitorRoom + (g.stack.map fun v => v.category).sum ≤ W9 → A.U.methodNamed? y = some mk → Pre A a →
    (∃ (v : Option Value) (B : Pt), Stand p l e R s m sargs below meth c B.U B.locs B.cells B.slots ∧ Post A a v B ∧
      Steps p.tables e below (doInvoke e (A.U.setTop g) [] mk a).1 (B.U.setTop { g with pc := g.pc + len, stack := v.toList ++ g.stack })) ∨
    (∃ (q : Addr) (B : Pt), Stand p l e R s m sargs below meth c B.U B.locs B.cells B.slots ∧ PostX A a q B ∧
      Steps p.tables e below (doInvoke e (A.U.setTop g) [] mk a).1 ((B.U.setTop g).pushFrame (.throwing q)))
section Payer
variable {l : Launch} {R : Room} {p : Program} {e : Env} {below : List Frame} {s : State} {sargs : Array Value} {y : MethodName} {len W9 : Nat}
theorem vx_back {ws : List Cond} {rm : Room} {Pc : Array Value → State → Prop} {Qc : Array Value → State → Outcome → State → Prop} {XC : String → State → State → Prop} {mc ms : Nat} {free : Addr → Prop} {bytes : ByteArray} {maxL : Nat} {ret : Option FieldType}
    (hM : vx_Met l y ws rm Pc Qc XC mc ms free) (hblind : FrameBlind Pc) (hrc : rm.cells = mc) (hrs : rm.slots = ms)
    (hframes : rm.frames + 1 ≤ R.frames) (hlocals : W9 + (maxL + 11) + rm.locals ≤ R.locals)
    (hws : ∀ w ∈ ws, ∀ a' U, s.WarmedH U.vm → w.before a' U = true) (hcode : Cond.code y bytes maxL ret ∈ ws) (hinit : ∀ a' U, s.WarmedH U.vm → (Cond.initialized y.cls).before a' U = true) :
    vx_Back l R p e below s sargs y len W9 (PreOf R mc ms Pc) (PostOf Qc mc ms free) (vx_Post XC mc ms free) := by
  intro m meth c A g ig mk a X hg hsize hdg hW hn hp
  have h1 : (headSpec ws rm).pre.before a A.U = true := atoms_intro fun w hw => hws w hw _ _ X.warmed
  have h2 : (Cond.code y bytes maxL ret).before a A.U = true := hws _ hcode _ _ X.warmed
  have h3 : (Cond.initialized y.cls).before a A.U = true := hinit _ _ X.warmed
  have h4 : A.cells + (headSpec ws rm).room.cells ≤ R.cells := by rw [show (headSpec ws rm).room.cells = mc from hrc]; exact hp.1
  have h5 : A.slots + (headSpec ws rm).room.slots ≤ R.slots := by rw [show (headSpec ws rm).room.slots = ms from hrs]; exact hp.2.1
  have hPc : Pc a (A.U.calling g mk a) := hblind _ _ _ _ hp.2.2
  obtain ⟨U, Ls, c0, s0⟩ := A
  dsimp only [Pt.U, Pt.locs, Pt.cells, Pt.slots] at h1 h2 h3 h4 h5 X hn hPc ⊢
  obtain ⟨methY, cY, hmY, hcY, -, hlY, -, -, -, -⟩ := Cond.code_spec hn h2
  obtain ⟨kY, hkY, -⟩ := className_of_methodNamed hn
  have hinitY : kY.init = .initialized := Cond.initialized_spec (findClass_of_methodNamed hn) hkY h3
  have h : At U g.method c below := by rw [hg]; exact X.here
  have hlocals9 : W9 + (maxL + 11) + (headSpec ws rm).room.locals ≤ R.locals := hlocals
  have happ : (headSpec ws rm).appliesLoose y e.platform (U.calling g mk a) = true :=
    Spec.appliesLoose_calling (g := g) h hdg hn hkY hinitY
      (X.room_calling (g := g) (R' := (headSpec ws rm).room) hsize hmY hcY hframes (by rw [hlY]; omega) h4 h5) h1
  obtain ⟨mid, hmid⟩ := h.above
  have hfr : (U.setTop g).frames = (.java g :: mid) ++ below := by rw [State.frames_setTop' g h.top, hmid]; rfl
  obtain ⟨o, s₂, hsteps, -, hend, hq⟩ := Steps.callFree hM p X.admits X.cas X.clock (acts := []) hfr happ hPc trivial
  have hq' : vx_Q Qc XC mc ms free a (U.calling g mk a) o s₂ := hq
  rw [State.frames_setTop' g h.top] at hend
  obtain ⟨g₀, hg0⟩ := Option.isSome_iff_exists.mp h.top
  obtain ⟨r, hr⟩ := State.topJava?_eq_some.mp hg0
  have hr' : (({ U with heap := s₂.heap, slotsUsed := s₂.slotsUsed } : State).setVm s₂.vm).frames = .java g₀ :: r := hr
  rcases hq' with ⟨hqc, L, hfe, hL⟩ | ⟨q, rfl, E, ce, L, hx, hce, hcv, hcl, hW₂, hsm, hL⟩
  · obtain ⟨⟨v, rfl⟩, hW₂, e2, q2, q3, q4, q5, q6⟩ := id hfe
    have e3 : s₂ = ({ (U.calling g mk a).setFrames s₂.frames with heap := s₂.heap, slotsUsed := s₂.slotsUsed } : State).setVm s₂.vm := by
      have : s₂ = ({ s₂ with vm := (U.calling g mk a).vm } : State).setVm s₂.vm := rfl
      rw [e2] at this
      exact this
    obtain ⟨c₂, i₂, len₂, hc₂, hd₂, hf₂⟩ := hend
    have hW' : U.WarmedH s₂.vm := hW₂
    have hcc : c₂ = c := by
      have h1 : s₂.code? g.method = U.code? g.method := by
        rw [State.code?_eq, State.code?_eq, hW'.alike.method?]
      exact Option.some.inj (hc₂.symm.trans (h1.trans h.code))
    subst hcc
    have hlen : len₂ = len := by rw [hdg] at hd₂; cases hd₂; rfl
    subst hlen
    have hs₂ : s₂ = (({ U with heap := s₂.heap, slotsUsed := s₂.slotsUsed } : State).setVm s₂.vm).setTop { g with pc := g.pc + len₂, stack := v.toList ++ g.stack } := by
      refine e3.trans ?_
      rw [hf₂, State.calling_eq h.top, State.setFrames_setFrames, State.setTop_of_frames _ hr', hr]
      rfl
    have hsame : U.sameButNew ({ U with heap := s₂.heap, slotsUsed := s₂.slotsUsed } : State) L mc ms := by
      refine ⟨?_, q2, q3, q4, q5, q6⟩
      obtain ⟨t, ht, -⟩ := State.frames_cons hr
      show ({ U with heap := s₂.heap, slotsUsed := s₂.slotsUsed } : State) = { U.setFrames U.frames with heap := s₂.heap, slotsUsed := s₂.slotsUsed }
      rw [State.setFrames_self ht]
    subst hg
    refine Or.inl ⟨v, ⟨(({ U with heap := s₂.heap, slotsUsed := s₂.slotsUsed } : State).setVm s₂.vm), Ls ++ L, c0 + mc, s0 + ms⟩,
      ⟨X.admits, X.cas, X.clock, X.frames, X.room, X.hears, X.method, X.code, (X.here.setHeapUsed s₂.heap s₂.slotsUsed).setVm hW'.alike, X.tail, State.WarmedH.trans X.warmed hW', X.limits, X.bytes, X.same.trans (hsame.setVm s.vm)⟩,
      ⟨g, mk, s₂, L, rfl, rfl, hqc, rfl, hL, rfl, rfl⟩, ?_⟩
    show Steps p.tables e below _ ((({ U with heap := s₂.heap, slotsUsed := s₂.slotsUsed } : State).setVm s₂.vm).setTop { g with pc := g.pc + len₂, stack := v.toList ++ g.stack })
    rw [← hs₂]
    exact hsteps
  · obtain ⟨e2, q2, q3, q4, q5, q6⟩ := id hsm
    have e3 : s₂ = ({ (U.calling g mk a).setFrames s₂.frames with heap := s₂.heap, slotsUsed := s₂.slotsUsed } : State).setVm s₂.vm := by
      have : s₂ = ({ s₂ with vm := (U.calling g mk a).vm } : State).setVm s₂.vm := rfl
      rw [e2] at this
      exact this
    have hf₂ : s₂.frames = .throwing q :: .java g :: U.frames.tail := hend
    have hW' : U.WarmedH s₂.vm := hW₂
    have hs₂ : s₂ = ((({ U with heap := s₂.heap, slotsUsed := s₂.slotsUsed } : State).setVm s₂.vm).setTop g).pushFrame (.throwing q) := by
      refine e3.trans ?_
      rw [hf₂, State.calling_eq h.top, State.setFrames_setFrames, State.pushFrame, State.frames_setTop _ hr', State.setTop_of_frames _ hr', State.setFrames_setFrames, hr]
      rfl
    have hsame : U.sameButNew ({ U with heap := s₂.heap, slotsUsed := s₂.slotsUsed } : State) L mc ms := by
      refine ⟨?_, q2, q3, q4, q5, q6⟩
      obtain ⟨t, ht, -⟩ := State.frames_cons hr
      show ({ U with heap := s₂.heap, slotsUsed := s₂.slotsUsed } : State) = { U.setFrames U.frames with heap := s₂.heap, slotsUsed := s₂.slotsUsed }
      rw [State.setFrames_self ht]
    subst hg
    refine Or.inr ⟨q, ⟨(({ U with heap := s₂.heap, slotsUsed := s₂.slotsUsed } : State).setVm s₂.vm), Ls ++ L, c0 + mc, s0 + ms⟩,
      ⟨X.admits, X.cas, X.clock, X.frames, X.room, X.hears, X.method, X.code, (X.here.setHeapUsed s₂.heap s₂.slotsUsed).setVm hW'.alike, X.tail, State.WarmedH.trans X.warmed hW', X.limits, X.bytes, X.same.trans (hsame.setVm s.vm)⟩,
      ⟨g, mk, s₂, L, E, ce, rfl, rfl, hx, hce, hcv, hcl, rfl, hL, rfl, rfl⟩, ?_⟩
    show Steps p.tables e below _ (((({ U with heap := s₂.heap, slotsUsed := s₂.slotsUsed } : State).setVm s₂.vm).setTop g).pushFrame (.throwing q))
    rw [← hs₂]
    exact hsteps
end Payer
section Calls
variable {p : Program} {l : Launch} {e : Env} {R : Room} {s : State} {m : MethodId} {args : Array Value} {below : List Frame} {meth : Method} {c : Code} {T : State} {locs : List Loc} {cells slots : Nat}
theorem vx_callV (X : Stand p l e R s m args below meth c T locs cells slots) (hexec : p.tables.exec = Jvm.exec) {own C : String} {index : Nat} {y : MethodName} {bytes : ByteArray} {maxL : Nat} {ret : Option FieldType}
    (hown : s.vm.findClass own = some m.cls) (hlink : (Cond.methodLink own index y).before args s = true) (hinst : (Cond.instanceMethod y).before args s = true) (hsel : (Cond.selects C y y).before args s = true)
    (hcode : (Cond.code y bytes maxL ret).before args s = true) (hy : y.cls ≠ "java/lang/invoke/MethodHandle" ∧ y.cls ≠ "java/lang/invoke/VarHandle")
    {W9 : Nat} {Pre : Pt → Array Value → Prop} {Post : Pt → Array Value → Option Value → Pt → Prop} {PostX : Pt → Array Value → Addr → Pt → Prop} (hK : vx_Back l R p e below s args y 3 W9 Pre Post PostX)
    {b : Addr} {cellB : Cell} (hcell : T.heap[b]? = some cellB) (hobj : cellB.vm.isStatics = false) (hcls : s.vm.findClass C = some cellB.cls)
    {g : JFrame} (hg : g.method = m) (hsize : g.locals.size = c.maxLocals) {argsL rest : List Value} (hlen : ∀ sig, parseMethodDescriptor y.desc = some sig → argsL.length = sig.parameters.length)
    (hstack : g.stack = argsL.reverse ++ .ref b :: rest) (hW : 2 * g.monitorRoom + (rest.map fun v => v.category).sum ≤ W9) (hdg : decode c.code g.pc = .ok (.invokevirtual index, 3))
    (hpre : ∀ vm₁, s.WarmedH vm₁ → Pre ⟨T.setVm vm₁, locs, cells, slots⟩ (Value.ref b :: argsL).toArray) :
    (∃ (v : Option Value) (vm₁ : Vm) (B : Pt), s.WarmedH vm₁ ∧ Stand p l e R s m args below meth c B.U B.locs B.cells B.slots ∧ Post ⟨T.setVm vm₁, locs, cells, slots⟩ (Value.ref b :: argsL).toArray v B ∧
      ∀ target, Steps p.tables e below (B.U.setTop { g with pc := g.pc + 3, stack := v.toList ++ rest }) target → Steps p.tables e below (T.setTop g) target) ∨
    (∃ (q : Addr) (vm₁ : Vm) (B : Pt), s.WarmedH vm₁ ∧ Stand p l e R s m args below meth c B.U B.locs B.cells B.slots ∧ PostX ⟨T.setVm vm₁, locs, cells, slots⟩ (Value.ref b :: argsL).toArray q B ∧
      Steps p.tables e below (T.setTop g) ((B.U.setTop { g with stack := rest }).pushFrame (.throwing q))) := by
  obtain ⟨mk, methM, hnamed, hmethM, hstM, habM⟩ := Cond.instanceMethod_spec hinst
  obtain ⟨methM', cM, hmethM', -, -, -, -, -, -, hsigM⟩ := Cond.code_spec hnamed hcode
  cases hmethM.symm.trans hmethM'
  obtain ⟨c2, r2, m2, q1, q2, q3, q4, kP, hkP, hkPi⟩ := Cond.selects_spec hsel
  cases hcls.symm.trans q1
  cases (State.methodFound?_of_named hnamed hy).symm.trans q2
  cases hnamed.symm.trans q3
  have hselP : selectMethod e.platform s.vm cellB.cls mk = .method mk := by rw [Launch.admits_selectMethod X.admits]; exact q4
  obtain ⟨vm₁, X₁, hstep₁⟩ := X.invokevirtual hexec hown hlink hnamed hmethM hstM hkP hkPi hy (a := b) (cell := cellB) hcell
    (fun z h => by rw [h] at hobj; cases hobj) hselP hmethM habM hkP hkPi (g := g) hg (argsL := argsL) (rest := rest) (hlen _ hsigM) hstack hdg
  rcases hK m meth c ⟨T.setVm vm₁, locs, cells, slots⟩ { g with stack := rest } (.invokevirtual index) mk (Value.ref b :: argsL).toArray X₁ hg hsize hdg hW (X₁.named hnamed) (hpre vm₁ X₁.warmed) with ⟨v, B, X', hpost, hsteps⟩ | ⟨q, B, X', hpost, hsteps⟩
  · exact Or.inl ⟨v, vm₁, B, X₁.warmed, X', hpost, fun target h => hstep₁ _ fun acts => by rw [doInvoke_state]; exact hsteps.trans h⟩
  · exact Or.inr ⟨q, vm₁, B, X₁.warmed, X', hpost, hstep₁ _ fun acts => by rw [doInvoke_state]; exact hsteps⟩
theorem vx_callS (X : Stand p l e R s m args below meth c T locs cells slots) (hexec : p.tables.exec = Jvm.exec) {own : String} {index : Nat} {y : MethodName} {bytes : ByteArray} {maxL : Nat} {ret : Option FieldType}
    (hown : s.vm.findClass own = some m.cls) (hlink : (Cond.methodLink own index y).before args s = true) (hstat : (Cond.static y).before args s = true) (hinit : (Cond.initialized y.cls).before args s = true)
    (hcode : (Cond.code y bytes maxL ret).before args s = true) (hy : y.cls ≠ "java/lang/invoke/MethodHandle" ∧ y.cls ≠ "java/lang/invoke/VarHandle")
    {W9 : Nat} {Pre : Pt → Array Value → Prop} {Post : Pt → Array Value → Option Value → Pt → Prop} {PostX : Pt → Array Value → Addr → Pt → Prop} (hK : vx_Back l R p e below s args y 3 W9 Pre Post PostX)
    {g : JFrame} (hg : g.method = m) (hsize : g.locals.size = c.maxLocals) {argsL rest : List Value} (hlen : ∀ sig, parseMethodDescriptor y.desc = some sig → argsL.length = sig.parameters.length)
    (hstack : g.stack = argsL.reverse ++ rest) (hW : 2 * g.monitorRoom + (rest.map fun v => v.category).sum ≤ W9) (hdg : decode c.code g.pc = .ok (.invokestatic index, 3))
    (hpre : ∀ vm₁, s.WarmedH vm₁ → Pre ⟨T.setVm vm₁, locs, cells, slots⟩ argsL.toArray) :
    (∃ (v : Option Value) (vm₁ : Vm) (B : Pt), s.WarmedH vm₁ ∧ Stand p l e R s m args below meth c B.U B.locs B.cells B.slots ∧ Post ⟨T.setVm vm₁, locs, cells, slots⟩ argsL.toArray v B ∧
      ∀ target, Steps p.tables e below (B.U.setTop { g with pc := g.pc + 3, stack := v.toList ++ rest }) target → Steps p.tables e below (T.setTop g) target) ∨
    (∃ (q : Addr) (vm₁ : Vm) (B : Pt), s.WarmedH vm₁ ∧ Stand p l e R s m args below meth c B.U B.locs B.cells B.slots ∧ PostX ⟨T.setVm vm₁, locs, cells, slots⟩ argsL.toArray q B ∧
      Steps p.tables e below (T.setTop g) ((B.U.setTop { g with stack := rest }).pushFrame (.throwing q))) := by
  obtain ⟨mk, hnamed⟩ := Cond.code_named hcode
  obtain ⟨methM, cM, hmethM, -, -, -, -, -, -, hsigM⟩ := Cond.code_spec hnamed hcode
  have hstatic : methM.isStatic = true := Cond.static_spec hnamed hmethM hstat
  obtain ⟨kP, hkP, -⟩ := className_of_methodNamed hnamed
  have hinitP : kP.init = .initialized := Cond.initialized_spec (findClass_of_methodNamed hnamed) hkP hinit
  obtain ⟨vm₁, X₁, hstep₁⟩ := X.invokestatic hexec hown hlink hnamed hmethM hstatic hkP hinitP hy (g := g) hg (argsL := argsL) (rest := rest) (hlen _ hsigM) hstack hdg
  rcases hK m meth c ⟨T.setVm vm₁, locs, cells, slots⟩ { g with stack := rest } (.invokestatic index) mk argsL.toArray X₁ hg hsize hdg hW (X₁.named hnamed) (hpre vm₁ X₁.warmed) with ⟨v, B, X', hpost, hsteps⟩ | ⟨q, B, X', hpost, hsteps⟩
  · exact Or.inl ⟨v, vm₁, B, X₁.warmed, X', hpost, fun target h => hstep₁ _ fun acts => by rw [doInvoke_state]; exact hsteps.trans h⟩
  · exact Or.inr ⟨q, vm₁, B, X₁.warmed, X', hpost, hstep₁ _ fun acts => by rw [doInvoke_state]; exact hsteps⟩
end Calls
theorem vx_cls {s : State} {T : State} {vm₁ : Vm} {E : String} {k : ClassId} (hW : s.WarmedH vm₁) (h : (T.setVm vm₁).vm.findClass E = some k) : s.vm.findClass E = some k := by
  have h1 : vm₁.findClass E = some k := h
  rw [hW.alike.findClass] at h1
  exact h1
/-- the method's frame g, with q thrown over it -/
def vx_W (p : Program) (l : Launch) (e : Env) (R : Room) (s : State) (m : MethodId) (args : Array Value) (below : List Frame) (meth : Method) (c : Code) (H : Heap) (locs : List Loc) (cells slots : Nat) (Q : State → Prop) (g : JFrame) (q : Addr) : Prop :=
  ∀ T : State, T.heap = H → Stand p l e R s m args below meth c T locs cells slots → ∃ t, Steps p.tables e below ((T.setTop g).pushFrame (.throwing q)) t ∧ Q t
def vx_Run (p : Program) (l : Launch) (e : Env) (R : Room) (s : State) (m : MethodId) (args : Array Value) (below : List Frame) (meth : Method) (c : Code) (H : Heap) (locs : List Loc) (cells slots mc ms : Nat) (g : JFrame) (rest : List Value) (Qa : State → Outcome → State → Prop) (XC : String → State → State → Prop) (free : Addr → Prop) : Prop :=
  ∀ T : State, T.heap = H → Stand p l e R s m args below meth c T locs cells slots →
    (∃ (v : Option Value) (st₀ t T' : State) (L : List Loc), st₀.heap = H ∧ Stand p l e R s m args below meth c T' (locs ++ L) (cells + mc) (slots + ms) ∧ (∀ q ∈ L, free q.base) ∧ T'.heap = t.heap ∧ T'.vm = t.vm ∧ Qa st₀ (.returned v) t ∧
      Goes p e below T g T' { g with pc := g.pc + 3, stack := v.toList ++ rest }) ∨
    (∃ (q : Addr) (st₀ t T' : State) (L : List Loc) (E : String) (ce : Cell), st₀.heap = H ∧ Stand p l e R s m args below meth c T' (locs ++ L) (cells + mc) (slots + ms) ∧ (∀ z ∈ L, free z.base) ∧ T'.heap = t.heap ∧ T'.vm = t.vm ∧ XC E st₀ t ∧ t.heap[q]? = some ce ∧ ce.vm = .none ∧ s.vm.findClass E = some ce.cls ∧
      Steps p.tables e below (T.setTop g) ((T'.setTop { g with stack := rest }).pushFrame (.throwing q)))
def vx_X {S : Type} (px : S → Prop) (B : String → S → State → Prop) (A : Nat → Prop) : String → State → State → Prop := fun E st t => ∃ u : S, px u ∧ B E u t ∧ va_F A st t
section Runs
variable {p : Program} {l : Launch} {e : Env} {R : Room} {s : State} {m : MethodId} {args : Array Value} {below : List Frame} {meth : Method} {c : Code} {H : Heap} {locs : List Loc} {cells slots : Nat}
variable {y : MethodName} {bytes cc : ByteArray} {maxL nL mc ms n index : Nat} {ret : Option FieldType} {ws : List Cond} {rm : Room} {Pc : Array Value → State → Prop} {Qc : Array Value → State → Outcome → State → Prop} {XC : String → State → State → Prop} {free : Addr → Prop} {Ts : List Cond} {own C : String} {b : Addr} {As rest : List Value} {g : JFrame}
theorem vx_callBack (cb : CallB R s args own index y bytes maxL ret ws rm mc ms n) (hM : vx_Met l y ws rm Pc Qc XC mc ms free) (hbl : FrameBlind Pc) : vx_Back l R p e below s args y 3 8 (PreOf R mc ms Pc) (PostOf Qc mc ms free) (vx_Post XC mc ms free) := by
  obtain ⟨hrc, hrs, hfr, hlo, hws, hcw, -, hini, -⟩ := cb
  exact vx_back (bytes := bytes) (maxL := maxL) (ret := ret) hM hbl hrc hrs hfr hlo hws hcw (fun a' U hW => word_at hW (Or.inl (by first | rfl | simp [Cond.onTables, Cond.keeps, Cond.steady])) hini)
theorem vx_runV (S : CallFix p m c cc nL s args Ts own) (hM : vx_Met l y ws rm Pc Qc XC mc ms free) (cw : CallW R s args own C index y bytes maxL ret ws rm mc ms n) (hp : PreV s H C b Pc As)
    (hg : g.method = m) (hn : As.length = n) (hsize : g.locals.size = nL) (hstack : g.stack = As.reverse ++ .ref b :: rest) (hW : 2 * g.monitorRoom + (rest.map fun v => v.category).sum ≤ 8) (hdg : decode cc g.pc = .ok (.invokevirtual index, 3)) (hf : cells + mc ≤ R.cells ∧ slots + ms ≤ R.slots) :
    vx_Run p l e R s m args below meth c H locs cells slots mc ms g rest (Qc (Value.ref b :: As).toArray) XC free := by
  have hK : vx_Back l R p e below s args y 3 8 (PreOf R mc ms Pc) (PostOf Qc mc ms free) (vx_Post XC mc ms free) := vx_callBack cw.1 hM hp.1
  obtain ⟨⟨-, -, -, -, -, -, hcode, -, hy, hlen, hl⟩, hin, hse⟩ := cw
  obtain ⟨hx, hb, hml, ho, -⟩ := S
  obtain ⟨-, ⟨cellB, hcB, hoB, hclB⟩, hPc⟩ := hp
  intro T hT X
  rcases vx_callV X hx (C := C) (bytes := bytes) (maxL := maxL) (ret := ret) ho hl hin hse hcode hy hK (by rw [hT]; exact hcB) hoB hclB hg (hsize.trans hml.symm) (argsL := As) (rest := rest) (fun sig h => hn.trans (hlen sig h)) hstack hW (by rw [hb]; exact hdg)
    (fun vm₁ hW₁ => ⟨hf.1, hf.2, hPc (T.setVm vm₁) hT hW₁⟩) with ⟨v, vm₁, ⟨U', l2, c2, s2⟩, hW₁, X', ⟨g', mk, t, L, e1, e2, hq, h1, hL, h2, h3⟩, st⟩ | ⟨q, vm₁, ⟨U', l2, c2, s2⟩, hW₁, X', ⟨g', mk, t, L, E, ce, e1, e2, hq, hce, hcv, hcl, h1, hL, h2, h3⟩, st⟩
  · dsimp only [Pt.U, Pt.locs, Pt.cells, Pt.slots] at X' e1 e2 h1 h2 h3 st
    subst h1; subst h2; subst h3
    exact Or.inl ⟨v, (T.setVm vm₁).calling g' mk (Value.ref b :: As).toArray, t, U', L, hT, X', hL, e1, e2, hq, st⟩
  · dsimp only [Pt.U, Pt.locs, Pt.cells, Pt.slots] at X' e1 e2 h1 h2 h3 st hcl
    subst h1; subst h2; subst h3
    exact Or.inr ⟨q, (T.setVm vm₁).calling g' mk (Value.ref b :: As).toArray, t, U', L, E, ce, hT, X', hL, e1, e2, hq, hce, hcv, vx_cls hW₁ hcl, st⟩
theorem vx_runS (S : CallFix p m c cc nL s args Ts own) (hM : vx_Met l y ws rm Pc Qc XC mc ms free) (cw : CallB R s args own index y bytes maxL ret ws rm mc ms n ∧ (Cond.static y).before args s = true) (hp : PreS s H Pc As)
    (hg : g.method = m) (hn : As.length = n) (hsize : g.locals.size = nL) (hstack : g.stack = As.reverse ++ rest) (hW : 2 * g.monitorRoom + (rest.map fun v => v.category).sum ≤ 8) (hdg : decode cc g.pc = .ok (.invokestatic index, 3)) (hf : cells + mc ≤ R.cells ∧ slots + ms ≤ R.slots) :
    vx_Run p l e R s m args below meth c H locs cells slots mc ms g rest (Qc As.toArray) XC free := by
  have hK : vx_Back l R p e below s args y 3 8 (PreOf R mc ms Pc) (PostOf Qc mc ms free) (vx_Post XC mc ms free) := vx_callBack cw.1 hM hp.1
  obtain ⟨⟨-, -, -, -, -, -, hcode, hini, hy, hlen, hl⟩, hstt⟩ := cw
  obtain ⟨hx, hb, hml, ho, -⟩ := S
  intro T hT X
  rcases vx_callS X hx (bytes := bytes) (maxL := maxL) (ret := ret) ho hl hstt hini hcode hy hK hg (hsize.trans hml.symm) (argsL := As) (rest := rest) (fun sig h => hn.trans (hlen sig h)) hstack hW (by rw [hb]; exact hdg)
    (fun vm₁ hW₁ => ⟨hf.1, hf.2, hp.2 (T.setVm vm₁) hT hW₁⟩) with ⟨v, vm₁, ⟨U', l2, c2, s2⟩, hW₁, X', ⟨g', mk, t, L, e1, e2, hq, h1, hL, h2, h3⟩, st⟩ | ⟨q, vm₁, ⟨U', l2, c2, s2⟩, hW₁, X', ⟨g', mk, t, L, E, ce, e1, e2, hq, hce, hcv, hcl, h1, hL, h2, h3⟩, st⟩
  · dsimp only [Pt.U, Pt.locs, Pt.cells, Pt.slots] at X' e1 e2 h1 h2 h3 st
    subst h1; subst h2; subst h3
    exact Or.inl ⟨v, (T.setVm vm₁).calling g' mk As.toArray, t, U', L, hT, X', hL, e1, e2, hq, st⟩
  · dsimp only [Pt.U, Pt.locs, Pt.cells, Pt.slots] at X' e1 e2 h1 h2 h3 st hcl
    subst h1; subst h2; subst h3
    exact Or.inr ⟨q, (T.setVm vm₁).calling g' mk As.toArray, t, U', L, E, ce, hT, X', hL, e1, e2, hq, hce, hcv, vx_cls hW₁ hcl, st⟩
end Runs
section Rows
variable {p : Program} {l : Launch} {e : Env} {R : Room} {s : State} {m : MethodId} {args : Array Value} {below : List Frame} {meth : Method} {c : Code} {H : Heap} {locs : List Loc} {cells slots : Nat} {Q : State → Prop}
variable {mc ms : Nat} {free : Addr → Prop} {A0 A1 : Nat → Prop} {H0 : Heap} {a : Array Value} {pc : Nat} {ls : Array Slot} {st0 rest : List Value}
theorem vx_keep {st₀ t T' : State} {L : List Loc} (h0 : st₀.heap = H) (e1 : T'.heap = t.heap) (hS : va_S A0 H0 H locs) (hA : ∀ q, q < H.size → A1 q → A0 q) (hf : ∀ q, free q → A0 q) (hL : ∀ q ∈ L, free q.base) (hF : va_F A1 st₀ t) :
    H.size ≤ T'.heap.size ∧ (∀ q : Nat, q < H.size → ¬ A1 q → T'.heap[q]? = H[q]?) ∧ va_S A0 H0 T'.heap (locs ++ L) := by
  obtain ⟨hz, hk⟩ := hF
  rw [h0] at hz hk
  exact ⟨by rw [e1]; exact hz, fun q h1 h2 => by rw [e1]; exact hk q h1 h2,
    ⟨Nat.le_trans hS.1 (by rw [e1]; exact hz), fun q h1 h2 => by rw [e1, hk q (Nat.lt_of_lt_of_le h1 hS.1) (fun z => h2 (hA q (Nat.lt_of_lt_of_le h1 hS.1) z))]; exact hS.2.1 q h1 h2, fun q hq => by
      rcases List.mem_append.mp hq with h | h
      · exact hS.2.2 q h
      · exact hf _ (hL q h)⟩⟩
theorem vx_calli {S SX : Type} {post : Int32 → S → Prop} {px : SX → Prop} {B : S → State → Prop} {BX : String → SX → State → Prop} {AX : Nat → Prop} (hr : vx_Run p l e R s m args below meth c H locs cells slots mc ms (F0 m pc ls st0) rest (va_Qi post B A1 a) (vx_X px BX AX) free) (hS : va_S A0 H0 H locs) (hA : ∀ q, q < H.size → A1 q → A0 q) (hf : ∀ q, free q → A0 q) (hAX : ∀ q, q < H.size → AX q → A0 q)
    (kx : ∀ (E : String) (ce : Cell) (q9 : Addr) (u : SX) (t : State) (H1 : Heap) (locs1 : List Loc), t.heap = H1 → s.vm.Alike t.vm → px u → BX E u t → H.size ≤ H1.size → (∀ q : Nat, q < H.size → ¬ AX q → H1[q]? = H[q]?) → va_S A0 H0 H1 locs1 → H1[q9]? = some ce → ce.vm = .none → s.vm.findClass E = some ce.cls → vx_W p l e R s m args below meth c H1 locs1 (cells + mc) (slots + ms) Q (F0 m pc ls rest) q9)
    (kk : ∀ (r : Int32) (u : S) (t : State) (H1 : Heap) (locs1 : List Loc), t.heap = H1 → s.vm.Alike t.vm → post r u → B u t → H.size ≤ H1.size → (∀ q : Nat, q < H.size → ¬ A1 q → H1[q]? = H[q]?) → va_S A0 H0 H1 locs1 → W p l e R s m args below meth c H1 locs1 (cells + mc) (slots + ms) Q (F0 m (pc + 3) ls (.int r :: rest))) : W p l e R s m args below meth c H locs cells slots Q (F0 m pc ls st0) := by
  intro T hT X
  rcases hr T hT X with ⟨v, st₀, t, T', L, h0, X', hL, e1, e2, ⟨⟨r, u, hv, hp, hb⟩, hF⟩, st⟩ | ⟨q, st₀, t, T', L, E, ce, h0, X', hL, e1, e2, ⟨u, hp, hb, hF⟩, hce, hcv, hcl, st⟩
  · cases hv
    obtain ⟨k1, k2, k3⟩ := vx_keep h0 e1 hS hA hf hL hF
    obtain ⟨t2, a1, b1⟩ := kk r u t T'.heap (locs ++ L) e1.symm (by rw [← e2]; exact X'.warmed.alike) hp hb k1 k2 k3 T' rfl X'
    exact ⟨t2, st t2 a1, b1⟩
  · obtain ⟨k1, k2, k3⟩ := vx_keep h0 e1 hS hAX hf hL hF
    obtain ⟨t2, a1, b1⟩ := kx E ce q u t T'.heap (locs ++ L) e1.symm (by rw [← e2]; exact X'.warmed.alike) hp hb k1 k2 k3 (by rw [e1]; exact hce) hcv hcl T' rfl X'
    exact ⟨t2, st.trans a1, b1⟩
theorem vx_calll {S SX : Type} {post : Int64 → S → Prop} {px : SX → Prop} {B : S → State → Prop} {BX : String → SX → State → Prop} {AX : Nat → Prop} (hr : vx_Run p l e R s m args below meth c H locs cells slots mc ms (F0 m pc ls st0) rest (va_Ql post B A1 a) (vx_X px BX AX) free) (hS : va_S A0 H0 H locs) (hA : ∀ q, q < H.size → A1 q → A0 q) (hf : ∀ q, free q → A0 q) (hAX : ∀ q, q < H.size → AX q → A0 q)
    (kx : ∀ (E : String) (ce : Cell) (q9 : Addr) (u : SX) (t : State) (H1 : Heap) (locs1 : List Loc), t.heap = H1 → s.vm.Alike t.vm → px u → BX E u t → H.size ≤ H1.size → (∀ q : Nat, q < H.size → ¬ AX q → H1[q]? = H[q]?) → va_S A0 H0 H1 locs1 → H1[q9]? = some ce → ce.vm = .none → s.vm.findClass E = some ce.cls → vx_W p l e R s m args below meth c H1 locs1 (cells + mc) (slots + ms) Q (F0 m pc ls rest) q9)
    (kk : ∀ (r : Int64) (u : S) (t : State) (H1 : Heap) (locs1 : List Loc), t.heap = H1 → s.vm.Alike t.vm → post r u → B u t → H.size ≤ H1.size → (∀ q : Nat, q < H.size → ¬ A1 q → H1[q]? = H[q]?) → va_S A0 H0 H1 locs1 → W p l e R s m args below meth c H1 locs1 (cells + mc) (slots + ms) Q (F0 m (pc + 3) ls (.long r :: rest))) : W p l e R s m args below meth c H locs cells slots Q (F0 m pc ls st0) := by
  intro T hT X
  rcases hr T hT X with ⟨v, st₀, t, T', L, h0, X', hL, e1, e2, ⟨⟨r, u, hv, hp, hb⟩, hF⟩, st⟩ | ⟨q, st₀, t, T', L, E, ce, h0, X', hL, e1, e2, ⟨u, hp, hb, hF⟩, hce, hcv, hcl, st⟩
  · cases hv
    obtain ⟨k1, k2, k3⟩ := vx_keep h0 e1 hS hA hf hL hF
    obtain ⟨t2, a1, b1⟩ := kk r u t T'.heap (locs ++ L) e1.symm (by rw [← e2]; exact X'.warmed.alike) hp hb k1 k2 k3 T' rfl X'
    exact ⟨t2, st t2 a1, b1⟩
  · obtain ⟨k1, k2, k3⟩ := vx_keep h0 e1 hS hAX hf hL hF
    obtain ⟨t2, a1, b1⟩ := kx E ce q u t T'.heap (locs ++ L) e1.symm (by rw [← e2]; exact X'.warmed.alike) hp hb k1 k2 k3 (by rw [e1]; exact hce) hcv hcl T' rfl X'
    exact ⟨t2, st.trans a1, b1⟩
theorem vx_callf {S SX : Type} {post : UInt32 → S → Prop} {px : SX → Prop} {B : S → State → Prop} {BX : String → SX → State → Prop} {AX : Nat → Prop} (hr : vx_Run p l e R s m args below meth c H locs cells slots mc ms (F0 m pc ls st0) rest (va_Qf post B A1 a) (vx_X px BX AX) free) (hS : va_S A0 H0 H locs) (hA : ∀ q, q < H.size → A1 q → A0 q) (hf : ∀ q, free q → A0 q) (hAX : ∀ q, q < H.size → AX q → A0 q)
    (kx : ∀ (E : String) (ce : Cell) (q9 : Addr) (u : SX) (t : State) (H1 : Heap) (locs1 : List Loc), t.heap = H1 → s.vm.Alike t.vm → px u → BX E u t → H.size ≤ H1.size → (∀ q : Nat, q < H.size → ¬ AX q → H1[q]? = H[q]?) → va_S A0 H0 H1 locs1 → H1[q9]? = some ce → ce.vm = .none → s.vm.findClass E = some ce.cls → vx_W p l e R s m args below meth c H1 locs1 (cells + mc) (slots + ms) Q (F0 m pc ls rest) q9)
    (kk : ∀ (r : UInt32) (u : S) (t : State) (H1 : Heap) (locs1 : List Loc), t.heap = H1 → s.vm.Alike t.vm → post r u → B u t → H.size ≤ H1.size → (∀ q : Nat, q < H.size → ¬ A1 q → H1[q]? = H[q]?) → va_S A0 H0 H1 locs1 → W p l e R s m args below meth c H1 locs1 (cells + mc) (slots + ms) Q (F0 m (pc + 3) ls (.float r :: rest))) : W p l e R s m args below meth c H locs cells slots Q (F0 m pc ls st0) := by
  intro T hT X
  rcases hr T hT X with ⟨v, st₀, t, T', L, h0, X', hL, e1, e2, ⟨⟨r, u, hv, hp, hb⟩, hF⟩, st⟩ | ⟨q, st₀, t, T', L, E, ce, h0, X', hL, e1, e2, ⟨u, hp, hb, hF⟩, hce, hcv, hcl, st⟩
  · cases hv
    obtain ⟨k1, k2, k3⟩ := vx_keep h0 e1 hS hA hf hL hF
    obtain ⟨t2, a1, b1⟩ := kk r u t T'.heap (locs ++ L) e1.symm (by rw [← e2]; exact X'.warmed.alike) hp hb k1 k2 k3 T' rfl X'
    exact ⟨t2, st t2 a1, b1⟩
  · obtain ⟨k1, k2, k3⟩ := vx_keep h0 e1 hS hAX hf hL hF
    obtain ⟨t2, a1, b1⟩ := kx E ce q u t T'.heap (locs ++ L) e1.symm (by rw [← e2]; exact X'.warmed.alike) hp hb k1 k2 k3 (by rw [e1]; exact hce) hcv hcl T' rfl X'
    exact ⟨t2, st.trans a1, b1⟩
theorem vx_calld {S SX : Type} {post : UInt64 → S → Prop} {px : SX → Prop} {B : S → State → Prop} {BX : String → SX → State → Prop} {AX : Nat → Prop} (hr : vx_Run p l e R s m args below meth c H locs cells slots mc ms (F0 m pc ls st0) rest (va_Qd post B A1 a) (vx_X px BX AX) free) (hS : va_S A0 H0 H locs) (hA : ∀ q, q < H.size → A1 q → A0 q) (hf : ∀ q, free q → A0 q) (hAX : ∀ q, q < H.size → AX q → A0 q)
    (kx : ∀ (E : String) (ce : Cell) (q9 : Addr) (u : SX) (t : State) (H1 : Heap) (locs1 : List Loc), t.heap = H1 → s.vm.Alike t.vm → px u → BX E u t → H.size ≤ H1.size → (∀ q : Nat, q < H.size → ¬ AX q → H1[q]? = H[q]?) → va_S A0 H0 H1 locs1 → H1[q9]? = some ce → ce.vm = .none → s.vm.findClass E = some ce.cls → vx_W p l e R s m args below meth c H1 locs1 (cells + mc) (slots + ms) Q (F0 m pc ls rest) q9)
    (kk : ∀ (r : UInt64) (u : S) (t : State) (H1 : Heap) (locs1 : List Loc), t.heap = H1 → s.vm.Alike t.vm → post r u → B u t → H.size ≤ H1.size → (∀ q : Nat, q < H.size → ¬ A1 q → H1[q]? = H[q]?) → va_S A0 H0 H1 locs1 → W p l e R s m args below meth c H1 locs1 (cells + mc) (slots + ms) Q (F0 m (pc + 3) ls (.double r :: rest))) : W p l e R s m args below meth c H locs cells slots Q (F0 m pc ls st0) := by
  intro T hT X
  rcases hr T hT X with ⟨v, st₀, t, T', L, h0, X', hL, e1, e2, ⟨⟨r, u, hv, hp, hb⟩, hF⟩, st⟩ | ⟨q, st₀, t, T', L, E, ce, h0, X', hL, e1, e2, ⟨u, hp, hb, hF⟩, hce, hcv, hcl, st⟩
  · cases hv
    obtain ⟨k1, k2, k3⟩ := vx_keep h0 e1 hS hA hf hL hF
    obtain ⟨t2, a1, b1⟩ := kk r u t T'.heap (locs ++ L) e1.symm (by rw [← e2]; exact X'.warmed.alike) hp hb k1 k2 k3 T' rfl X'
    exact ⟨t2, st t2 a1, b1⟩
  · obtain ⟨k1, k2, k3⟩ := vx_keep h0 e1 hS hAX hf hL hF
    obtain ⟨t2, a1, b1⟩ := kx E ce q u t T'.heap (locs ++ L) e1.symm (by rw [← e2]; exact X'.warmed.alike) hp hb k1 k2 k3 (by rw [e1]; exact hce) hcv hcl T' rfl X'
    exact ⟨t2, st.trans a1, b1⟩
theorem vx_callv {S SX : Type} {post : S → Prop} {px : SX → Prop} {B : S → State → Prop} {BX : String → SX → State → Prop} {AX : Nat → Prop} (hr : vx_Run p l e R s m args below meth c H locs cells slots mc ms (F0 m pc ls st0) rest (va_Qv post B A1 a) (vx_X px BX AX) free) (hS : va_S A0 H0 H locs) (hA : ∀ q, q < H.size → A1 q → A0 q) (hf : ∀ q, free q → A0 q) (hAX : ∀ q, q < H.size → AX q → A0 q)
    (kx : ∀ (E : String) (ce : Cell) (q9 : Addr) (u : SX) (t : State) (H1 : Heap) (locs1 : List Loc), t.heap = H1 → s.vm.Alike t.vm → px u → BX E u t → H.size ≤ H1.size → (∀ q : Nat, q < H.size → ¬ AX q → H1[q]? = H[q]?) → va_S A0 H0 H1 locs1 → H1[q9]? = some ce → ce.vm = .none → s.vm.findClass E = some ce.cls → vx_W p l e R s m args below meth c H1 locs1 (cells + mc) (slots + ms) Q (F0 m pc ls rest) q9)
    (kk : ∀ (u : S) (t : State) (H1 : Heap) (locs1 : List Loc), t.heap = H1 → s.vm.Alike t.vm → post u → B u t → H.size ≤ H1.size → (∀ q : Nat, q < H.size → ¬ A1 q → H1[q]? = H[q]?) → va_S A0 H0 H1 locs1 → W p l e R s m args below meth c H1 locs1 (cells + mc) (slots + ms) Q (F0 m (pc + 3) ls (rest))) : W p l e R s m args below meth c H locs cells slots Q (F0 m pc ls st0) := by
  intro T hT X
  rcases hr T hT X with ⟨v, st₀, t, T', L, h0, X', hL, e1, e2, ⟨⟨u, hv, hp, hb⟩, hF⟩, st⟩ | ⟨q, st₀, t, T', L, E, ce, h0, X', hL, e1, e2, ⟨u, hp, hb, hF⟩, hce, hcv, hcl, st⟩
  · cases hv
    obtain ⟨k1, k2, k3⟩ := vx_keep h0 e1 hS hA hf hL hF
    obtain ⟨t2, a1, b1⟩ := kk u t T'.heap (locs ++ L) e1.symm (by rw [← e2]; exact X'.warmed.alike) hp hb k1 k2 k3 T' rfl X'
    exact ⟨t2, st t2 a1, b1⟩
  · obtain ⟨k1, k2, k3⟩ := vx_keep h0 e1 hS hAX hf hL hF
    obtain ⟨t2, a1, b1⟩ := kx E ce q u t T'.heap (locs ++ L) e1.symm (by rw [← e2]; exact X'.warmed.alike) hp hb k1 k2 k3 (by rw [e1]; exact hce) hcv hcl T' rfl X'
    exact ⟨t2, st.trans a1, b1⟩
/-- caught by the row x of this method's table; the rows ahead don't take it -/
theorem vx_catch {own name : String} {E : String} {ce : Cell} {q : Addr} (hown : s.vm.findClass own = some m.cls) (pre : List ExceptionTableEntry) (x : ExceptionTableEntry) (suf : List ExceptionTableEntry) (hsplit : c.exceptionTable.toList = pre ++ x :: suf)
    (hpass : ∀ z ∈ pre, covers z pc = false ∨ (z.catchType ≠ 0 ∧ ∃ nm : String, (Cond.classLink own z.catchType nm).before args s = true ∧ va_Nc E nm s)) (hx : covers x pc = true) (h0 : x.catchType ≠ 0)
    (hlink : (Cond.classLink own x.catchType name).before args s = true) (hcast : (Cond.castable E name).before args s = true) (hcell : H[q]? = some ce) (hv : ce.vm = .none) (hcl : s.vm.findClass E = some ce.cls)
    (kk : W p l e R s m args below meth c H locs cells slots Q (F0 m x.handlerPc ls [.ref q])) : vx_W p l e R s m args below meth c H locs cells slots Q (F0 m pc ls rest) q := by
  intro T hT X
  have hpl : e.platform.magicAccessors = ({} : Platform).magicAccessors := by rw [X.admits.platform]
  obtain ⟨c3, c4, hc3, hc4, hasg⟩ := Cond.castable_spec hcast
  cases Option.some.inj (hc3.symm.trans hcl)
  obtain ⟨c5, hc5, hcl5⟩ := Cond.classLink_spec hown hlink e.platform hpl
  cases Option.some.inj (hc4.symm.trans hc5)
  obtain ⟨vm', X', st⟩ := Stand.thenCaughtThrough X q (g := F0 m pc ls rest) rfl (Steps.refl _) (by rw [hT]; exact hcell) (by rw [hv]; rfl) (by obtain ⟨k9, h9, -⟩ := Vm.findClass_spec hcl; exact ⟨k9, h9⟩) pre x suf hsplit
    (fun z hz => by
      rcases hpass z hz with h | ⟨hz0, nm, hl1, hn1⟩
      · exact Or.inl h
      · obtain ⟨c6, hc6, hcl6⟩ := Cond.classLink_spec hown hl1 e.platform hpl
        obtain ⟨a8, b8, h1, h2, h3⟩ := hn1
        cases Option.some.inj (h1.symm.trans hcl)
        cases Option.some.inj (h2.symm.trans hc6)
        exact Or.inr ⟨hz0, _, hcl6, h3⟩) hx (Or.inr ⟨h0, c4, hcl5, hasg⟩)
  obtain ⟨t, a1, b1⟩ := kk (T.setVm vm') hT X'
  exact ⟨t, st.trans a1, b1⟩
end Rows
section Ends
variable {p : Program} {l : Launch} {e : Env} {R : Room} {s : State} {m : MethodId} {args : Array Value} {below : List Frame} {meth : Method} {c : Code} {H : Heap} {locs : List Loc} {cells slots : Nat} {Q : State → Prop}
variable {mc ms : Nat} {free : Addr → Prop} {A0 A1 : Nat → Prop} {H0 : Heap} {a : Array Value} {ls : Array Slot} {st0 rest : List Value}
variable {Qc : Array Value → State → Outcome → State → Prop} {XC : String → State → State → Prop}
/-- what a body that may throw owes at its end -/
def vx_MQ (below : List Frame) (Qc : Array Value → State → Outcome → State → Prop) (XC : String → State → State → Prop) (a : Array Value) (s : State) (mc ms : Nat) (free : Addr → Prop) : State → Prop := fun t =>
  ∃ o, t.status = .running ∧ Ended t below o ∧ vx_Q Qc XC mc ms free a s o t
theorem vx_ret {g : JFrame} {mc ms : Nat} (k : W p l e R s m args below meth c H locs cells slots (MQ below Qc args s mc ms free) g) : W p l e R s m args below meth c H locs cells slots (vx_MQ below Qc XC args s mc ms free) g := by
  intro T hT X
  obtain ⟨t, a1, o, b1, b2, b3, b4⟩ := k T hT X
  exact ⟨t, a1, o, b1, b2, Or.inl ⟨b3, b4⟩⟩
/-- not caught here: it goes on to the caller -/
theorem vx_widen {g : JFrame} {q : Addr} {k n : Nat} (h1 : cells ≤ k) (h2 : slots ≤ n) (kk : vx_W p l e R s m args below meth c H locs k n Q g q) : vx_W p l e R s m args below meth c H locs cells slots Q g q := fun T hT X => kk T hT (stand_widen X h1 h2)
theorem vx_out {pc : Nat} {E : String} {ce : Cell} {q : Addr} {mc ms : Nat} (hout : ∀ x ∈ c.exceptionTable.toList, covers x pc = false) (hlocks : meth.locks = false) (hcell : H[q]? = some ce) (hv : ce.vm = .none) (hcl : s.vm.findClass E = some ce.cls)
    (hx : ∀ t : State, t.heap = H → s.vm.Alike t.vm → XC E s t) (hf : ∀ z ∈ locs, free z.base) (hc : cells ≤ mc) (hs : slots ≤ ms) :
    vx_W p l e R s m args below meth c H locs cells slots (vx_MQ below Qc XC args s mc ms free) (F0 m pc ls rest) q := by
  intro T hT X
  obtain ⟨st1, hrun, hend, hW, hsm⟩ := X.leaveThrown q (g := F0 m pc ls rest) rfl rfl rfl hout hlocks
  have hcell9 : (T.setFrames (.throwing q :: below)).heap[q]? = some ce := by
    show T.heap[q]? = some ce
    rw [hT]; exact hcell
  exact ⟨_, st1, .threw q, hrun, hend, Or.inr ⟨q, rfl, E, ce, locs, hx _ hT hW.alike, hcell9, hv, hcl, hW, hsm.mono hc hs, hf⟩⟩
theorem vx_frame {U : State} {k n : Nat} (h : s.sameButNew ({ U with vm := s.vm } : State) locs k n) : s.heap.size ≤ U.heap.size ∧ ∀ q : Nat, q < s.heap.size → (∀ z ∈ locs, z.base ≠ q) → U.heap[q]? = s.heap[q]? := by
  obtain ⟨-, h2, -, -, -, h6⟩ := h
  refine ⟨h2, fun q hq hz => ?_⟩
  obtain ⟨c9, e1, e2, e3, e4⟩ := h6 q _ (Array.getElem?_eq_getElem hq)
  have hs : c9.slots = (s.heap[q]).slots := Array.ext_getElem? fun i => e4 i fun hm => hz _ hm rfl
  have h9 : c9 = s.heap[q] := by
    rw [hs] at e2
    exact e2
  have e5 : U.heap[q]? = some c9 := e1
  rw [e5, h9, Array.getElem?_eq_getElem hq]
/-- the words of a throw but the four that speak of the heap -/
def vx_no (w : Cond) : Bool := decide (w ≠ .isRef (.static Bundle.tN "UNASSIGNED_STACK" Bundle.steD)) && decide (w ≠ .isRef (.static Bundle.tN "SUPPRESSED_SENTINEL" Bundle.listD)) && decide (w ≠ .laysStatic Bundle.tN "UNASSIGNED_STACK" Bundle.steD) && decide (w ≠ .laysStatic Bundle.tN "SUPPRESSED_SENTINEL" Bundle.listD)
def vx_at0 (own : String) (ic : Nat) (X : String) (names : List String) : List Cond := (Bundle.ownAtoms0 own ic X names).filter vx_no
def vx_atS (own : String) (ic : Nat) (X : String) (names : List String) : List Cond := (Bundle.ownAtoms own ic X names).filter vx_no
/-- a word that the tables alone decide, or a good one -/
def vx_ot (w : Cond) : Bool := w.onTables || goodWord w
theorem vx_ot_at {args a' : Array Value} {s U : State} {w : Cond} (hW : s.WarmedH U.vm) (hvm : s.vm = U.vm) (hg : vx_ot w = true) (h : w.before args s = true) : w.before a' U = true := by
  simp only [vx_ot, Bool.or_eq_true] at hg
  rcases hg with hg | hg
  · exact va_tabs hg hvm h
  · exact word_at hW (good_of_word hg) h
/-- a list's words: the good ones out of the method's own list, the others by premises of their own -/
theorem vx_hat {args : Array Value} {s : State} {L B : List Cond} (h1 : ∀ w ∈ L.filter goodWord, w.before args s = true) (h2 : ∀ w ∈ L.filter (fun w => !goodWord w), w ∈ B) (h3 : ∀ w ∈ B, w.before args s = true) : ∀ w ∈ L, w.before args s = true := by
  intro w hw
  by_cases g : goodWord w = true
  · exact h1 w (List.mem_filter.mpr ⟨hw, g⟩)
  · refine h3 w (h2 w (List.mem_filter.mpr ⟨hw, ?_⟩))
    show (!goodWord w) = true
    cases hgw : goodWord w
    · rfl
    · exact absurd hgw g
theorem vx_c {args : Array Value} {s : State} {w : Cond} {B : List Cond} (h : w.before args s = true) (t : ∀ w ∈ B, w.before args s = true) : ∀ w' ∈ w :: B, w'.before args s = true := fun w' h' => (List.mem_cons.mp h').elim (fun e => by rw [e]; exact h) (t w')
theorem vx_n {args : Array Value} {s : State} : ∀ w ∈ ([] : List Cond), w.before args s = true := fun _ h => nomatch h
theorem vx_own {args : Array Value} {s : State} {L : List Cond} (h1 : ∀ w ∈ L.filter vx_no, w.before args s = true)
    (hU : (Cond.isRef (.static Bundle.tN "UNASSIGNED_STACK" Bundle.steD)).before args s = true) (hN : (Cond.isRef (.static Bundle.tN "SUPPRESSED_SENTINEL" Bundle.listD)).before args s = true)
    (lU : (Cond.laysStatic Bundle.tN "UNASSIGNED_STACK" Bundle.steD).before args s = true) (lN : (Cond.laysStatic Bundle.tN "SUPPRESSED_SENTINEL" Bundle.listD).before args s = true) : ∀ w ∈ L, w.before args s = true := by
  intro w hw
  by_cases e1 : w = .isRef (.static Bundle.tN "UNASSIGNED_STACK" Bundle.steD)
  · rw [e1]; exact hU
  · by_cases e2 : w = .isRef (.static Bundle.tN "SUPPRESSED_SENTINEL" Bundle.listD)
    · rw [e2]; exact hN
    · by_cases e3 : w = .laysStatic Bundle.tN "UNASSIGNED_STACK" Bundle.steD
      · rw [e3]; exact lU
      · by_cases e4 : w = .laysStatic Bundle.tN "SUPPRESSED_SENTINEL" Bundle.listD
        · rw [e4]; exact lN
        · exact h1 w (List.mem_filter.mpr ⟨hw, by unfold vx_no; rw [decide_eq_true e1, decide_eq_true e2, decide_eq_true e3, decide_eq_true e4]; rfl⟩)
/-- where a static field lies, its class's statics cell in H -/
def vx_L (C n d : String) (A : Nat → Prop) (U : State) (H : Heap) : Prop := ∃ (c : ClassId) (k : Class) (i : Nat) (f : Field) (a : Nat) (cell : Cell), U.vm.findClass C = some c ∧ U.fieldFound? C n d = some (c, k, i, f) ∧ f.isStatic = true ∧ k.statics = some a ∧ H[a]? = some cell ∧ cell.vm.isStatics = true ∧ cell.cls = c ∧ f.slot < cell.slots.size ∧ k.staticTypes[f.slot]? = some f.type ∧ ¬ A a
theorem vx_L.moved {C n d : String} {A : Nat → Prop} {u U : State} {H : Heap} (hvm : u.vm.Alike U.vm) (h : vx_L C n d A u H) : vx_L C n d A U H := by
  obtain ⟨c, k, i, f, a, cell, h1, h2, h3, h4, h5, h6, h7, h8, h9, h10⟩ := h
  obtain ⟨k', hi', he⟩ := State.fieldFound?_setVm hvm h2
  exact ⟨c, k', i, f, a, cell, by rw [hvm.findClass]; exact h1, hi', h3, by rw [he]; exact h4, h5, h6, h7, h8, by rw [he]; exact h9, h10⟩
theorem vx_L.kept {C n d : String} {A : Nat → Prop} {U : State} {H H1 : Heap} (h : vx_L C n d A U H) (hq : ∀ a : Nat, a < H.size → ¬ A a → H1[a]? = H[a]?) : vx_L C n d A U H1 := by
  obtain ⟨c, k, i, f, a, cell, h1, h2, h3, h4, h5, h6, h7, h8, h9, h10⟩ := h
  exact ⟨c, k, i, f, a, cell, h1, h2, h3, h4, by rw [hq a (Array.getElem?_eq_some_iff.mp h5).1 h10]; exact h5, h6, h7, h8, h9, h10⟩
theorem vx_L.narrow {C n d : String} {A B : Nat → Prop} {U : State} {H : Heap} (h : vx_L C n d A U H) (hAB : ∀ q, B q → A q) : vx_L C n d B U H := by
  obtain ⟨c, k, i, f, a, cell, h1, h2, h3, h4, h5, h6, h7, h8, h9, h10⟩ := h
  exact ⟨c, k, i, f, a, cell, h1, h2, h3, h4, h5, h6, h7, h8, h9, fun z => h10 (hAB _ z)⟩
theorem vx_L.word {C n d : String} {A : Nat → Prop} {s : State} {args : Array Value} (h : vx_L C n d A s s.heap) : (Cond.laysStatic C n d).before args s = true := by
  obtain ⟨c, k, i, f, a, cell, h1, h2, h3, h4, h5, h6, h7, h8, h9, -⟩ := h
  show (Cond.laysStatic C n d).holds args s none s [] = true
  exact Cond.laysStatic_of h1 h2 h3 h4 h5 h6 h7 h8 h9
/-- .. and what it holds: null or some reference -/
def vx_Zq (C n d : String) (A : Nat → Prop) (U : State) (H : Heap) : Prop := va_Zq C n d A U H ∧ vx_L C n d A U H
theorem vx_Zq.moved {C n d : String} {A : Nat → Prop} {u U : State} {H : Heap} (hvm : u.vm.Alike U.vm) (h : vx_Zq C n d A u H) : vx_Zq C n d A U H := ⟨va_Zq.moved hvm h.1, vx_L.moved hvm h.2⟩
theorem vx_Zq.kept {C n d : String} {A : Nat → Prop} {U : State} {H H1 : Heap} (h : vx_Zq C n d A U H) (hq : ∀ a : Nat, a < H.size → ¬ A a → H1[a]? = H[a]?) : vx_Zq C n d A U H1 := ⟨va_Zq.kept h.1 hq, vx_L.kept h.2 hq⟩
theorem vx_Zq.narrow {C n d : String} {A B : Nat → Prop} {U : State} {H : Heap} (h : vx_Zq C n d A U H) (hAB : ∀ q, B q → A q) : vx_Zq C n d B U H := ⟨va_Zq.narrow h.1 hAB, vx_L.narrow h.2 hAB⟩
theorem vx_Zqof {args : Array Value} {s : State} {C n d : String} {A : Nat → Prop} (hl : (Cond.laysStatic C n d).before args s = true) (hini : (Cond.initialized C).before args s = true) (h : (Cond.isRef (.static C n d)).before args s = true) (hA : ∀ a : Nat, a < s.heap.size → ¬ A a) : vx_Zq C n d A s s.heap := by
  refine ⟨va_Zqof hl hini h hA, ?_⟩
  obtain ⟨c, k, i, f, a, cell, h1, h2, h3, h4, h5, h6, h7, h8, h9⟩ := Cond.laysStatic_spec hl
  exact ⟨c, k, i, f, a, cell, h1, h2, h3, h4, h5, h6, h7, h8, h9, hA a (Array.getElem?_eq_some_iff.mp h5).1⟩
theorem vx_isRef {C n d : String} {v : Value} {A : Nat → Prop} {s : State} {args : Array Value} (h : va_Z C n d v A s s.heap) (hv : v.isRef = true) : (Cond.isRef (.static C n d)).before args s = true := by
  obtain ⟨cf, kf, fi, f, a, cell, h1, h2, h3, h4, h5, h6, h7, -⟩ := h
  have he : (Term.static C n d).eval args s none [] s = some v := by
    simp [Term.eval, State.fieldNamed?, h1, h2, h4, h5, h6, h7]
  simp only [Cond.before, Cond.holds, Cond.value, he]
  cases v <;> simp_all [Value.isRef]
theorem vx_isRefq {C n d : String} {A : Nat → Prop} {s : State} {args : Array Value} (h : va_Zq C n d A s s.heap) : (Cond.isRef (.static C n d)).before args s = true := by
  rcases h with h | ⟨t, h⟩
  · exact vx_isRef h rfl
  · exact vx_isRef h rfl
/-- the same frame, seen from here: as if the method were called anew in this heap -/
theorem vx_rebase {T : State} (X : Stand p l e R s m args below meth c T locs cells slots) {R' : Room} (hf : R'.frames ≤ R.frames) (hl : R'.locals ≤ R.locals) (hc : cells + R'.cells ≤ R.cells) (hs : slots + R'.slots ≤ R.slots) :
    Stand p l e R' ((T.setVm s.vm).setFrames (.invoking m args :: below)) m args below meth c T [] 0 0 := by
  have htop : (T.setVm s.vm).topJava?.isSome := X.here.top
  have hF : ((T.setVm s.vm).setFrames (.invoking m args :: below)).frames = .invoking m args :: below := State.frames_setFrames _ (State.cur_lt_of_top htop)
  obtain ⟨g₀, hg0⟩ := Option.isSome_iff_exists.mp htop
  obtain ⟨r, hr⟩ := State.topJava?_eq_some.mp hg0
  have hl9 : e.platform.stackLimits (T.setVm s.vm).me = e.platform.stackLimits s.me := X.limits
  have hb9 : (T.setVm s.vm).me.stackBytes = s.me.stackBytes := X.bytes
  refine ⟨X.admits, X.cas, X.clock, hF, ?_, X.hears, X.method, X.code, X.here, X.tail, X.warmed, ?_, ?_, ?_⟩
  · have h := X.room
    have hU : ((T.setVm s.vm).setFrames (.invoking m args :: below)).localsInUse = s.localsInUse := by
      rw [State.localsInUse_invoking hF (meth := meth) (c := c) X.method X.code, State.localsInUse_invoking X.frames X.method X.code]
    simp only [State.hasRoom, Bool.and_eq_true, decide_eq_true_eq] at h ⊢
    obtain ⟨⟨⟨⟨h1, h2, h3, h4, h5, h6⟩, h7⟩, h8⟩, h9⟩ := h
    rw [X.frames, List.length_cons] at h2 h3
    have q1 := X.heapSize
    have q2 := X.used
    simp only [hF, hU, List.length_cons, State.stackLimits_setFrames, State.stackBytes_setFrames, hl9, hb9]
    refine ⟨⟨⟨⟨by omega, by omega, by omega, by omega, by omega, h6⟩, ?_⟩, ?_⟩, X.book⟩
    · show T.heap.size + R'.cells ≤ e.platform.maxCells
      omega
    · show T.slotsUsed + R'.slots ≤ e.platform.maxSlots
      omega
  · rw [State.stackLimits_setFrames]; rfl
  · rw [State.stackBytes_setFrames]; rfl
  · refine ⟨?_, Nat.le_refl _, Nat.le_refl _, ?_, ?_, fun a c9 h9 => ⟨c9, h9, rfl, rfl, fun _ _ => rfl⟩⟩
    · obtain ⟨t, ht, -⟩ := State.frames_cons hr
      show T.setVm s.vm = { ((T.setVm s.vm).setFrames (.invoking m args :: below)).setFrames (T.setVm s.vm).frames with heap := T.heap, slotsUsed := T.slotsUsed }
      rw [State.setFrames_setFrames, State.setFrames_self ht]
      rfl
    · show T.slotsUsed = T.slotsUsed + ((T.heap.toList.drop T.heap.size).map (·.slots.size)).sum
      rw [List.drop_eq_nil_of_le (Nat.le_of_eq Array.length_toList)]
      rfl
    · show ((T.heap.toList.drop T.heap.size).map (·.slots.size)).sum ≤ 0
      rw [List.drop_eq_nil_of_le (Nat.le_of_eq Array.length_toList)]
      exact Nat.le_refl _
/-- 'throw new E()': new; dup; invokespecial; athrow -/
theorem vx_throw0 {cc : ByteArray} {pc : Nat} (hexec : p.tables.exec = Jvm.exec) (hb : c.code = cc) (hl : l.stackTraces = false) {own cls : String} {names : List String} {ik ic mc ms : Nat} {A : Nat → Prop}
    (hown : s.vm.findClass own = some m.cls) (hcls : Bundle.fit cls = true) (hnames : ∀ n ∈ names, Bundle.fit n = true)
    (hk : (Cond.classLink own ik cls).before args s = true) (hini : (Cond.initialized cls).before args s = true) (hat : ∀ w ∈ vx_at0 own ic cls names, w.before args s = true)
    (hgood : ∀ w ∈ Cond.classLink own ik cls :: Cond.initialized cls :: vx_at0 own ic cls names, vx_ot w = true)
    (hU : vx_Zq Bundle.tN "UNASSIGNED_STACK" Bundle.steD A s s.heap) (hN : vx_Zq Bundle.tN "SUPPRESSED_SENTINEL" Bundle.listD A s s.heap) (hS : va_S A s.heap H locs) (hsize : ls.size = c.maxLocals)
    (d0 : decode cc pc = .ok (.new ik, 3)) (d3 : decode cc (pc + 3) = .ok (.dup, 1)) (d4 : decode cc (pc + 4) = .ok (.invokespecial ic, 3)) (d7 : decode cc (pc + 7) = .ok (.athrow, 1))
    (hout : ∀ x ∈ c.exceptionTable.toList, covers x (pc + 7) = false)
    (hRframes : names.length + 3 < R.frames) (hRlocals : (rest.map fun v => v.category).sum + (13 * (names.length + 1) + 42) ≤ R.locals) (hRcells : cells + 1 ≤ R.cells) (hRslots : slots + 6 ≤ R.slots) (hlocks : meth.locks = false)
    (hx : ∀ t : State, s.vm.Alike t.vm → H.size ≤ t.heap.size → (∀ q : Nat, q < H.size → t.heap[q]? = H[q]?) → XC cls s t)
    (hf : ∀ z ∈ locs, free z.base) (hc : cells + 1 ≤ mc) (hs : slots + 6 ≤ ms) :
    W p l e R s m args below meth c H locs cells slots (vx_MQ below Qc XC args s mc ms free) (F0 m pc ls rest) := by
  intro T hT X
  have htr : e.platform.stackTraces = false := (show e.platform.stackTraces = l.stackTraces by rw [X.admits.platform]).trans hl
  have Y := vx_rebase X (R' := { frames := R.frames, locals := R.locals, cells := 1, slots := 6 }) (Nat.le_refl _) (Nat.le_refl _) hRcells hRslots
  obtain ⟨s', hA⟩ : ∃ z, z = (T.setVm s.vm).setFrames (.invoking m args :: below) := ⟨_, rfl⟩
  rw [← hA] at Y
  have hvm : s'.vm = s.vm := by rw [hA]; rfl
  have hhp : s'.heap = H := by rw [hA]; exact hT
  have hW0 : s.WarmedH s'.vm := by rw [hvm]; exact State.WarmedH.refl s
  have hat' : ∀ w ∈ vx_at0 own ic cls names, w.before args s' = true := fun w hw => vx_ot_at hW0 hvm.symm (hgood w (List.mem_cons_of_mem _ (List.mem_cons_of_mem _ hw))) (hat w hw)
  have hk' : (Cond.classLink own ik cls).before args s' = true := vx_ot_at hW0 hvm.symm (hgood _ List.mem_cons_self) hk
  have hini' : (Cond.initialized cls).before args s' = true := vx_ot_at hW0 hvm.symm (hgood _ (List.mem_cons_of_mem _ List.mem_cons_self)) hini
  have hU' : vx_Zq Bundle.tN "UNASSIGNED_STACK" Bundle.steD A s' s'.heap := by rw [hhp]; exact vx_Zq.moved hW0.alike (hU.kept hS.2.1)
  have hN' : vx_Zq Bundle.tN "SUPPRESSED_SENTINEL" Bundle.listD A s' s'.heap := by rw [hhp]; exact vx_Zq.moved hW0.alike (hN.kept hS.2.1)
  have h : ∀ w ∈ Bundle.ownAtoms0 own ic cls names, w.before args s' = true := vx_own hat' (vx_isRefq hU'.1) (vx_isRefq hN'.1) hU'.2.word hN'.2.word
  have hown' : s'.vm.findClass own = some m.cls := by rw [hvm]; exact hown
  have hins : (Cond.instantiable cls 6).before args s' = true := h _ (by simp [Bundle.ownAtoms0])
  obtain ⟨vm₁, cX, kX, hfX, hkX, -, -, X₁, st1⟩ := Y.newCold hexec (own := own) (C := cls) (index := ik) (n := 6) hown' hk' hins hini'
    (g := F0 m pc ls rest) rfl (by rw [hb]; exact d0) (Nat.le_refl _) (Nat.le_refl _)
  generalize hT1 : (T.setVm vm₁).pushCell { cls := cX, slots := kX.instanceTypes.map defaultValue, vm := .none } = T1 at X₁ st1
  have hcat : (Value.ref T.heap.size).category = 1 := rfl
  have hcellA : T1.heap[T.heap.size]? = some (freshCell cX kX) := by rw [← hT1]; exact State.heap_pushCell_size _ _
  have d3' : decode c.code (pc + 3) = .ok (.dup, 1) := by rw [hb]; exact d3
  obtain ⟨U, hsteps, hrun, hend, hW, hsame, ce, hce, hO⟩ := X₁.ctorThrow0 hexec htr (own := own) (cls := cls) (names := names) (ic := ic) hown' hcls hnames h (fun x hx => nomatch hx) hfX hkX hcellA (by rw [hhp, hT]; exact Nat.le_refl _)
    (g := { method := m, pc := pc + 4, locals := ls, stack := .ref T.heap.size :: .ref T.heap.size :: rest, locked := none }) rfl hsize rfl rfl (rest := rest) rfl
    (by rw [hb]; exact d4) (by rw [hb]; exact d7) hout hRframes (by simp only [List.map_cons, List.sum_cons, hcat]; omega) hlocks
  obtain ⟨f1, f2⟩ := vx_frame hsame
  rw [hhp] at f1 f2
  have hWs : s.WarmedH U.vm := State.WarmedH.trans hW0 hW
  have hcl : s.vm.findClass cls = some ce.cls := by
    have h9 := hO.cls
    rw [hvm] at h9
    exact h9
  have hall : s.sameButNew ({ U with vm := s.vm } : State) locs mc ms := by
    subst hA
    obtain ⟨e1, e2⟩ := hsame
    rw [State.setFrames_setFrames] at e1
    have h2 : (T.setVm s.vm).sameButNew ({ U with vm := s.vm } : State) [] (0 + 1) (0 + 6) := ⟨e1, e2⟩
    have h3 := X.same.trans h2
    rw [List.append_nil] at h3
    exact h3.mono hc hs
  refine ⟨U, ?_, .threw T.heap.size, hrun, hend, Or.inr ⟨T.heap.size, rfl, cls, ce, locs, hx U hWs.alike f1 (fun q hq => f2 q hq (fun z hz => nomatch hz)), hce, hO.vm, hcl, hWs, hall, hf⟩⟩
  refine st1 _ ?_
  show Steps p.tables e below (T1.setTop { method := m, pc := pc + 3, locals := ls, stack := .ref T.heap.size :: rest, locked := none }) _
  jvm_step X₁.here [X₁.here.top, hexec, d3', Value.category]
  exact hsteps
/-- 'throw new E("text")': new; dup; ldc; invokespecial; athrow -/
theorem vx_throwS {cc : ByteArray} {pc : Nat} (hexec : p.tables.exec = Jvm.exec) (hb : c.code = cc) (hl : l.stackTraces = false) {own cls text : String} {names : List String} {ik is ic mc ms sa : Nat} {A : Nat → Prop}
    (hown : s.vm.findClass own = some m.cls) (hcls : Bundle.fit cls = true) (hnames : ∀ n ∈ names, Bundle.fit n = true)
    (hk : (Cond.classLink own ik cls).before args s = true) (hini : (Cond.initialized cls).before args s = true) (hstr : vk_R own is text sa s) (hat : ∀ w ∈ vx_atS own ic cls names, w.before args s = true)
    (hgood : ∀ w ∈ Cond.classLink own ik cls :: Cond.initialized cls :: vx_atS own ic cls names, vx_ot w = true)
    (hU : vx_Zq Bundle.tN "UNASSIGNED_STACK" Bundle.steD A s s.heap) (hN : vx_Zq Bundle.tN "SUPPRESSED_SENTINEL" Bundle.listD A s s.heap) (hS : va_S A s.heap H locs) (hsize : ls.size = c.maxLocals)
    (d0 : decode cc pc = .ok (.new ik, 3)) (d3 : decode cc (pc + 3) = .ok (.dup, 1)) (d4 : decode cc (pc + 4) = .ok (.ldc is, 2)) (d6 : decode cc (pc + 6) = .ok (.invokespecial ic, 3)) (d9 : decode cc (pc + 9) = .ok (.athrow, 1))
    (hout : ∀ x ∈ c.exceptionTable.toList, covers x (pc + 9) = false)
    (hRframes : names.length + 3 < R.frames) (hRlocals : (rest.map fun v => v.category).sum + (13 * (names.length + 1) + 43) ≤ R.locals) (hRcells : cells + 1 ≤ R.cells) (hRslots : slots + 6 ≤ R.slots) (hlocks : meth.locks = false)
    (hx : ∀ t : State, s.vm.Alike t.vm → H.size ≤ t.heap.size → (∀ q : Nat, q < H.size → t.heap[q]? = H[q]?) → XC cls s t)
    (hf : ∀ z ∈ locs, free z.base) (hc : cells + 1 ≤ mc) (hs : slots + 6 ≤ ms) :
    W p l e R s m args below meth c H locs cells slots (vx_MQ below Qc XC args s mc ms free) (F0 m pc ls rest) := by
  intro T hT X
  have htr : e.platform.stackTraces = false := (show e.platform.stackTraces = l.stackTraces by rw [X.admits.platform]).trans hl
  have Y := vx_rebase X (R' := { frames := R.frames, locals := R.locals, cells := 1, slots := 6 }) (Nat.le_refl _) (Nat.le_refl _) hRcells hRslots
  obtain ⟨s', hA⟩ : ∃ z, z = (T.setVm s.vm).setFrames (.invoking m args :: below) := ⟨_, rfl⟩
  rw [← hA] at Y
  have hvm : s'.vm = s.vm := by rw [hA]; rfl
  have hhp : s'.heap = H := by rw [hA]; exact hT
  have hW0 : s.WarmedH s'.vm := by rw [hvm]; exact State.WarmedH.refl s
  have hat' : ∀ w ∈ vx_atS own ic cls names, w.before args s' = true := fun w hw => vx_ot_at hW0 hvm.symm (hgood w (List.mem_cons_of_mem _ (List.mem_cons_of_mem _ hw))) (hat w hw)
  have hk' : (Cond.classLink own ik cls).before args s' = true := vx_ot_at hW0 hvm.symm (hgood _ List.mem_cons_self) hk
  have hini' : (Cond.initialized cls).before args s' = true := vx_ot_at hW0 hvm.symm (hgood _ (List.mem_cons_of_mem _ List.mem_cons_self)) hini
  have hU' : vx_Zq Bundle.tN "UNASSIGNED_STACK" Bundle.steD A s' s'.heap := by rw [hhp]; exact vx_Zq.moved hW0.alike (hU.kept hS.2.1)
  have hN' : vx_Zq Bundle.tN "SUPPRESSED_SENTINEL" Bundle.listD A s' s'.heap := by rw [hhp]; exact vx_Zq.moved hW0.alike (hN.kept hS.2.1)
  have h : ∀ w ∈ Bundle.ownAtoms own ic cls names, w.before args s' = true := vx_own hat' (vx_isRefq hU'.1) (vx_isRefq hN'.1) hU'.2.word hN'.2.word
  have hown' : s'.vm.findClass own = some m.cls := by rw [hvm]; exact hown
  have hins : (Cond.instantiable cls 6).before args s' = true := h _ (by simp [Bundle.ownAtoms])
  obtain ⟨vm₁, cX, kX, hfX, hkX, -, -, X₁, st1⟩ := Y.newCold hexec (own := own) (C := cls) (index := ik) (n := 6) hown' hk' hins hini'
    (g := F0 m pc ls rest) rfl (by rw [hb]; exact d0) (Nat.le_refl _) (Nat.le_refl _)
  generalize hT1 : (T.setVm vm₁).pushCell { cls := cX, slots := kX.instanceTypes.map defaultValue, vm := .none } = T1 at X₁ st1
  have hcat : (Value.ref T.heap.size).category = 1 := rfl
  have hcellA : T1.heap[T.heap.size]? = some (freshCell cX kX) := by rw [← hT1]; exact State.heap_pushCell_size _ _
  have d3' : decode c.code (pc + 3) = .ok (.dup, 1) := by rw [hb]; exact d3
  have d4' : decode c.code (pc + 4) = .ok (.ldc is, 2) := by rw [hb]; exact d4
  have hstr' : vk_R own is text sa s' := vk_R.warm hW0 hstr
  obtain ⟨U, hsteps, hrun, hend, hW, hsame, ce, hce, hO⟩ := X₁.ctorThrowS hexec htr (own := own) (cls := cls) (names := names) (ic := ic) hown' hcls hnames h (fun x hx => nomatch hx) hfX hkX hcellA (by rw [hhp, hT]; exact Nat.le_refl _) (msg := .ref sa) rfl
    (g := { method := m, pc := pc + 6, locals := ls, stack := .ref sa :: .ref T.heap.size :: .ref T.heap.size :: rest, locked := none }) rfl hsize rfl rfl (rest := rest) rfl
    (by rw [hb]; exact d6) (by rw [hb]; exact d9) hout hRframes (by simp only [List.map_cons, List.sum_cons, hcat]; omega) hlocks
  obtain ⟨f1, f2⟩ := vx_frame hsame
  rw [hhp] at f1 f2
  have hWs : s.WarmedH U.vm := State.WarmedH.trans hW0 hW
  have hcl : s.vm.findClass cls = some ce.cls := by
    have h9 := hO.cls
    rw [hvm] at h9
    exact h9
  have hall : s.sameButNew ({ U with vm := s.vm } : State) locs mc ms := by
    subst hA
    obtain ⟨e1, e2⟩ := hsame
    rw [State.setFrames_setFrames] at e1
    have h2 : (T.setVm s.vm).sameButNew ({ U with vm := s.vm } : State) [] (0 + 1) (0 + 6) := ⟨e1, e2⟩
    have h3 := X.same.trans h2
    rw [List.append_nil] at h3
    exact h3.mono hc hs
  refine ⟨U, ?_, .threw T.heap.size, hrun, hend, Or.inr ⟨T.heap.size, rfl, cls, ce, locs, hx U hWs.alike f1 (fun q hq => f2 q hq (fun z hz => nomatch hz)), hce, hO.vm, hcl, hWs, hall, hf⟩⟩
  refine st1 _ ?_
  show Steps p.tables e below (T1.setTop { method := m, pc := pc + 3, locals := ls, stack := .ref T.heap.size :: rest, locked := none }) _
  jvm_step X₁.here [X₁.here.top, hexec, d3', Value.category]
  exact X₁.ldcString hexec (own := own) (text := text) (index := is) (a := sa) hown' hstr'.1 hstr'.2
    (g := { method := m, pc := pc + 4, locals := ls, stack := .ref T.heap.size :: .ref T.heap.size :: rest, locked := none }) rfl d4' _ hsteps
/-- 'throw new E("text")', the text by a wide index -/
theorem vx_throwSW {cc : ByteArray} {pc : Nat} (hexec : p.tables.exec = Jvm.exec) (hb : c.code = cc) (hl : l.stackTraces = false) {own cls text : String} {names : List String} {ik is ic mc ms sa : Nat} {A : Nat → Prop}
    (hown : s.vm.findClass own = some m.cls) (hcls : Bundle.fit cls = true) (hnames : ∀ n ∈ names, Bundle.fit n = true)
    (hk : (Cond.classLink own ik cls).before args s = true) (hini : (Cond.initialized cls).before args s = true) (hstr : vk_R own is text sa s) (hat : ∀ w ∈ vx_atS own ic cls names, w.before args s = true)
    (hgood : ∀ w ∈ Cond.classLink own ik cls :: Cond.initialized cls :: vx_atS own ic cls names, vx_ot w = true)
    (hU : vx_Zq Bundle.tN "UNASSIGNED_STACK" Bundle.steD A s s.heap) (hN : vx_Zq Bundle.tN "SUPPRESSED_SENTINEL" Bundle.listD A s s.heap) (hS : va_S A s.heap H locs) (hsize : ls.size = c.maxLocals)
    (d0 : decode cc pc = .ok (.new ik, 3)) (d3 : decode cc (pc + 3) = .ok (.dup, 1)) (d4 : decode cc (pc + 4) = .ok (.ldc_w is, 3)) (d7 : decode cc (pc + 7) = .ok (.invokespecial ic, 3)) (d10 : decode cc (pc + 10) = .ok (.athrow, 1))
    (hout : ∀ x ∈ c.exceptionTable.toList, covers x (pc + 10) = false)
    (hRframes : names.length + 3 < R.frames) (hRlocals : (rest.map fun v => v.category).sum + (13 * (names.length + 1) + 43) ≤ R.locals) (hRcells : cells + 1 ≤ R.cells) (hRslots : slots + 6 ≤ R.slots) (hlocks : meth.locks = false)
    (hx : ∀ t : State, s.vm.Alike t.vm → H.size ≤ t.heap.size → (∀ q : Nat, q < H.size → t.heap[q]? = H[q]?) → XC cls s t)
    (hf : ∀ z ∈ locs, free z.base) (hc : cells + 1 ≤ mc) (hs : slots + 6 ≤ ms) :
    W p l e R s m args below meth c H locs cells slots (vx_MQ below Qc XC args s mc ms free) (F0 m pc ls rest) := by
  intro T hT X
  have htr : e.platform.stackTraces = false := (show e.platform.stackTraces = l.stackTraces by rw [X.admits.platform]).trans hl
  have Y := vx_rebase X (R' := { frames := R.frames, locals := R.locals, cells := 1, slots := 6 }) (Nat.le_refl _) (Nat.le_refl _) hRcells hRslots
  obtain ⟨s', hA⟩ : ∃ z, z = (T.setVm s.vm).setFrames (.invoking m args :: below) := ⟨_, rfl⟩
  rw [← hA] at Y
  have hvm : s'.vm = s.vm := by rw [hA]; rfl
  have hhp : s'.heap = H := by rw [hA]; exact hT
  have hW0 : s.WarmedH s'.vm := by rw [hvm]; exact State.WarmedH.refl s
  have hat' : ∀ w ∈ vx_atS own ic cls names, w.before args s' = true := fun w hw => vx_ot_at hW0 hvm.symm (hgood w (List.mem_cons_of_mem _ (List.mem_cons_of_mem _ hw))) (hat w hw)
  have hk' : (Cond.classLink own ik cls).before args s' = true := vx_ot_at hW0 hvm.symm (hgood _ List.mem_cons_self) hk
  have hini' : (Cond.initialized cls).before args s' = true := vx_ot_at hW0 hvm.symm (hgood _ (List.mem_cons_of_mem _ List.mem_cons_self)) hini
  have hU' : vx_Zq Bundle.tN "UNASSIGNED_STACK" Bundle.steD A s' s'.heap := by rw [hhp]; exact vx_Zq.moved hW0.alike (hU.kept hS.2.1)
  have hN' : vx_Zq Bundle.tN "SUPPRESSED_SENTINEL" Bundle.listD A s' s'.heap := by rw [hhp]; exact vx_Zq.moved hW0.alike (hN.kept hS.2.1)
  have h : ∀ w ∈ Bundle.ownAtoms own ic cls names, w.before args s' = true := vx_own hat' (vx_isRefq hU'.1) (vx_isRefq hN'.1) hU'.2.word hN'.2.word
  have hown' : s'.vm.findClass own = some m.cls := by rw [hvm]; exact hown
  have hins : (Cond.instantiable cls 6).before args s' = true := h _ (by simp [Bundle.ownAtoms])
  obtain ⟨vm₁, cX, kX, hfX, hkX, -, -, X₁, st1⟩ := Y.newCold hexec (own := own) (C := cls) (index := ik) (n := 6) hown' hk' hins hini'
    (g := F0 m pc ls rest) rfl (by rw [hb]; exact d0) (Nat.le_refl _) (Nat.le_refl _)
  generalize hT1 : (T.setVm vm₁).pushCell { cls := cX, slots := kX.instanceTypes.map defaultValue, vm := .none } = T1 at X₁ st1
  have hcat : (Value.ref T.heap.size).category = 1 := rfl
  have hcellA : T1.heap[T.heap.size]? = some (freshCell cX kX) := by rw [← hT1]; exact State.heap_pushCell_size _ _
  have d3' : decode c.code (pc + 3) = .ok (.dup, 1) := by rw [hb]; exact d3
  have d4' : decode c.code (pc + 4) = .ok (.ldc_w is, 3) := by rw [hb]; exact d4
  have hstr' : vk_R own is text sa s' := vk_R.warm hW0 hstr
  obtain ⟨U, hsteps, hrun, hend, hW, hsame, ce, hce, hO⟩ := X₁.ctorThrowS hexec htr (own := own) (cls := cls) (names := names) (ic := ic) hown' hcls hnames h (fun x hx => nomatch hx) hfX hkX hcellA (by rw [hhp, hT]; exact Nat.le_refl _) (msg := .ref sa) rfl
    (g := { method := m, pc := pc + 7, locals := ls, stack := .ref sa :: .ref T.heap.size :: .ref T.heap.size :: rest, locked := none }) rfl hsize rfl rfl (rest := rest) rfl
    (by rw [hb]; exact d7) (by rw [hb]; exact d10) hout hRframes (by simp only [List.map_cons, List.sum_cons, hcat]; omega) hlocks
  obtain ⟨f1, f2⟩ := vx_frame hsame
  rw [hhp] at f1 f2
  have hWs : s.WarmedH U.vm := State.WarmedH.trans hW0 hW
  have hcl : s.vm.findClass cls = some ce.cls := by
    have h9 := hO.cls
    rw [hvm] at h9
    exact h9
  have hall : s.sameButNew ({ U with vm := s.vm } : State) locs mc ms := by
    subst hA
    obtain ⟨e1, e2⟩ := hsame
    rw [State.setFrames_setFrames] at e1
    have h2 : (T.setVm s.vm).sameButNew ({ U with vm := s.vm } : State) [] (0 + 1) (0 + 6) := ⟨e1, e2⟩
    have h3 := X.same.trans h2
    rw [List.append_nil] at h3
    exact h3.mono hc hs
  refine ⟨U, ?_, .threw T.heap.size, hrun, hend, Or.inr ⟨T.heap.size, rfl, cls, ce, locs, hx U hWs.alike f1 (fun q hq => f2 q hq (fun z hz => nomatch hz)), hce, hO.vm, hcl, hWs, hall, hf⟩⟩
  refine st1 _ ?_
  show Steps p.tables e below (T1.setTop { method := m, pc := pc + 3, locals := ls, stack := .ref T.heap.size :: rest, locked := none }) _
  jvm_step X₁.here [X₁.here.top, hexec, d3', Value.category]
  exact X₁.ldcStringW hexec (own := own) (text := text) (index := is) (a := sa) hown' hstr'.1 hstr'.2
    (g := { method := m, pc := pc + 4, locals := ls, stack := .ref T.heap.size :: .ref T.heap.size :: rest, locked := none }) rfl d4' _ hsteps
end Ends
section Bodies
variable {l : Launch}
theorem vx_ofW {y : MethodName} {ws ws' : List Cond} {rm : Room} {Pc : Array Value → State → Prop} {Qc : Array Value → State → Outcome → State → Prop} {XC : String → State → State → Prop} {mc ms : Nat} {free : Addr → Prop} {cc : ByteArray} {maxL : Nat} {ret : Option FieldType}
    (hy : plainName y.cls = true) (hw : ws = Cond.code y cc maxL ret :: ws')
    (body : ∀ p e s m args below meth c s₁, BodyLoose p l y (headSpec ws rm) cc maxL ret e s m args below meth c s₁ → c.maxLocals = maxL → (∀ x ∈ c.exceptionTable.toList, False) → Pc args s →
      W p l e (headSpec ws rm).room s m args below meth c s.heap [] 0 0 (vx_MQ below Qc XC args s mc ms free) (entryFrame m args maxL)) : vx_Met l y ws rm Pc Qc XC mc ms free := by
  refine MetFree.of_bodyS (code := cc) (maxLocals := maxL) (ret := ret) hy ?_ ?_
  · intro args s m h hn
    obtain ⟨meth, c, h1, h2, h3, h4, h5, h6, -, -⟩ := Cond.code_spec hn (atoms_spec (ws := ws) h _ (by rw [hw]; exact List.mem_cons_self))
    exact ⟨meth, c, h1, h2, h3, h4, h5, h6⟩
  · intro p e s m args below meth c s₁ B hml hP _
    have hh0 : s₁.heap = s.heap := by rw [B.state]; rfl
    have ht : ∀ x ∈ c.exceptionTable.toList, False := by
      obtain ⟨meth9, c9, h1, h2, -, -, -, -, h7, -⟩ := Cond.code_spec B.named (atoms_spec (ws := ws) B.pre _ (by rw [hw]; exact List.mem_cons_self))
      cases Option.some.inj (h1.symm.trans B.method)
      cases Option.some.inj (h2.symm.trans (Stand.of_body B).code)
      intro x hx
      rw [Array.isEmpty_iff.mp h7] at hx
      cases hx
    obtain ⟨t, a1, o, b1, b2, b3⟩ := body p e s m args below meth c s₁ B hml ht hP s₁ hh0 (Stand.of_body B)
    exact ⟨t, o, a1, b1, b2, b3⟩
/-- the table of a body with handlers -/
theorem vx_table {p : Program} {x y : MethodName} {S : Spec} {cc bytes : ByteArray} {maxL maxL' : Nat} {ret ret' : Option FieldType} {e : Env} {s s₁ : State} {m : MethodId} {args : Array Value} {below : List Frame} {meth : Method} {c : Code} {hh : List (Nat × Nat × Nat × Nat)}
    (B : BodyLoose p l y S cc maxL ret e s m args below meth c s₁) (h : (Cond.codeWith y bytes maxL' ret' hh).before args s = true) : c.exceptionTable.toList = tableOf hh := by
  obtain ⟨m9, meth9, c9, hn9, h1, h2, -, -, h6, -⟩ := Cond.codeWith_spec h
  cases Option.some.inj (hn9.symm.trans B.named)
  cases Option.some.inj (h1.symm.trans B.method)
  cases Option.some.inj (h2.symm.trans (Stand.of_body B).code)
  rw [← h6, table_eq]
end Bodies
end VXA
/-! ===== END ===== -/
/-! ===== BEGIN a static call of a method with an exception table ===== -/
section VXS
variable {p : Program} {l : Launch} {e : Env} {R : Room} {s : State} {m : MethodId} {args : Array Value} {below : List Frame} {meth : Method} {c : Code} {T : State} {H : Heap} {locs : List Loc} {cells slots : Nat}
abbrev vx_CSW (R : Room) (s : State) (args : Array Value) (own : String) (index : Nat) (y : MethodName) (bytes : ByteArray) (maxL : Nat) (ret : Option FieldType) (hh : List (Nat × Nat × Nat × Nat)) (ws : List Cond) (rm : Room) (mc ms n : Nat) : Prop :=
  (rm.cells = mc ∧ rm.slots = ms ∧ rm.frames + 1 ≤ R.frames ∧ 8 + (maxL + 11) + rm.locals ≤ R.locals ∧ (∀ w ∈ ws, ∀ (a' : Array Value) (U : State), s.WarmedH U.vm → w.before a' U = true) ∧ Cond.codeWith y bytes maxL ret hh ∈ ws) ∧
  (Cond.codeWith y bytes maxL ret hh).before args s = true ∧ (Cond.initialized y.cls).before args s = true ∧ (y.cls ≠ "java/lang/invoke/MethodHandle" ∧ y.cls ≠ "java/lang/invoke/VarHandle") ∧
  (∀ sig, parseMethodDescriptor y.desc = some sig → n = sig.parameters.length) ∧ (Cond.methodLink own index y).before args s = true ∧ (Cond.static y).before args s = true
theorem vx_cwSW {own : String} {index maxL mc ms : Nat} {y : MethodName} {bytes : ByteArray} {ret : Option FieldType} {hh : List (Nat × Nat × Nat × Nat)} {Ts ws ws' : List Cond} {rm : Room} (n : Nat) (ht : ∀ w ∈ Ts, w.before args s = true) (hT : GoodIn Ts (va_wsS own index y ws)) (hw : ws = Cond.codeWith y bytes maxL ret hh :: ws') (hrc : rm.cells = mc) (hrs : rm.slots = ms)
    (hd : y.cls ≠ "java/lang/invoke/MethodHandle" ∧ y.cls ≠ "java/lang/invoke/VarHandle" ∧ (parseMethodDescriptor y.desc).map (fun d => d.parameters.length) = some n) (hR : rm.frames + 1 ≤ R.frames ∧ 8 + (maxL + 11) + rm.locals ≤ R.locals) :
    vx_CSW R s args own index y bytes maxL ret hh ws rm mc ms n := by
  have ok : ∀ w ∈ va_wsS own index y ws, w.before args s = true := fun w h => ht w (hT w h).1
  have hG : GoodIn Ts ws := fun w h => hT w (by unfold va_wsS; exact List.mem_append_right _ h)
  have hc : Cond.codeWith y bytes maxL ret hh ∈ ws := by rw [hw]; exact List.mem_cons_self
  refine ⟨⟨hrc, hrs, hR.1, hR.2, pay_in ht hG, hc⟩, ht _ (hG _ hc).1, ok _ (by simp [va_wsS]), ⟨hd.1, hd.2.1⟩, fun sig h => ?_, ok _ (by simp [va_wsS]), ok _ (by simp [va_wsS])⟩
  have h2 := hd.2.2
  rw [h] at h2
  exact (Option.some.inj h2).symm
theorem vx_callSW (X : Stand p l e R s m args below meth c T locs cells slots) (hexec : p.tables.exec = Jvm.exec) {own : String} {index : Nat} {y : MethodName} {bytes : ByteArray} {maxL : Nat} {ret : Option FieldType} {hh : List (Nat × Nat × Nat × Nat)}
    (hown : s.vm.findClass own = some m.cls) (hlink : (Cond.methodLink own index y).before args s = true) (hstat : (Cond.static y).before args s = true) (hinit : (Cond.initialized y.cls).before args s = true)
    (hcode : (Cond.codeWith y bytes maxL ret hh).before args s = true) (hy : y.cls ≠ "java/lang/invoke/MethodHandle" ∧ y.cls ≠ "java/lang/invoke/VarHandle")
    {W9 : Nat} {Pre : Pt → Array Value → Prop} {Post : Pt → Array Value → Option Value → Pt → Prop} (hK : Back l R p e below s args y 3 W9 Pre Post)
    {g : JFrame} (hg : g.method = m) (hsize : g.locals.size = c.maxLocals) {argsL rest : List Value} (hlen : ∀ sig, parseMethodDescriptor y.desc = some sig → argsL.length = sig.parameters.length)
    (hstack : g.stack = argsL.reverse ++ rest) (hW : 2 * g.monitorRoom + (rest.map fun v => v.category).sum ≤ W9) (hdg : decode c.code g.pc = .ok (.invokestatic index, 3))
    (hpre : ∀ vm₁, s.WarmedH vm₁ → Pre ⟨T.setVm vm₁, locs, cells, slots⟩ argsL.toArray) :
    ∃ (v : Option Value) (vm₁ : Vm) (B : Pt), s.WarmedH vm₁ ∧ Stand p l e R s m args below meth c B.U B.locs B.cells B.slots ∧ Post ⟨T.setVm vm₁, locs, cells, slots⟩ argsL.toArray v B ∧
      ∀ target, Steps p.tables e below (B.U.setTop { g with pc := g.pc + 3, stack := v.toList ++ rest }) target → Steps p.tables e below (T.setTop g) target := by
  obtain ⟨mk, methM, cM, hnamed, hmethM, -, -, -, -, -, -, hsigM⟩ := Cond.codeWith_spec hcode
  have hstatic : methM.isStatic = true := Cond.static_spec hnamed hmethM hstat
  obtain ⟨kP, hkP, -⟩ := className_of_methodNamed hnamed
  have hinitP : kP.init = .initialized := Cond.initialized_spec (findClass_of_methodNamed hnamed) hkP hinit
  obtain ⟨vm₁, X₁, hstep₁⟩ := X.invokestatic hexec hown hlink hnamed hmethM hstatic hkP hinitP hy (g := g) hg (argsL := argsL) (rest := rest) (hlen _ hsigM) hstack hdg
  obtain ⟨v, B, X', hpost, hsteps⟩ := hK m meth c ⟨T.setVm vm₁, locs, cells, slots⟩ { g with stack := rest } (.invokestatic index) mk argsL.toArray X₁ hg hsize hdg hW (X₁.named hnamed) (hpre vm₁ X₁.warmed)
  exact ⟨v, vm₁, B, X₁.warmed, X', hpost, fun target h => hstep₁ _ fun acts => by rw [doInvoke_state]; exact hsteps.trans h⟩
theorem vx_runSW {y : MethodName} {bytes cc : ByteArray} {maxL nL mc ms n index : Nat} {ret : Option FieldType} {hh : List (Nat × Nat × Nat × Nat)} {ws : List Cond} {rm : Room} {Pc : Array Value → State → Prop} {Qc : Array Value → State → Outcome → State → Prop} {free : Addr → Prop} {Ts : List Cond} {own : String} {As rest : List Value} {g : JFrame}
    (S : CallFix p m c cc nL s args Ts own) (hM : Met l y ws rm Pc Qc mc ms free) (cw : vx_CSW R s args own index y bytes maxL ret hh ws rm mc ms n) (hp : PreS s H Pc As)
    (hg : g.method = m) (hn : As.length = n) (hsize : g.locals.size = nL) (hstack : g.stack = As.reverse ++ rest) (hW : 2 * g.monitorRoom + (rest.map fun v => v.category).sum ≤ 8) (hdg : decode cc g.pc = .ok (.invokestatic index, 3)) (hf : cells + mc ≤ R.cells ∧ slots + ms ≤ R.slots) :
    va_Run p l e R s m args below meth c H locs cells slots mc ms g rest (Qc As.toArray) (free) := by
  obtain ⟨⟨hrc, hrs, hfr, hlo, hws, hcw⟩, hcode, hini, hy, hlen, hl, hstt⟩ := cw
  have hK : Back l R p e below s args y 3 8 (PreOf R mc ms Pc) (PostOf Qc mc ms free) := va_backW (hh := hh) (bytes := bytes) (maxL := maxL) (ret := ret) hM hp.1 hrc hrs hfr hlo hws hcw (fun a' U hW => word_at hW (Or.inl (by first | rfl | simp [Cond.onTables, Cond.keeps, Cond.steady])) hini)
  obtain ⟨hx, hb, hml, ho, -⟩ := S
  intro T hT X
  obtain ⟨v, vm₁, ⟨U', l2, c2, s2⟩, hW₁, X', ⟨g', mk, t, L, e1, e2, hq, h1, hL, h2, h3⟩, st⟩ := vx_callSW X hx (hh := hh) (bytes := bytes) (maxL := maxL) (ret := ret) ho hl hstt hini hcode hy hK hg (hsize.trans hml.symm) (argsL := As) (rest := rest) (fun sig h => hn.trans (hlen sig h)) hstack hW (by rw [hb]; exact hdg)
    (fun vm₁ hW₁ => ⟨hf.1, hf.2, hp.2 (T.setVm vm₁) hT hW₁⟩)
  dsimp only [Pt.U, Pt.locs, Pt.cells, Pt.slots] at X' e1 e2 h1 h2 h3 st
  subst h1; subst h2; subst h3
  exact ⟨v, (T.setVm vm₁).calling g' mk As.toArray, t, U', L, hT, X', hL, e1, e2, hq, st⟩
/-- not caught here, past rows that name other classes: it goes on to the caller -/
theorem vx_outP {p : Program} {l : Launch} {e : Env} {R : Room} {s : State} {m : MethodId} {args : Array Value} {below : List Frame} {meth : Method} {c : Code} {H : Heap} {locs : List Loc} {cells slots : Nat} {free : Addr → Prop} {ls : Array Slot} {rest : List Value} {Qc : Array Value → State → Outcome → State → Prop} {XC : String → State → State → Prop}
    {pc : Nat} {own E : String} {ce : Cell} {q : Addr} {mc ms : Nat} (hown : s.vm.findClass own = some m.cls) (hlocks : meth.locks = false)
    (hpass : ∀ z ∈ c.exceptionTable.toList, covers z pc = false ∨ (z.catchType ≠ 0 ∧ ∃ nm : String, (Cond.classLink own z.catchType nm).before args s = true ∧ va_Nc E nm s)) (hcell : H[q]? = some ce) (hv : ce.vm = .none) (hcl : s.vm.findClass E = some ce.cls)
    (hx : ∀ t : State, t.heap = H → s.vm.Alike t.vm → XC E s t) (hf : ∀ z ∈ locs, free z.base) (hc : cells ≤ mc) (hs : slots ≤ ms) :
    vx_W p l e R s m args below meth c H locs cells slots (vx_MQ below Qc XC args s mc ms free) (F0 m pc ls rest) q := by
  intro T hT X
  have hpl : e.platform.magicAccessors = ({} : Platform).magicAccessors := by rw [X.admits.platform]
  obtain ⟨vm', hW', X', st⟩ := Stand.outThrough X hlocks q (g := F0 m pc ls rest) rfl rfl rfl (cell := ce) (by rw [hT]; exact hcell) (by rw [hv]; rfl)
    (by obtain ⟨k9, h9, -⟩ := Vm.findClass_spec hcl; exact ⟨k9, h9⟩) (fun z hz => by
      rcases hpass z hz with h | ⟨hz0, nm, hl1, hn1⟩
      · exact Or.inl h
      · obtain ⟨c6, hc6, hcl6⟩ := Cond.classLink_spec hown hl1 e.platform hpl
        obtain ⟨a8, b8, h1, h2, h3⟩ := hn1
        cases Option.some.inj (h1.symm.trans hcl)
        cases Option.some.inj (h2.symm.trans hc6)
        exact Or.inr ⟨hz0, _, hcl6, h3⟩)
  obtain ⟨g₀, hfr⟩ := X'.frames_eq
  have hcell9 : ((T.setVm vm').setFrames (.throwing q :: below)).heap[q]? = some ce := by
    show T.heap[q]? = some ce
    rw [hT]; exact hcell
  have hend : Ended ((T.setVm vm').setFrames (.throwing q :: below)) below (.threw q) := State.frames_setFrames _ (State.cur_lt_of_frames hfr)
  refine ⟨(T.setVm vm').setFrames (.throwing q :: below), ?_, .threw q, X'.here.running, hend, Or.inr ⟨q, rfl, E, ce, locs, hx _ hT (X'.ends _).1.alike, hcell9, hv, hcl, (X'.ends _).1, (X'.ends _).2.mono hc hs, hf⟩⟩
  rw [X.pushThrowing_eq]
  exact st
/-- a thing of a world lies in the heap -/
theorem vx_lt {D : va_G} {cl : List vw_C} {ws : va_W} {H1 : Heap} (h : va_P D cl ws H1) {k : Nat} {q : Nat × va_E} (hk : ws[k]? = some q) : q.1 < H1.size := (h k q hk).lt
end VXS
/-! ===== END ===== -/
/-! ===== BEGIN methods with a table of their own: called by a name, returning or throwing ===== -/
section VXH
/-! vx_backW, vx_callVX, vx_callSX, vx_callVW, vx_runVW, vx_runVX, vx_runSX, vx_ofWH follow the same proofs as their sisters above (Free/Laws.lean, Shelf42/LK1.lean); vx_outP calls Shelf42/NT130.lean (outThrough). -/
section
variable {l : Launch} {R : Room} {p : Program} {e : Env} {below : List Frame} {s : State} {sargs : Array Value} {y : MethodName} {len W9 : Nat}
theorem vx_backW {ws : List Cond} {rm : Room} {Pc : Array Value → State → Prop} {Qc : Array Value → State → Outcome → State → Prop} {XC : String → State → State → Prop} {mc ms : Nat} {free : Addr → Prop} {bytes : ByteArray} {maxL : Nat} {ret : Option FieldType} {hh : List (Nat × Nat × Nat × Nat)}
    (hM : vx_Met l y ws rm Pc Qc XC mc ms free) (hblind : FrameBlind Pc) (hrc : rm.cells = mc) (hrs : rm.slots = ms)
    (hframes : rm.frames + 1 ≤ R.frames) (hlocals : W9 + (maxL + 11) + rm.locals ≤ R.locals)
    (hws : ∀ w ∈ ws, ∀ a' U, s.WarmedH U.vm → w.before a' U = true) (hcode : Cond.codeWith y bytes maxL ret hh ∈ ws) (hinit : ∀ a' U, s.WarmedH U.vm → (Cond.initialized y.cls).before a' U = true) :
    vx_Back l R p e below s sargs y len W9 (PreOf R mc ms Pc) (PostOf Qc mc ms free) (vx_Post XC mc ms free) := by
  intro m meth c A g ig mk a X hg hsize hdg hW hn hp
  have h1 : (headSpec ws rm).pre.before a A.U = true := atoms_intro fun w hw => hws w hw _ _ X.warmed
  have h2 : (Cond.codeWith y bytes maxL ret hh).before a A.U = true := hws _ hcode _ _ X.warmed
  have h3 : (Cond.initialized y.cls).before a A.U = true := hinit _ _ X.warmed
  have h4 : A.cells + (headSpec ws rm).room.cells ≤ R.cells := by rw [show (headSpec ws rm).room.cells = mc from hrc]; exact hp.1
  have h5 : A.slots + (headSpec ws rm).room.slots ≤ R.slots := by rw [show (headSpec ws rm).room.slots = ms from hrs]; exact hp.2.1
  have hPc : Pc a (A.U.calling g mk a) := hblind _ _ _ _ hp.2.2
  obtain ⟨U, Ls, c0, s0⟩ := A
  dsimp only [Pt.U, Pt.locs, Pt.cells, Pt.slots] at h1 h2 h3 h4 h5 X hn hPc ⊢
  obtain ⟨m9, methY, cY, hn9, hmY, hcY, -, hlY, -⟩ := Cond.codeWith_spec h2
  cases Option.some.inj (hn9.symm.trans hn)
  obtain ⟨kY, hkY, -⟩ := className_of_methodNamed hn
  have hinitY : kY.init = .initialized := Cond.initialized_spec (findClass_of_methodNamed hn) hkY h3
  have h : At U g.method c below := by rw [hg]; exact X.here
  have hlocals9 : W9 + (maxL + 11) + (headSpec ws rm).room.locals ≤ R.locals := hlocals
  have happ : (headSpec ws rm).appliesLoose y e.platform (U.calling g mk a) = true :=
    Spec.appliesLoose_calling (g := g) h hdg hn hkY hinitY
      (X.room_calling (g := g) (R' := (headSpec ws rm).room) hsize hmY hcY hframes (by rw [hlY]; omega) h4 h5) h1
  obtain ⟨mid, hmid⟩ := h.above
  have hfr : (U.setTop g).frames = (.java g :: mid) ++ below := by rw [State.frames_setTop' g h.top, hmid]; rfl
  obtain ⟨o, s₂, hsteps, -, hend, hq⟩ := Steps.callFree hM p X.admits X.cas X.clock (acts := []) hfr happ hPc trivial
  have hq' : vx_Q Qc XC mc ms free a (U.calling g mk a) o s₂ := hq
  rw [State.frames_setTop' g h.top] at hend
  obtain ⟨g₀, hg0⟩ := Option.isSome_iff_exists.mp h.top
  obtain ⟨r, hr⟩ := State.topJava?_eq_some.mp hg0
  have hr' : (({ U with heap := s₂.heap, slotsUsed := s₂.slotsUsed } : State).setVm s₂.vm).frames = .java g₀ :: r := hr
  rcases hq' with ⟨hqc, L, hfe, hL⟩ | ⟨q, rfl, E, ce, L, hx, hce, hcv, hcl, hW₂, hsm, hL⟩
  · obtain ⟨⟨v, rfl⟩, hW₂, e2, q2, q3, q4, q5, q6⟩ := id hfe
    have e3 : s₂ = ({ (U.calling g mk a).setFrames s₂.frames with heap := s₂.heap, slotsUsed := s₂.slotsUsed } : State).setVm s₂.vm := by
      have : s₂ = ({ s₂ with vm := (U.calling g mk a).vm } : State).setVm s₂.vm := rfl
      rw [e2] at this
      exact this
    obtain ⟨c₂, i₂, len₂, hc₂, hd₂, hf₂⟩ := hend
    have hW' : U.WarmedH s₂.vm := hW₂
    have hcc : c₂ = c := by
      have h1 : s₂.code? g.method = U.code? g.method := by
        rw [State.code?_eq, State.code?_eq, hW'.alike.method?]
      exact Option.some.inj (hc₂.symm.trans (h1.trans h.code))
    subst hcc
    have hlen : len₂ = len := by rw [hdg] at hd₂; cases hd₂; rfl
    subst hlen
    have hs₂ : s₂ = (({ U with heap := s₂.heap, slotsUsed := s₂.slotsUsed } : State).setVm s₂.vm).setTop { g with pc := g.pc + len₂, stack := v.toList ++ g.stack } := by
      refine e3.trans ?_
      rw [hf₂, State.calling_eq h.top, State.setFrames_setFrames, State.setTop_of_frames _ hr', hr]
      rfl
    have hsame : U.sameButNew ({ U with heap := s₂.heap, slotsUsed := s₂.slotsUsed } : State) L mc ms := by
      refine ⟨?_, q2, q3, q4, q5, q6⟩
      obtain ⟨t, ht, -⟩ := State.frames_cons hr
      show ({ U with heap := s₂.heap, slotsUsed := s₂.slotsUsed } : State) = { U.setFrames U.frames with heap := s₂.heap, slotsUsed := s₂.slotsUsed }
      rw [State.setFrames_self ht]
    subst hg
    refine Or.inl ⟨v, ⟨(({ U with heap := s₂.heap, slotsUsed := s₂.slotsUsed } : State).setVm s₂.vm), Ls ++ L, c0 + mc, s0 + ms⟩,
      ⟨X.admits, X.cas, X.clock, X.frames, X.room, X.hears, X.method, X.code, (X.here.setHeapUsed s₂.heap s₂.slotsUsed).setVm hW'.alike, X.tail, State.WarmedH.trans X.warmed hW', X.limits, X.bytes, X.same.trans (hsame.setVm s.vm)⟩,
      ⟨g, mk, s₂, L, rfl, rfl, hqc, rfl, hL, rfl, rfl⟩, ?_⟩
    show Steps p.tables e below _ ((({ U with heap := s₂.heap, slotsUsed := s₂.slotsUsed } : State).setVm s₂.vm).setTop { g with pc := g.pc + len₂, stack := v.toList ++ g.stack })
    rw [← hs₂]
    exact hsteps
  · obtain ⟨e2, q2, q3, q4, q5, q6⟩ := id hsm
    have e3 : s₂ = ({ (U.calling g mk a).setFrames s₂.frames with heap := s₂.heap, slotsUsed := s₂.slotsUsed } : State).setVm s₂.vm := by
      have : s₂ = ({ s₂ with vm := (U.calling g mk a).vm } : State).setVm s₂.vm := rfl
      rw [e2] at this
      exact this
    have hf₂ : s₂.frames = .throwing q :: .java g :: U.frames.tail := hend
    have hW' : U.WarmedH s₂.vm := hW₂
    have hs₂ : s₂ = ((({ U with heap := s₂.heap, slotsUsed := s₂.slotsUsed } : State).setVm s₂.vm).setTop g).pushFrame (.throwing q) := by
      refine e3.trans ?_
      rw [hf₂, State.calling_eq h.top, State.setFrames_setFrames, State.pushFrame, State.frames_setTop _ hr', State.setTop_of_frames _ hr', State.setFrames_setFrames, hr]
      rfl
    have hsame : U.sameButNew ({ U with heap := s₂.heap, slotsUsed := s₂.slotsUsed } : State) L mc ms := by
      refine ⟨?_, q2, q3, q4, q5, q6⟩
      obtain ⟨t, ht, -⟩ := State.frames_cons hr
      show ({ U with heap := s₂.heap, slotsUsed := s₂.slotsUsed } : State) = { U.setFrames U.frames with heap := s₂.heap, slotsUsed := s₂.slotsUsed }
      rw [State.setFrames_self ht]
    subst hg
    refine Or.inr ⟨q, ⟨(({ U with heap := s₂.heap, slotsUsed := s₂.slotsUsed } : State).setVm s₂.vm), Ls ++ L, c0 + mc, s0 + ms⟩,
      ⟨X.admits, X.cas, X.clock, X.frames, X.room, X.hears, X.method, X.code, (X.here.setHeapUsed s₂.heap s₂.slotsUsed).setVm hW'.alike, X.tail, State.WarmedH.trans X.warmed hW', X.limits, X.bytes, X.same.trans (hsame.setVm s.vm)⟩,
      ⟨g, mk, s₂, L, E, ce, rfl, rfl, hx, hce, hcv, hcl, rfl, hL, rfl, rfl⟩, ?_⟩
    show Steps p.tables e below _ (((({ U with heap := s₂.heap, slotsUsed := s₂.slotsUsed } : State).setVm s₂.vm).setTop g).pushFrame (.throwing q))
    rw [← hs₂]
    exact hsteps
end
variable {p : Program} {l : Launch} {e : Env} {R : Room} {s : State} {m : MethodId} {args : Array Value} {below : List Frame} {meth : Method} {c : Code} {T : State} {H : Heap} {locs : List Loc} {cells slots : Nat}
theorem vx_callVX (X : Stand p l e R s m args below meth c T locs cells slots) (hexec : p.tables.exec = Jvm.exec) {own C : String} {index : Nat} {y : MethodName} {bytes : ByteArray} {maxL : Nat} {ret : Option FieldType} {hh : List (Nat × Nat × Nat × Nat)}
    (hown : s.vm.findClass own = some m.cls) (hlink : (Cond.methodLink own index y).before args s = true) (hinst : (Cond.instanceMethod y).before args s = true) (hsel : (Cond.selects C y y).before args s = true)
    (hcode : (Cond.codeWith y bytes maxL ret hh).before args s = true) (hy : y.cls ≠ "java/lang/invoke/MethodHandle" ∧ y.cls ≠ "java/lang/invoke/VarHandle")
    {W9 : Nat} {Pre : Pt → Array Value → Prop} {Post : Pt → Array Value → Option Value → Pt → Prop} {PostX : Pt → Array Value → Addr → Pt → Prop} (hK : vx_Back l R p e below s args y 3 W9 Pre Post PostX)
    {b : Addr} {cellB : Cell} (hcell : T.heap[b]? = some cellB) (hobj : cellB.vm.isStatics = false) (hcls : s.vm.findClass C = some cellB.cls)
    {g : JFrame} (hg : g.method = m) (hsize : g.locals.size = c.maxLocals) {argsL rest : List Value} (hlen : ∀ sig, parseMethodDescriptor y.desc = some sig → argsL.length = sig.parameters.length)
    (hstack : g.stack = argsL.reverse ++ .ref b :: rest) (hW : 2 * g.monitorRoom + (rest.map fun v => v.category).sum ≤ W9) (hdg : decode c.code g.pc = .ok (.invokevirtual index, 3))
    (hpre : ∀ vm₁, s.WarmedH vm₁ → Pre ⟨T.setVm vm₁, locs, cells, slots⟩ (Value.ref b :: argsL).toArray) :
    (∃ (v : Option Value) (vm₁ : Vm) (B : Pt), s.WarmedH vm₁ ∧ Stand p l e R s m args below meth c B.U B.locs B.cells B.slots ∧ Post ⟨T.setVm vm₁, locs, cells, slots⟩ (Value.ref b :: argsL).toArray v B ∧
      ∀ target, Steps p.tables e below (B.U.setTop { g with pc := g.pc + 3, stack := v.toList ++ rest }) target → Steps p.tables e below (T.setTop g) target) ∨
    (∃ (q : Addr) (vm₁ : Vm) (B : Pt), s.WarmedH vm₁ ∧ Stand p l e R s m args below meth c B.U B.locs B.cells B.slots ∧ PostX ⟨T.setVm vm₁, locs, cells, slots⟩ (Value.ref b :: argsL).toArray q B ∧
      Steps p.tables e below (T.setTop g) ((B.U.setTop { g with stack := rest }).pushFrame (.throwing q))) := by
  obtain ⟨mk, methM, hnamed, hmethM, hstM, habM⟩ := Cond.instanceMethod_spec hinst
  obtain ⟨m8, methM', cM, hn8, hmethM', -, -, -, -, -, -, hsigM⟩ := Cond.codeWith_spec hcode
  cases Option.some.inj (hn8.symm.trans hnamed)
  cases hmethM.symm.trans hmethM'
  obtain ⟨c2, r2, m2, q1, q2, q3, q4, kP, hkP, hkPi⟩ := Cond.selects_spec hsel
  cases hcls.symm.trans q1
  cases (State.methodFound?_of_named hnamed hy).symm.trans q2
  cases hnamed.symm.trans q3
  have hselP : selectMethod e.platform s.vm cellB.cls mk = .method mk := by rw [Launch.admits_selectMethod X.admits]; exact q4
  obtain ⟨vm₁, X₁, hstep₁⟩ := X.invokevirtual hexec hown hlink hnamed hmethM hstM hkP hkPi hy (a := b) (cell := cellB) hcell
    (fun z h => by rw [h] at hobj; cases hobj) hselP hmethM habM hkP hkPi (g := g) hg (argsL := argsL) (rest := rest) (hlen _ hsigM) hstack hdg
  rcases hK m meth c ⟨T.setVm vm₁, locs, cells, slots⟩ { g with stack := rest } (.invokevirtual index) mk (Value.ref b :: argsL).toArray X₁ hg hsize hdg hW (X₁.named hnamed) (hpre vm₁ X₁.warmed) with ⟨v, B, X', hpost, hsteps⟩ | ⟨q, B, X', hpost, hsteps⟩
  · exact Or.inl ⟨v, vm₁, B, X₁.warmed, X', hpost, fun target h => hstep₁ _ fun acts => by rw [doInvoke_state]; exact hsteps.trans h⟩
  · exact Or.inr ⟨q, vm₁, B, X₁.warmed, X', hpost, hstep₁ _ fun acts => by rw [doInvoke_state]; exact hsteps⟩
theorem vx_callSX (X : Stand p l e R s m args below meth c T locs cells slots) (hexec : p.tables.exec = Jvm.exec) {own : String} {index : Nat} {y : MethodName} {bytes : ByteArray} {maxL : Nat} {ret : Option FieldType} {hh : List (Nat × Nat × Nat × Nat)}
    (hown : s.vm.findClass own = some m.cls) (hlink : (Cond.methodLink own index y).before args s = true) (hstat : (Cond.static y).before args s = true) (hinit : (Cond.initialized y.cls).before args s = true)
    (hcode : (Cond.codeWith y bytes maxL ret hh).before args s = true) (hy : y.cls ≠ "java/lang/invoke/MethodHandle" ∧ y.cls ≠ "java/lang/invoke/VarHandle")
    {W9 : Nat} {Pre : Pt → Array Value → Prop} {Post : Pt → Array Value → Option Value → Pt → Prop} {PostX : Pt → Array Value → Addr → Pt → Prop} (hK : vx_Back l R p e below s args y 3 W9 Pre Post PostX)
    {g : JFrame} (hg : g.method = m) (hsize : g.locals.size = c.maxLocals) {argsL rest : List Value} (hlen : ∀ sig, parseMethodDescriptor y.desc = some sig → argsL.length = sig.parameters.length)
    (hstack : g.stack = argsL.reverse ++ rest) (hW : 2 * g.monitorRoom + (rest.map fun v => v.category).sum ≤ W9) (hdg : decode c.code g.pc = .ok (.invokestatic index, 3))
    (hpre : ∀ vm₁, s.WarmedH vm₁ → Pre ⟨T.setVm vm₁, locs, cells, slots⟩ argsL.toArray) :
    (∃ (v : Option Value) (vm₁ : Vm) (B : Pt), s.WarmedH vm₁ ∧ Stand p l e R s m args below meth c B.U B.locs B.cells B.slots ∧ Post ⟨T.setVm vm₁, locs, cells, slots⟩ argsL.toArray v B ∧
      ∀ target, Steps p.tables e below (B.U.setTop { g with pc := g.pc + 3, stack := v.toList ++ rest }) target → Steps p.tables e below (T.setTop g) target) ∨
    (∃ (q : Addr) (vm₁ : Vm) (B : Pt), s.WarmedH vm₁ ∧ Stand p l e R s m args below meth c B.U B.locs B.cells B.slots ∧ PostX ⟨T.setVm vm₁, locs, cells, slots⟩ argsL.toArray q B ∧
      Steps p.tables e below (T.setTop g) ((B.U.setTop { g with stack := rest }).pushFrame (.throwing q))) := by
  obtain ⟨mk, methM, cM, hnamed, hmethM, -, -, -, -, -, -, hsigM⟩ := Cond.codeWith_spec hcode
  have hstatic : methM.isStatic = true := Cond.static_spec hnamed hmethM hstat
  obtain ⟨kP, hkP, -⟩ := className_of_methodNamed hnamed
  have hinitP : kP.init = .initialized := Cond.initialized_spec (findClass_of_methodNamed hnamed) hkP hinit
  obtain ⟨vm₁, X₁, hstep₁⟩ := X.invokestatic hexec hown hlink hnamed hmethM hstatic hkP hinitP hy (g := g) hg (argsL := argsL) (rest := rest) (hlen _ hsigM) hstack hdg
  rcases hK m meth c ⟨T.setVm vm₁, locs, cells, slots⟩ { g with stack := rest } (.invokestatic index) mk argsL.toArray X₁ hg hsize hdg hW (X₁.named hnamed) (hpre vm₁ X₁.warmed) with ⟨v, B, X', hpost, hsteps⟩ | ⟨q, B, X', hpost, hsteps⟩
  · exact Or.inl ⟨v, vm₁, B, X₁.warmed, X', hpost, fun target h => hstep₁ _ fun acts => by rw [doInvoke_state]; exact hsteps.trans h⟩
  · exact Or.inr ⟨q, vm₁, B, X₁.warmed, X', hpost, hstep₁ _ fun acts => by rw [doInvoke_state]; exact hsteps⟩
theorem vx_callVW (X : Stand p l e R s m args below meth c T locs cells slots) (hexec : p.tables.exec = Jvm.exec) {own C : String} {index : Nat} {y : MethodName} {bytes : ByteArray} {maxL : Nat} {ret : Option FieldType} {hh : List (Nat × Nat × Nat × Nat)}
    (hown : s.vm.findClass own = some m.cls) (hlink : (Cond.methodLink own index y).before args s = true) (hinst : (Cond.instanceMethod y).before args s = true) (hsel : (Cond.selects C y y).before args s = true)
    (hcode : (Cond.codeWith y bytes maxL ret hh).before args s = true) (hy : y.cls ≠ "java/lang/invoke/MethodHandle" ∧ y.cls ≠ "java/lang/invoke/VarHandle")
    {W9 : Nat} {Pre : Pt → Array Value → Prop} {Post : Pt → Array Value → Option Value → Pt → Prop} (hK : Back l R p e below s args y 3 W9 Pre Post)
    {b : Addr} {cellB : Cell} (hcell : T.heap[b]? = some cellB) (hobj : cellB.vm.isStatics = false) (hcls : s.vm.findClass C = some cellB.cls)
    {g : JFrame} (hg : g.method = m) (hsize : g.locals.size = c.maxLocals) {argsL rest : List Value} (hlen : ∀ sig, parseMethodDescriptor y.desc = some sig → argsL.length = sig.parameters.length)
    (hstack : g.stack = argsL.reverse ++ .ref b :: rest) (hW : 2 * g.monitorRoom + (rest.map fun v => v.category).sum ≤ W9) (hdg : decode c.code g.pc = .ok (.invokevirtual index, 3))
    (hpre : ∀ vm₁, s.WarmedH vm₁ → Pre ⟨T.setVm vm₁, locs, cells, slots⟩ (Value.ref b :: argsL).toArray) :
    ∃ (v : Option Value) (vm₁ : Vm) (B : Pt), s.WarmedH vm₁ ∧ Stand p l e R s m args below meth c B.U B.locs B.cells B.slots ∧ Post ⟨T.setVm vm₁, locs, cells, slots⟩ (Value.ref b :: argsL).toArray v B ∧
      ∀ target, Steps p.tables e below (B.U.setTop { g with pc := g.pc + 3, stack := v.toList ++ rest }) target → Steps p.tables e below (T.setTop g) target := by
  obtain ⟨mk, methM, hnamed, hmethM, hstM, habM⟩ := Cond.instanceMethod_spec hinst
  obtain ⟨m8, methM', cM, hn8, hmethM', -, -, -, -, -, -, hsigM⟩ := Cond.codeWith_spec hcode
  cases Option.some.inj (hn8.symm.trans hnamed)
  cases hmethM.symm.trans hmethM'
  obtain ⟨c2, r2, m2, q1, q2, q3, q4, kP, hkP, hkPi⟩ := Cond.selects_spec hsel
  cases hcls.symm.trans q1
  cases (State.methodFound?_of_named hnamed hy).symm.trans q2
  cases hnamed.symm.trans q3
  have hselP : selectMethod e.platform s.vm cellB.cls mk = .method mk := by rw [Launch.admits_selectMethod X.admits]; exact q4
  obtain ⟨vm₁, X₁, hstep₁⟩ := X.invokevirtual hexec hown hlink hnamed hmethM hstM hkP hkPi hy (a := b) (cell := cellB) hcell
    (fun z h => by rw [h] at hobj; cases hobj) hselP hmethM habM hkP hkPi (g := g) hg (argsL := argsL) (rest := rest) (hlen _ hsigM) hstack hdg
  obtain ⟨v, B, X', hpost, hsteps⟩ := hK m meth c ⟨T.setVm vm₁, locs, cells, slots⟩ { g with stack := rest } (.invokevirtual index) mk (Value.ref b :: argsL).toArray X₁ hg hsize hdg hW (X₁.named hnamed) (hpre vm₁ X₁.warmed)
  exact ⟨v, vm₁, B, X₁.warmed, X', hpost, fun target h => hstep₁ _ fun acts => by rw [doInvoke_state]; exact hsteps.trans h⟩
abbrev vx_CVW (R : Room) (s : State) (args : Array Value) (own C : String) (index : Nat) (y : MethodName) (bytes : ByteArray) (maxL : Nat) (ret : Option FieldType) (hh : List (Nat × Nat × Nat × Nat)) (ws : List Cond) (rm : Room) (mc ms n : Nat) : Prop :=
  (rm.cells = mc ∧ rm.slots = ms ∧ rm.frames + 1 ≤ R.frames ∧ 8 + (maxL + 11) + rm.locals ≤ R.locals ∧ (∀ w ∈ ws, ∀ (a' : Array Value) (U : State), s.WarmedH U.vm → w.before a' U = true) ∧ Cond.codeWith y bytes maxL ret hh ∈ ws) ∧
  (Cond.codeWith y bytes maxL ret hh).before args s = true ∧ (Cond.initialized y.cls).before args s = true ∧ (y.cls ≠ "java/lang/invoke/MethodHandle" ∧ y.cls ≠ "java/lang/invoke/VarHandle") ∧
  (∀ sig, parseMethodDescriptor y.desc = some sig → n = sig.parameters.length) ∧ (Cond.methodLink own index y).before args s = true ∧ (Cond.instanceMethod y).before args s = true ∧ (Cond.selects C y y).before args s = true
theorem vx_cwVW {own C : String} {index maxL mc ms : Nat} {y : MethodName} {bytes : ByteArray} {ret : Option FieldType} {hh : List (Nat × Nat × Nat × Nat)} {Ts ws ws' : List Cond} {rm : Room} (n : Nat) (ht : ∀ w ∈ Ts, w.before args s = true) (hT : GoodIn Ts (wsV own index C y ws)) (hw : ws = Cond.codeWith y bytes maxL ret hh :: ws') (hrc : rm.cells = mc) (hrs : rm.slots = ms)
    (hd : y.cls = C ∧ y.cls ≠ "java/lang/invoke/MethodHandle" ∧ y.cls ≠ "java/lang/invoke/VarHandle" ∧ (parseMethodDescriptor y.desc).map (fun d => d.parameters.length) = some n) (hR : rm.frames + 1 ≤ R.frames ∧ 8 + (maxL + 11) + rm.locals ≤ R.locals) :
    vx_CVW R s args own C index y bytes maxL ret hh ws rm mc ms n := by
  obtain ⟨hC, hd⟩ := hd
  subst hC
  have ok : ∀ w ∈ wsV own index y.cls y ws, w.before args s = true := fun w h => ht w (hT w h).1
  have hG : GoodIn Ts ws := fun w h => hT w (by unfold wsV; exact List.mem_append_right _ h)
  have hc : Cond.codeWith y bytes maxL ret hh ∈ ws := by rw [hw]; exact List.mem_cons_self
  refine ⟨⟨hrc, hrs, hR.1, hR.2, pay_in ht hG, hc⟩, ht _ (hG _ hc).1, ok _ (by simp [wsV]), ⟨hd.1, hd.2.1⟩, fun sig h => ?_, ok _ (by simp [wsV]), ok _ (by simp [wsV]), ok _ (by simp [wsV])⟩
  have h2 := hd.2.2
  rw [h] at h2
  exact (Option.some.inj h2).symm
theorem vx_runVW {y : MethodName} {bytes cc : ByteArray} {maxL nL mc ms n index : Nat} {ret : Option FieldType} {hh : List (Nat × Nat × Nat × Nat)} {ws : List Cond} {rm : Room} {Pc : Array Value → State → Prop} {Qc : Array Value → State → Outcome → State → Prop} {free : Addr → Prop} {Ts : List Cond} {own C : String} {b : Addr} {As rest : List Value} {g : JFrame}
    (S : CallFix p m c cc nL s args Ts own) (hM : Met l y ws rm Pc Qc mc ms free) (cw : vx_CVW R s args own C index y bytes maxL ret hh ws rm mc ms n) (hp : PreV s H C b Pc As)
    (hg : g.method = m) (hn : As.length = n) (hsize : g.locals.size = nL) (hstack : g.stack = As.reverse ++ .ref b :: rest) (hW : 2 * g.monitorRoom + (rest.map fun v => v.category).sum ≤ 8) (hdg : decode cc g.pc = .ok (.invokevirtual index, 3)) (hf : cells + mc ≤ R.cells ∧ slots + ms ≤ R.slots) :
    va_Run p l e R s m args below meth c H locs cells slots mc ms g rest (Qc (Value.ref b :: As).toArray) free := by
  obtain ⟨⟨hrc, hrs, hfr, hlo, hws, hcw⟩, hcode, hini, hy, hlen, hl, hin, hse⟩ := cw
  have hK : Back l R p e below s args y 3 8 (PreOf R mc ms Pc) (PostOf Qc mc ms free) := va_backW (hh := hh) (bytes := bytes) (maxL := maxL) (ret := ret) hM hp.1 hrc hrs hfr hlo hws hcw (fun a' U hW => word_at hW (Or.inl (by first | rfl | simp [Cond.onTables, Cond.keeps, Cond.steady])) hini)
  obtain ⟨hx, hb, hml, ho, -⟩ := S
  obtain ⟨-, ⟨cellB, hcB, hoB, hclB⟩, hPc⟩ := hp
  intro T hT X
  obtain ⟨v, vm₁, ⟨U', l2, c2, s2⟩, hW₁, X', ⟨g', mk, t, L, e1, e2, hq, h1, hL, h2, h3⟩, st⟩ := vx_callVW X hx (C := C) (hh := hh) (bytes := bytes) (maxL := maxL) (ret := ret) ho hl hin hse hcode hy hK (by rw [hT]; exact hcB) hoB hclB hg (hsize.trans hml.symm) (argsL := As) (rest := rest) (fun sig h => hn.trans (hlen sig h)) hstack hW (by rw [hb]; exact hdg)
    (fun vm₁ hW₁ => ⟨hf.1, hf.2, hPc (T.setVm vm₁) hT hW₁⟩)
  dsimp only [Pt.U, Pt.locs, Pt.cells, Pt.slots] at X' e1 e2 h1 h2 h3 st
  subst h1; subst h2; subst h3
  exact ⟨v, (T.setVm vm₁).calling g' mk (Value.ref b :: As).toArray, t, U', L, hT, X', hL, e1, e2, hq, st⟩
section
variable {y : MethodName} {bytes cc : ByteArray} {maxL nL mc ms n index : Nat} {ret : Option FieldType} {ws : List Cond} {rm : Room} {Pc : Array Value → State → Prop} {Qc : Array Value → State → Outcome → State → Prop} {XC : String → State → State → Prop} {free : Addr → Prop} {Ts : List Cond} {own C : String} {b : Addr} {As rest : List Value} {g : JFrame}
theorem vx_runVX {hh : List (Nat × Nat × Nat × Nat)} (S : CallFix p m c cc nL s args Ts own) (hM : vx_Met l y ws rm Pc Qc XC mc ms free) (cw : vx_CVW R s args own C index y bytes maxL ret hh ws rm mc ms n) (hp : PreV s H C b Pc As)
    (hg : g.method = m) (hn : As.length = n) (hsize : g.locals.size = nL) (hstack : g.stack = As.reverse ++ .ref b :: rest) (hW : 2 * g.monitorRoom + (rest.map fun v => v.category).sum ≤ 8) (hdg : decode cc g.pc = .ok (.invokevirtual index, 3)) (hf : cells + mc ≤ R.cells ∧ slots + ms ≤ R.slots) :
    vx_Run p l e R s m args below meth c H locs cells slots mc ms g rest (Qc (Value.ref b :: As).toArray) XC free := by
  obtain ⟨⟨hrc, hrs, hfr, hlo, hws, hcw⟩, hcode, hini, hy, hlen, hl, hin, hse⟩ := cw
  have hK : vx_Back l R p e below s args y 3 8 (PreOf R mc ms Pc) (PostOf Qc mc ms free) (vx_Post XC mc ms free) := vx_backW (hh := hh) (bytes := bytes) (maxL := maxL) (ret := ret) hM hp.1 hrc hrs hfr hlo hws hcw (fun a' U hW => word_at hW (Or.inl (by first | rfl | simp [Cond.onTables, Cond.keeps, Cond.steady])) hini)
  obtain ⟨hx, hb, hml, ho, -⟩ := S
  obtain ⟨-, ⟨cellB, hcB, hoB, hclB⟩, hPc⟩ := hp
  intro T hT X
  rcases vx_callVX X hx (C := C) (hh := hh) (bytes := bytes) (maxL := maxL) (ret := ret) ho hl hin hse hcode hy hK (by rw [hT]; exact hcB) hoB hclB hg (hsize.trans hml.symm) (argsL := As) (rest := rest) (fun sig h => hn.trans (hlen sig h)) hstack hW (by rw [hb]; exact hdg)
    (fun vm₁ hW₁ => ⟨hf.1, hf.2, hPc (T.setVm vm₁) hT hW₁⟩) with ⟨v, vm₁, ⟨U', l2, c2, s2⟩, hW₁, X', ⟨g', mk, t, L, e1, e2, hq, h1, hL, h2, h3⟩, st⟩ | ⟨q, vm₁, ⟨U', l2, c2, s2⟩, hW₁, X', ⟨g', mk, t, L, E, ce, e1, e2, hq, hce, hcv, hcl, h1, hL, h2, h3⟩, st⟩
  · dsimp only [Pt.U, Pt.locs, Pt.cells, Pt.slots] at X' e1 e2 h1 h2 h3 st
    subst h1; subst h2; subst h3
    exact Or.inl ⟨v, (T.setVm vm₁).calling g' mk (Value.ref b :: As).toArray, t, U', L, hT, X', hL, e1, e2, hq, st⟩
  · dsimp only [Pt.U, Pt.locs, Pt.cells, Pt.slots] at X' e1 e2 h1 h2 h3 st hcl
    subst h1; subst h2; subst h3
    exact Or.inr ⟨q, (T.setVm vm₁).calling g' mk (Value.ref b :: As).toArray, t, U', L, E, ce, hT, X', hL, e1, e2, hq, hce, hcv, vx_cls hW₁ hcl, st⟩
theorem vx_runSX {hh : List (Nat × Nat × Nat × Nat)} (S : CallFix p m c cc nL s args Ts own) (hM : vx_Met l y ws rm Pc Qc XC mc ms free) (cw : vx_CSW R s args own index y bytes maxL ret hh ws rm mc ms n) (hp : PreS s H Pc As)
    (hg : g.method = m) (hn : As.length = n) (hsize : g.locals.size = nL) (hstack : g.stack = As.reverse ++ rest) (hW : 2 * g.monitorRoom + (rest.map fun v => v.category).sum ≤ 8) (hdg : decode cc g.pc = .ok (.invokestatic index, 3)) (hf : cells + mc ≤ R.cells ∧ slots + ms ≤ R.slots) :
    vx_Run p l e R s m args below meth c H locs cells slots mc ms g rest (Qc As.toArray) XC free := by
  obtain ⟨⟨hrc, hrs, hfr, hlo, hws, hcw⟩, hcode, hini, hy, hlen, hl, hstt⟩ := cw
  have hK : vx_Back l R p e below s args y 3 8 (PreOf R mc ms Pc) (PostOf Qc mc ms free) (vx_Post XC mc ms free) := vx_backW (hh := hh) (bytes := bytes) (maxL := maxL) (ret := ret) hM hp.1 hrc hrs hfr hlo hws hcw (fun a' U hW => word_at hW (Or.inl (by first | rfl | simp [Cond.onTables, Cond.keeps, Cond.steady])) hini)
  obtain ⟨hx, hb, hml, ho, -⟩ := S
  intro T hT X
  rcases vx_callSX X hx (hh := hh) (bytes := bytes) (maxL := maxL) (ret := ret) ho hl hstt hini hcode hy hK hg (hsize.trans hml.symm) (argsL := As) (rest := rest) (fun sig h => hn.trans (hlen sig h)) hstack hW (by rw [hb]; exact hdg)
    (fun vm₁ hW₁ => ⟨hf.1, hf.2, hp.2 (T.setVm vm₁) hT hW₁⟩) with ⟨v, vm₁, ⟨U', l2, c2, s2⟩, hW₁, X', ⟨g', mk, t, L, e1, e2, hq, h1, hL, h2, h3⟩, st⟩ | ⟨q, vm₁, ⟨U', l2, c2, s2⟩, hW₁, X', ⟨g', mk, t, L, E, ce, e1, e2, hq, hce, hcv, hcl, h1, hL, h2, h3⟩, st⟩
  · dsimp only [Pt.U, Pt.locs, Pt.cells, Pt.slots] at X' e1 e2 h1 h2 h3 st
    subst h1; subst h2; subst h3
    exact Or.inl ⟨v, (T.setVm vm₁).calling g' mk As.toArray, t, U', L, hT, X', hL, e1, e2, hq, st⟩
  · dsimp only [Pt.U, Pt.locs, Pt.cells, Pt.slots] at X' e1 e2 h1 h2 h3 st hcl
    subst h1; subst h2; subst h3
    exact Or.inr ⟨q, (T.setVm vm₁).calling g' mk As.toArray, t, U', L, E, ce, hT, X', hL, e1, e2, hq, hce, hcv, vx_cls hW₁ hcl, st⟩
end
end VXH
theorem vx_ofWH {l : Launch} {y : MethodName} {ws ws' : List Cond} {rm : Room} {Pc : Array Value → State → Prop} {Qc : Array Value → State → Outcome → State → Prop} {XC : String → State → State → Prop} {mc ms : Nat} {free : Addr → Prop} {cc : ByteArray} {maxL : Nat} {ret : Option FieldType} {hh : List (Nat × Nat × Nat × Nat)}
    (hy : plainName y.cls = true) (hw : ws = Cond.codeWith y cc maxL ret hh :: ws')
    (body : ∀ p e s m args below meth c s₁, BodyLoose p l y (headSpec ws rm) cc maxL ret e s m args below meth c s₁ → c.maxLocals = maxL → Pc args s →
      W p l e (headSpec ws rm).room s m args below meth c s.heap [] 0 0 (vx_MQ below Qc XC args s mc ms free) (entryFrame m args maxL)) : vx_Met l y ws rm Pc Qc XC mc ms free := by
  refine MetFree.of_bodyS (code := cc) (maxLocals := maxL) (ret := ret) hy ?_ ?_
  · intro args s m h hn
    obtain ⟨m9, meth, c, hn9, h1, h2, h3, h4, -, h5, h6, -⟩ := Cond.codeWith_spec (atoms_spec (ws := ws) h _ (by rw [hw]; exact List.mem_cons_self))
    cases hn.symm.trans hn9
    exact ⟨meth, c, h1, h2, h3, h4, h5, h6⟩
  · intro p e s m args below meth c s₁ B hml hP _
    have hh0 : s₁.heap = s.heap := by rw [B.state]; rfl
    obtain ⟨t, a1, o, b1, b2, b3⟩ := body p e s m args below meth c s₁ B hml hP s₁ hh0 (Stand.of_body B)
    exact ⟨t, o, a1, b1, b2, b3⟩
/-! ===== END ===== -/
end
section
def vn_atS (own : String) (ic : Nat) (X : String) (ix : Nat) (rx : ByteArray) (names : List String) : List Cond := (Bundle.ownAtomsX own ic X ix rx names).filter vx_no
set_option maxHeartbeats 4000000 in
theorem vn_ctorThrowS {p : Program} {l : Launch} {e : Env} {R : Room} {s : State} {m₀ : MethodId} {args : Array Value} {below : List Frame} {meth : Method} {c : Code} {W : State} {locs : List Loc} {cells slots : Nat} (X : Stand p l e R s m₀ args below meth c W locs cells slots) (hexec : p.tables.exec = Jvm.exec) (htr : e.platform.stackTraces = false) {own cls : String} {names : List String} {ic : Nat} {ix : Nat} {rx : ByteArray} (x0 : decode rx 0 = .ok (.aload_n 0, 1)) (x1 : decode rx 1 = .ok (.aload_n 1, 1)) (x2 : decode rx 2 = .ok (.invokespecial ix, 3)) (x5 : decode rx 5 = .ok (.return_, 1))
    (hown : s.vm.findClass own = some m₀.cls) (hcls : Bundle.fit cls = true) (hnames : ∀ n ∈ names, Bundle.fit n = true)
    (h : ∀ a ∈ Bundle.ownAtomsX own ic cls ix rx names, a.before args s = true)
    (hlocs : ∀ x ∈ locs, ∀ cell, s.heap[x.base]? = some cell → cell.vm.isStatics = false)
    {a : Addr} {cX : ClassId} {kX : Class} (hfoundX : s.vm.findClass cls = some cX) (hkX : s.vm.classes[cX]? = some kX) (hcell : W.heap[a]? = some (freshCell cX kX)) (hnew : s.heap.size ≤ a)
    {msg : Value} (hmsg : msg.isRef = true)
    {g : JFrame} (hg : g.method = m₀) (hsize : g.locals.size = c.maxLocals) (hlocked : g.locked = none) (hentered : g.entered = []) {rest : List Value} (hstack : g.stack = msg :: .ref a :: .ref a :: rest)
    (hd6 : decode c.code g.pc = .ok (.invokespecial ic, 3)) (hd9 : decode c.code (g.pc + 3) = .ok (.athrow, 1)) (hout : ∀ x ∈ c.exceptionTable.toList, covers x (g.pc + 3) = false)
    (hRframes : names.length + 3 < R.frames) (hRlocals : 2 * g.monitorRoom + ((Value.ref a :: rest).map fun v => v.category).sum + (13 * (names.length + 1) + 42) ≤ R.locals) (hlocks : meth.locks = false ) :
    ∃ U : State, Steps p.tables e below (W.setTop g) U ∧ U.status = .running ∧ Ended U below (.threw a) ∧ s.WarmedH U.vm ∧ s.sameButNew ({ U with vm := s.vm } : State) locs cells slots ∧
      ∃ ce, U.heap[a]? = some ce ∧ Bundle.OwnCell args s cls a msg ce := by
  have howns : e.platform.frameOwnsMonitors = true := by rw [X.admits.platform]
  have hfin : e.platform.finalization = false := by rw [X.admits.platform]
  have hpl : e.platform.magicAccessors = ({} : Platform).magicAccessors := by rw [X.admits.platform]
  have a' : ∀ x, x ∈ Bundle.ownAtomsX own ic cls ix rx names → x.holds args s none s [] = true := fun x hx => h x hx
  obtain ⟨T, Z0, L, -, Y⟩ := ThrowableC.of_atoms (args := args) howns hfin hpl (fun x hx => h x (by simp [Bundle.ownAtomsX, hx]))
  obtain ⟨Z, M, LZ, LM, hnZ⟩ := Init0T.ofS_atoms (args := args) hpl L Y (fun x hx => h x (by simp [Bundle.ownAtomsX, hx]))
  obtain ⟨P1, Ps, hlen, L1, hL, hP1m, hlink1, hlink⟩ := Bundle.chainSX (args := args) hpl hnZ x0 x1 x2 x5 names cls hcls hnames (fun x hx => h x (by simp [Bundle.ownAtomsX, hx]))
  have hfound : s.vm.findClass cls = some P1.m.cls := findClass_of_methodNamed hP1m
  cases Option.some.inj (hfoundX.symm.trans hfound)
  obtain ⟨c1, kX', hc1, hk, hord, -, -, hn6⟩ := Cond.instantiable_spec (a' (.instantiable cls 6) (by simp [Bundle.ownAtomsX]))
  cases Option.some.inj (hc1.symm.trans hfound)
  cases Option.some.inj (hkX.symm.trans hk)
  have hsel0 : selectMethod e.platform s.vm P1.m.cls T.fill0 = .method T.fill0 := by
    obtain ⟨c2, r2, m2, q1, q2, q3, q4, -⟩ := Cond.selects_spec (a' (.selects cls Bundle.tFill0 Bundle.tFill0) (by simp [Bundle.ownAtomsX]))
    cases Option.some.inj (q1.symm.trans hfound)
    cases Option.some.inj (q2.symm.trans (State.methodFound?_of_named Y.fill0 (by decide)))
    cases Option.some.inj (q3.symm.trans Y.fill0)
    rw [Launch.admits_selectMethod X.admits]; exact q4
  have hselF : selectMethod e.platform s.vm P1.m.cls T.fill = .method T.fill := by
    obtain ⟨c2, r2, m2, q1, q2, q3, q4, -⟩ := Cond.selects_spec (a' (.selects cls Bundle.tFill Bundle.tFill) (by simp [Bundle.ownAtomsX]))
    cases Option.some.inj (q1.symm.trans hfound)
    cases Option.some.inj (q2.symm.trans (State.methodFound?_of_named Y.fill (by decide)))
    cases Option.some.inj (q3.symm.trans Y.fill)
    rw [Launch.admits_selectMethod X.admits]; exact q4
  obtain ⟨cellS0, hcS0, hiss⟩ := Y.statics
  obtain ⟨u0, hu0⟩ := Cond.staticRefV Y.unassigned L.unassignedStatic L.statics hcS0 hiss (a' (.isRef (.static Bundle.tN "UNASSIGNED_STACK" Bundle.steD)) (by simp [Bundle.ownAtomsX]))
  obtain ⟨sen, hsen⟩ := Cond.staticRefV Y.sentinel L.sentinelStatic L.statics hcS0 hiss (a' (.isRef (.static Bundle.tN "SUPPRESSED_SENTINEL" Bundle.listD)) (by simp [Bundle.ownAtomsX]))
  obtain ⟨ci198, i198, fB, hk198, hg198, ha198, hsB, -, hnB, htB, hffB⟩ := Cond.ownField (t := .object "java/lang/Object") Y.found L.cls (by decide +kernel) (a' (.fieldLink Bundle.tN 198 Bundle.tN "backtrace" "Ljava/lang/Object;") (by simp [Bundle.ownAtomsX])) (a' (.lays Bundle.tN Bundle.tN "backtrace" "Ljava/lang/Object;") (by simp [Bundle.ownAtomsX])) e.platform hpl
  obtain ⟨cellS, hcS', heS, -, hkeep⟩ := X.same.2.2.2.2.2 T.aS cellS0 hcS0
  have hcellS : W.heap[T.aS]? = some cellS := hcS'
  have hout' : ∀ i, (⟨T.aS, i⟩ : Loc) ∉ locs := fun i hmem => by
    have := hlocs _ hmem cellS0 hcS0
    rw [hiss] at this; cases this
  have hknownS : cellS.vm ≠ .unknown := by
    rw [heS]; intro hu
    rw [show cellS0.vm = .unknown from hu] at hiss
    cases hiss
  have hneS : T.aS ≠ a := Nat.ne_of_lt (Nat.lt_of_lt_of_le (Array.getElem?_eq_some_iff.mp hcS0).1 hnew)
  obtain ⟨iM, hffM⟩ := Y.msg
  obtain ⟨tyC, dC, hdC, hdnC⟩ := Cond.laysAt hfound hk Y.cause (a' (.lays cls Bundle.tN "cause" "Ljava/lang/Throwable;") (by simp [Bundle.ownAtomsX]))
  obtain ⟨tyS, dS, hdS, hdnS⟩ := Cond.laysAt hfound hk Y.stack (a' (.lays cls Bundle.tN "stackTrace" Bundle.steD) (by simp [Bundle.ownAtomsX]))
  obtain ⟨tyP, dP, hdP, hdnP⟩ := Cond.laysAt hfound hk Y.supp (a' (.lays cls Bundle.tN "suppressedExceptions" Bundle.listD) (by simp [Bundle.ownAtomsX]))
  obtain ⟨tyM, dM, hdM, hdnM⟩ := Cond.laysAt hfound hk hffM (a' (.lays cls Bundle.tN "detailMessage" "Ljava/lang/String;") (by simp [Bundle.ownAtomsX]))
  obtain ⟨tyB, dB, hdB, hdnB⟩ := Cond.laysAt hfound hk hffB (a' (.lays cls Bundle.tN "backtrace" "Ljava/lang/Object;") (by simp [Bundle.ownAtomsX]))
  have bC := Cond.laysApart hdB hdC hdnB hdnC (by rw [hnB, Y.causeName]; decide)
  have bS := Cond.laysApart hdB hdS hdnB hdnS (by rw [hnB, Y.stackName]; decide)
  have bP := Cond.laysApart hdB hdP hdnB hdnP (by rw [hnB, Y.suppName]; decide)
  have hskip : SkipFacts T e.platform s (fun u => u) u0 ((preparedCellV T.toThrowableT (freshCell P1.m.cls kX) a u0 sen).withEntry W.cur) :=
    ⟨{ ci198 := ci198, i198 := i198, fBack := fB }, ⟨hk198, hg198, ha198, hsB⟩, by
      have := fresh_default (c := P1.m.cls) tyB
      rw [htB] at this
      simpa [preparedCellV, Cell.setSlot, Cell.withEntry, Array.getElem?_setIfInBounds, bC, bS, bP, bC.symm, bS.symm, bP.symm, defaultValue] using this, fun _ _ => rfl⟩
  obtain ⟨tm, methC, cdC, kC, vm₁, hnC, -, -, -, -, -, -, -, hW₁, st1⟩ := Steps.initColdS (tb := p.tables) (e := e) (below := below) (s := s) (U := W) X.here hexec X.warmed hpl hown (t := Bundle.initS cls) rfl rfl (Bundle.fit_spec hcls).2
    (a' (.methodLink own ic (Bundle.initS cls)) (by simp [Bundle.ownAtomsX])) (h (.instanceMethod (Bundle.initS cls)) (by cases names <;> simp [Bundle.ownAtomsX, Bundle.chainSAtomsX, Bundle.passSAtoms])) (bytes := rx) (maxL := 2) (h (.code (Bundle.initS cls) rx 2 none) (by cases names <;> simp [Bundle.ownAtomsX, Bundle.chainSAtomsX, Bundle.passSAtoms]))
    (f := g) hg (a := a) (msg := msg) (rest := .ref a :: rest) hstack hd6
  cases Option.some.inj (hnC.symm.trans hP1m)
  have X₁ := X.noted hW₁
  obtain ⟨vm₂, X₂, st2⟩ := X₁.ctorMessageOffV hexec (g := { g with stack := .ref a :: rest }) hg hsize T L Z LZ M LM (P1 :: Ps)
    (fun P hP => by rcases List.mem_cons.mp hP with rfl | hP; exact L1; exact hL P hP) ⟨hlink1, hlink⟩ (u0 := u0) (sen := sen) (self := a) hmsg (cell := freshCell P1.m.cls kX) (cellS := cellS)
    hcell (fun _ => by simp) (by simp) rfl rfl hsel0 hselF hcellS hneS hknownS (by rw [hkeep _ (hout' _)]; exact hu0) (by rw [hkeep _ (hout' _)]; exact hsen)
    (Takes.of_laid hk hord tyC (by rw [Y.causeType]; rfl)) (Takes.of_laid hk hord tyS (by rw [Y.stackType]; exact fits_refV_array _ u0)) (Takes.of_laid hk hord tyP (by rw [Y.suppType]; exact fits_refV_object _ sen))
    (Takes.of_laid hk hord tyM (by rw [Y.msgType]; exact fits_refV_object _ ⟨msg, hmsg⟩)) Y.objLocals hskip htr [] hd6
    (by simp only [List.length_cons, hlen]; omega) (by simp only [List.length_cons, hlen]; exact hRlocals)
  obtain ⟨hwalk, hrun, hended, hWU, hsame⟩ := X₂.athrowLeaves hexec (g := { g with stack := .ref a :: rest, pc := g.pc + 3 }) hg hlocked hentered hout (a := a) (rest := rest) rfl hd9
  obtain ⟨c3, c4, hc3, hc4, hasg⟩ := Cond.castable_spec (a' (.castable cls cls) (by simp [Bundle.ownAtomsX]))
  cases Option.some.inj (hc3.symm.trans hfound)
  cases Option.some.inj (hc4.symm.trans hfound)
  have hlt : a < ((W.setVm vm₁).setVm vm₂).heap.size := (Array.getElem?_eq_some_iff.mp hcell).1
  have hU := heapAt_setCell_self (s := (W.setVm vm₁).setVm vm₂) (plainBareV T.toThrowableT (freshCell P1.m.cls kX) a u0 sen msg) hlt
  have hnM : T.fMsg.name = "detailMessage" := (State.fieldFound?_type hffM (t := .object "java/lang/String") (by decide +kernel)).1
  have nCS := Cond.laysApart hdC hdS hdnC hdnS (by rw [Y.causeName, Y.stackName]; decide)
  have nCP := Cond.laysApart hdC hdP hdnC hdnP (by rw [Y.causeName, Y.suppName]; decide)
  have nCM := Cond.laysApart hdC hdM hdnC hdnM (by rw [Y.causeName, hnM]; decide)
  have nSP := Cond.laysApart hdS hdP hdnS hdnP (by rw [Y.stackName, Y.suppName]; decide)
  have nSM := Cond.laysApart hdS hdM hdnS hdnM (by rw [Y.stackName, hnM]; decide)
  have nPM := Cond.laysApart hdP hdM hdnP hdnM (by rw [Y.suppName, hnM]; decide)
  have lC : T.fCause.slot < kX.instanceTypes.size := (Array.getElem?_eq_some_iff.mp tyC).1
  have lS : T.fStack.slot < kX.instanceTypes.size := (Array.getElem?_eq_some_iff.mp tyS).1
  have lP : T.fSupp.slot < kX.instanceTypes.size := (Array.getElem?_eq_some_iff.mp tyP).1
  have lM : T.fMsg.slot < kX.instanceTypes.size := (Array.getElem?_eq_some_iff.mp tyM).1
  have evU : ∀ o, (Term.static Bundle.tN "UNASSIGNED_STACK" Bundle.steD).eval args s o [] s = some u0.v := by
    intro o
    simp [Term.eval, State.fieldNamed?, Y.unassigned, L.unassignedStatic, L.statics, hcS0, hiss, hu0]
  have evS : ∀ o, (Term.static Bundle.tN "SUPPRESSED_SENTINEL" Bundle.listD).eval args s o [] s = some sen.v := by
    intro o
    simp [Term.eval, State.fieldNamed?, Y.sentinel, L.sentinelStatic, L.statics, hcS0, hiss, hsen]
  refine ⟨_, st1 _ (fun acts => ?_), hrun, hended, hWU, hsame.weaken (fun y hy hlt' => ?_) (Nat.le_refl _) (Nat.le_refl _), _, hU, ?_⟩
  · rw [doInvoke_state]
    exact st2 _ hwalk
  · rcases List.mem_append.mp hy with h1 | h1
    · exact h1
    · exfalso
      have hb : y.base = a := by
        simp only [List.mem_cons, List.not_mem_nil, or_false] at h1
        rcases h1 with rfl | rfl | rfl | rfl | rfl <;> rfl
      rw [hb] at hlt'
      exact Nat.not_lt.mpr hnew hlt'
  · exact { cls := hfound, self := hasg, monitor := rfl, hash := rfl, vm := rfl, size := by simp [plainBareV, preparedCellV, Cell.setSlot, hn6]
            cause := ⟨_, _, _, _, Y.cause, by simp [plainBareV, preparedCellV, Cell.setSlot, nCS.symm, nCP.symm, nCM.symm, lC]⟩
            stack := ⟨_, _, _, _, u0, Y.stack, by simp [plainBareV, preparedCellV, Cell.setSlot, nSM.symm, lS], evU⟩
            supp := ⟨_, _, _, _, sen, Y.supp, by simp [plainBareV, preparedCellV, Cell.setSlot, nSP, nPM.symm, lP], evS⟩
            msg := ⟨_, _, _, _, hffM, by simp [plainBareV, preparedCellV, Cell.setSlot, lM]⟩
            other := fun O f d c k i fd hf hy n1 n2 n3 n4 => by
              obtain ⟨ty, dd, hdd, hddn⟩ := Cond.laysAt hfound hk hf hy
              have m1 := Cond.laysApart hdd hdC hddn hdnC (by rw [Y.causeName]; exact n1)
              have m2 := Cond.laysApart hdd hdS hddn hdnS (by rw [Y.stackName]; exact n2)
              have m3 := Cond.laysApart hdd hdP hddn hdnP (by rw [Y.suppName]; exact n3)
              have m4 := Cond.laysApart hdd hdM hddn hdnM (by rw [hnM]; exact n4)
              have := fresh_default (c := P1.m.cls) ty
              simpa [plainBareV, preparedCellV, Cell.setSlot, Array.getElem?_setIfInBounds, m1, m2, m3, m4, m1.symm, m2.symm, m3.symm, m4.symm] using this }
set_option maxHeartbeats 4000000 in
theorem vn_throwS {p : Program} {l : Launch} {e : Env} {R : Room} {s : State} {m : MethodId} {args : Array Value} {below : List Frame} {meth : Method} {c : Code} {H : Heap} {locs : List Loc} {cells slots : Nat} {free : Addr → Prop} {ls : Array Slot} {rest : List Value} {Qc : Array Value → State → Outcome → State → Prop} {XC : String → State → State → Prop} {ix : Nat} {rx : ByteArray} (x0 : decode rx 0 = .ok (.aload_n 0, 1)) (x1 : decode rx 1 = .ok (.aload_n 1, 1)) (x2 : decode rx 2 = .ok (.invokespecial ix, 3)) (x5 : decode rx 5 = .ok (.return_, 1)) {cc : ByteArray} {pc : Nat} (hexec : p.tables.exec = Jvm.exec) (hb : c.code = cc) (hl : l.stackTraces = false) {own cls text : String} {names : List String} {ik is ic mc ms sa : Nat} {A : Nat → Prop}
    (hown : s.vm.findClass own = some m.cls) (hcls : Bundle.fit cls = true) (hnames : ∀ n ∈ names, Bundle.fit n = true)
    (hk : (Cond.classLink own ik cls).before args s = true) (hini : (Cond.initialized cls).before args s = true) (hstr : vk_R own is text sa s) (hat : ∀ w ∈ vn_atS own ic cls ix rx names, w.before args s = true)
    (hgood : ∀ w ∈ Cond.classLink own ik cls :: Cond.initialized cls :: vn_atS own ic cls ix rx names, vx_ot w = true)
    (hU : vx_Zq Bundle.tN "UNASSIGNED_STACK" Bundle.steD A s s.heap) (hN : vx_Zq Bundle.tN "SUPPRESSED_SENTINEL" Bundle.listD A s s.heap) (hS : va_S A s.heap H locs) (hsize : ls.size = c.maxLocals)
    (d0 : decode cc pc = .ok (.new ik, 3)) (d3 : decode cc (pc + 3) = .ok (.dup, 1)) (d4 : decode cc (pc + 4) = .ok (.ldc is, 2)) (d6 : decode cc (pc + 6) = .ok (.invokespecial ic, 3)) (d9 : decode cc (pc + 9) = .ok (.athrow, 1))
    (hout : ∀ x ∈ c.exceptionTable.toList, covers x (pc + 9) = false)
    (hRframes : names.length + 3 < R.frames) (hRlocals : (rest.map fun v => v.category).sum + (13 * (names.length + 1) + 43) ≤ R.locals) (hRcells : cells + 1 ≤ R.cells) (hRslots : slots + 6 ≤ R.slots) (hlocks : meth.locks = false)
    (hx : ∀ t : State, s.vm.Alike t.vm → H.size ≤ t.heap.size → (∀ q : Nat, q < H.size → t.heap[q]? = H[q]?) → XC cls s t)
    (hf : ∀ z ∈ locs, free z.base) (hc : cells + 1 ≤ mc) (hs : slots + 6 ≤ ms) :
    W p l e R s m args below meth c H locs cells slots (vx_MQ below Qc XC args s mc ms free) (F0 m pc ls rest) := by
  intro T hT X
  have htr : e.platform.stackTraces = false := (show e.platform.stackTraces = l.stackTraces by rw [X.admits.platform]).trans hl
  have Y := vx_rebase X (R' := { frames := R.frames, locals := R.locals, cells := 1, slots := 6 }) (Nat.le_refl _) (Nat.le_refl _) hRcells hRslots
  obtain ⟨s', hA⟩ : ∃ z, z = (T.setVm s.vm).setFrames (.invoking m args :: below) := ⟨_, rfl⟩
  rw [← hA] at Y
  have hvm : s'.vm = s.vm := by rw [hA]; rfl
  have hhp : s'.heap = H := by rw [hA]; exact hT
  have hW0 : s.WarmedH s'.vm := by rw [hvm]; exact State.WarmedH.refl s
  have hat' : ∀ w ∈ vn_atS own ic cls ix rx names, w.before args s' = true := fun w hw => vx_ot_at hW0 hvm.symm (hgood w (List.mem_cons_of_mem _ (List.mem_cons_of_mem _ hw))) (hat w hw)
  have hk' : (Cond.classLink own ik cls).before args s' = true := vx_ot_at hW0 hvm.symm (hgood _ List.mem_cons_self) hk
  have hini' : (Cond.initialized cls).before args s' = true := vx_ot_at hW0 hvm.symm (hgood _ (List.mem_cons_of_mem _ List.mem_cons_self)) hini
  have hU' : vx_Zq Bundle.tN "UNASSIGNED_STACK" Bundle.steD A s' s'.heap := by rw [hhp]; exact vx_Zq.moved hW0.alike (hU.kept hS.2.1)
  have hN' : vx_Zq Bundle.tN "SUPPRESSED_SENTINEL" Bundle.listD A s' s'.heap := by rw [hhp]; exact vx_Zq.moved hW0.alike (hN.kept hS.2.1)
  have h : ∀ w ∈ Bundle.ownAtomsX own ic cls ix rx names, w.before args s' = true := vx_own hat' (vx_isRefq hU'.1) (vx_isRefq hN'.1) hU'.2.word hN'.2.word
  have hown' : s'.vm.findClass own = some m.cls := by rw [hvm]; exact hown
  have hins : (Cond.instantiable cls 6).before args s' = true := h _ (by simp [Bundle.ownAtomsX])
  obtain ⟨vm₁, cX, kX, hfX, hkX, -, -, X₁, st1⟩ := Y.newCold hexec (own := own) (C := cls) (index := ik) (n := 6) hown' hk' hins hini'
    (g := F0 m pc ls rest) rfl (by rw [hb]; exact d0) (Nat.le_refl _) (Nat.le_refl _)
  generalize hT1 : (T.setVm vm₁).pushCell { cls := cX, slots := kX.instanceTypes.map defaultValue, vm := .none } = T1 at X₁ st1
  have hcat : (Value.ref T.heap.size).category = 1 := rfl
  have hcellA : T1.heap[T.heap.size]? = some (freshCell cX kX) := by rw [← hT1]; exact State.heap_pushCell_size _ _
  have d3' : decode c.code (pc + 3) = .ok (.dup, 1) := by rw [hb]; exact d3
  have d4' : decode c.code (pc + 4) = .ok (.ldc is, 2) := by rw [hb]; exact d4
  have hstr' : vk_R own is text sa s' := vk_R.warm hW0 hstr
  obtain ⟨U, hsteps, hrun, hend, hW, hsame, ce, hce, hO⟩ := vn_ctorThrowS X₁ hexec htr (own := own) (cls := cls) (names := names) (ic := ic) x0 x1 x2 x5 hown' hcls hnames h (fun x hx => nomatch hx) hfX hkX hcellA (by rw [hhp, hT]; exact Nat.le_refl _) (msg := .ref sa) rfl
    (g := { method := m, pc := pc + 6, locals := ls, stack := .ref sa :: .ref T.heap.size :: .ref T.heap.size :: rest, locked := none }) rfl hsize rfl rfl (rest := rest) rfl
    (by rw [hb]; exact d6) (by rw [hb]; exact d9) hout hRframes (by simp only [List.map_cons, List.sum_cons, hcat]; omega) hlocks
  obtain ⟨f1, f2⟩ := vx_frame hsame
  rw [hhp] at f1 f2
  have hWs : s.WarmedH U.vm := State.WarmedH.trans hW0 hW
  have hcl : s.vm.findClass cls = some ce.cls := by
    have h9 := hO.cls
    rw [hvm] at h9
    exact h9
  have hall : s.sameButNew ({ U with vm := s.vm } : State) locs mc ms := by
    subst hA
    obtain ⟨e1, e2⟩ := hsame
    rw [State.setFrames_setFrames] at e1
    have h2 : (T.setVm s.vm).sameButNew ({ U with vm := s.vm } : State) [] (0 + 1) (0 + 6) := ⟨e1, e2⟩
    have h3 := X.same.trans h2
    rw [List.append_nil] at h3
    exact h3.mono hc hs
  refine ⟨U, ?_, .threw T.heap.size, hrun, hend, Or.inr ⟨T.heap.size, rfl, cls, ce, locs, hx U hWs.alike f1 (fun q hq => f2 q hq (fun z hz => nomatch hz)), hce, hO.vm, hcl, hWs, hall, hf⟩⟩
  refine st1 _ ?_
  show Steps p.tables e below (T1.setTop { method := m, pc := pc + 3, locals := ls, stack := .ref T.heap.size :: rest, locked := none }) _
  jvm_step X₁.here [X₁.here.top, hexec, d3', Value.category]
  exact X₁.ldcString hexec (own := own) (text := text) (index := is) (a := sa) hown' hstr'.1 hstr'.2
    (g := { method := m, pc := pc + 4, locals := ls, stack := .ref T.heap.size :: .ref T.heap.size :: rest, locked := none }) rfl d4' _ hsteps
end
section
/-! THE PURE MACHINE'S RUN IS THE MACHINE'S: contexts, composition -/
def pm_strs : List (Nat × String) := [(46, "no such op or key"), (56, "there are 12 requests"), (72, "no such request"), (82, "from is below 0"), (93, "no such replica"), (99, "no such replica or request, or the faulty one"), (130, "no such replica or what"), (142, "no such message or what"), (145, "no such request or what")]
def pm_ncs : List (String × String) := [("java/lang/IllegalStateException", "java/lang/IllegalArgumentException")]
/-- what a method may take for granted of the state at its entry, A being what it may change -/
def pm_Amb (D : va_G) (aC : Nat → ClassId) (b : Nat) (sc : pm_Sc) (sa : Nat → Nat) (A : Nat → Prop) (U : State) : Prop :=
  va_K D vwCl (pm_tys aC) U ∧ (∀ w ∈ pm_NW, va_Nw w U) ∧ (∀ t, 3 ≤ t → t ≤ 6 → va_AO (pm_atag t) U) ∧ (va_X b sc.1 sc.2 U U.heap ∧ b < U.heap.size ∧ ¬ A b) ∧
  ((∀ q ∈ pm_strs, vk_R RX7 q.1 q.2 (sa q.1) U) ∧ vx_Zq Bundle.tN "UNASSIGNED_STACK" Bundle.steD A U U.heap ∧ vx_Zq Bundle.tN "SUPPRESSED_SENTINEL" Bundle.listD A U U.heap) ∧ ∀ q ∈ pm_ncs, va_Nc q.1 q.2 U
theorem pm_NW_on {w : Cond} (h : w ∈ pm_NW) : w.onTables = true := by
  have h1 := (List.mem_filter.mp h).2
  cases w <;> first | rfl | (cases h1)
theorem pm_NW_warm {w : Cond} (h : w ∈ pm_NW) {s U : State} (hW : s.WarmedH U.vm) (hz : va_Nw w s) : va_Nw w U := by
  have h1 := (List.mem_filter.mp h).2
  cases w
  case fieldLinkNest => exact va_Nw.warmF hW hz
  case methodLinkNest => exact va_Nw.warmM hW hz
  case castable => exact va_Nw.warmC hW hz
  case declares => exact va_Nw.warmD hW hz
  all_goals (cases h1)
section PA
variable {D : va_G} {aC : Nat → ClassId} {b : Nat} {sc : pm_Sc} {sa : Nat → Nat} {A : Nat → Prop}
theorem pm_Amb.blind {U : State} (h : pm_Amb D aC b sc sa A U) (g : JFrame) (mk : MethodId) (a : Array Value) : pm_Amb D aC b sc sa A (U.calling g mk a) := by
  obtain ⟨h1, h2, h3, ⟨h4, h5, h6⟩, ⟨h7, h8, h9⟩, h10⟩ := h
  exact ⟨va_K.moved (u := U) (U := U.calling g mk a) (Vm.Alike.refl U.vm) h1, fun w hw => va_Nw.same (u := U) (U := U.calling g mk a) (pm_NW_on hw) rfl (h2 w hw), fun t x y => va_AO.moved (u := U) (U := U.calling g mk a) (Vm.Alike.refl U.vm) (h3 t x y), ⟨va_X.moved (u := U) (U := U.calling g mk a) (Vm.Alike.refl U.vm) h4, h5, h6⟩,
    ⟨fun q hq => vk_R.same (u := U) (U := U.calling g mk a) rfl (h7 q hq), vx_Zq.moved (u := U) (U := U.calling g mk a) (Vm.Alike.refl U.vm) h8, vx_Zq.moved (u := U) (U := U.calling g mk a) (Vm.Alike.refl U.vm) h9⟩, fun q hq => va_Nc.moved (u := U) (U := U.calling g mk a) (Vm.Alike.refl U.vm) (h10 q hq)⟩
theorem pm_sub {s : State} {ws : va_W} {H : Heap} {locs : List Loc} (hA : ∀ q, s.heap.size ≤ q → A q) (hD : va_D A ws) (hS : va_S A s.heap H locs) : ∀ q, va_A ws H.size q → A q := by
  intro q h
  rcases h with ⟨k, e, h⟩ | h
  · exact hD.2 k (q, e) h
  · exact hA q (Nat.le_trans hS.1 h)
theorem pm_Amb.go {s : State} (h : pm_Amb D aC b sc sa A s) {ws : va_W} {H : Heap} {locs : List Loc} (hA : ∀ q, s.heap.size ≤ q → A q) (hD : va_D A ws) (hS : va_S A s.heap H locs) {U : State} (hU : U.heap = H) (hW : s.WarmedH U.vm) : pm_Amb D aC b sc sa (va_A ws H.size) U := by
  obtain ⟨h1, h2, h3, ⟨h4, h5, h6⟩, ⟨h7, h8, h9⟩, h10⟩ := h
  subst hU
  have sub := pm_sub hA hD hS
  refine ⟨va_K.moved hW.alike h1, fun w hw => pm_NW_warm hw hW (h2 w hw), fun t x y => va_AO.moved hW.alike (h3 t x y), ⟨va_X.moved hW.alike (h4.kept (hS.2.1 b h5 h6)), Nat.lt_of_lt_of_le h5 hS.1, fun z => h6 (sub b z)⟩,
    ⟨fun q hq => vk_R.warm hW (h7 q hq), (vx_Zq.moved hW.alike (h8.kept hS.2.1)).narrow sub, (vx_Zq.moved hW.alike (h9.kept hS.2.1)).narrow sub⟩, fun q hq => va_Nc.moved hW.alike (h10 q hq)⟩
end PA
/-- where method i runs -/
def pm_Ctx (p : Program) (R : Room) (s : State) (m : MethodId) (args : Array Value) (meth : Method) (c : Code) (D : va_G) (aC : Nat → ClassId) (b : Nat) (sc : pm_Sc) (sa : Nat → Nat) (A : Nat → Prop) (i : Nat) : Prop :=
  p.tables.exec = Jvm.exec ∧ c.code = pm_b i ∧ c.maxLocals = pm_nL i ∧ s.vm.findClass (pm_own i) = some m.cls ∧ (∀ w ∈ pm_G, w.before args s = true) ∧ pm_Amb D aC b sc sa A s ∧ (∀ q, s.heap.size ≤ q → A q) ∧ (pm_ini i = true → meth.name = "<init>") ∧ meth.locks = false ∧ c.exceptionTable.toList = tableOf (pm_hh i) ∧ pm_rk i ≤ R.frames ∧ 42 * pm_rk i ≤ R.locals
section PG
variable {p : Program} {l : Launch} {e : Env} {R : Room} {s : State} {m : MethodId} {args : Array Value} {below : List Frame} {meth : Method} {c : Code} {Q : State → Prop}
variable {D : va_G} {aC : Nat → ClassId} {b : Nat} {sc : pm_Sc} {sa : Nat → Nat} {A : Nat → Prop} {nL nc0 ns0 : Nat}
theorem pm_Go.rf {s0 : pm_S} : pm_Go p l e R s m args below meth c Q D aC b A nL nc0 ns0 s0 s0 := fun ad ls H locs cells slots F _ _ _ kk => kk ad ls H locs cells slots (fun _ _ => rfl) F
theorem pm_Go.tr {s0 s1 s2 : pm_S} (h1 : pm_Go p l e R s m args below meth c Q D aC b A nL nc0 ns0 s0 s1) (o1 : pm_Ok2 s0 s1) (h2 : pm_Go p l e R s m args below meth c Q D aC b A nL nc0 ns0 s1 s2) (o2 : pm_Ok2 s1 s2) : pm_Go p l e R s m args below meth c Q D aC b A nL nc0 ns0 s0 s2 :=
  fun ad ls H locs cells slots F O hc hs kk => h1 ad ls H locs cells slots F O (Nat.le_trans o2.2.1 hc) (Nat.le_trans o2.2.2.1 hs) (fun ad' ls' H' locs' cells' slots' ha F' => h2 ad' ls' H' locs' cells' slots' F' o1.1 hc hs (fun ad2 ls2 H2 locs2 cells2 slots2 ha2 F2 => kk ad2 ls2 H2 locs2 cells2 slots2 (fun k hk => (ha2 k (Nat.lt_of_lt_of_le hk o1.2.2.2)).trans (ha k hk)) F2))
/-- a step that stays in the frame -/
theorem pm_go_step {i : Nat} {s0 s1 : pm_S} (X : pm_Ctx p R s m args meth c D aC b sc sa A i) (hs : pm_step sc i s0 = some (.inl s1)) (O : pm_okS s0) : pm_Go p l e R s m args below meth c Q D aC b A (pm_nL i) nc0 ns0 s0 s1 := by
  obtain ⟨hx, hb, hml, hown, hG, hAm, hA, hin, hlk, htab, hrf, hrl⟩ := X
  obtain ⟨a, ha, hd⟩ := pm_step_at hs
  obtain ⟨r1, r2, r3, r4, -⟩ := pm_row ha
  obtain ⟨ins, len, res⟩ := a
  exact (pm_one (e := e) (l := l) (below := below) (Q := Q) (nc0 := nc0) (ns0 := ns0) hx hb hml hown hAm.1 hA hAm.2.2.2.1.1 hAm.2.2.2.1.2.1 hAm.2.2.2.1.2.2 (fun ci q h w hw => hG w (pm_usT ci q h w hw)) (fun w hw => hG w (r2 w (List.mem_append_left _ hw))) (fun w hw => va_Nw.use (pm_NW_on (r3 w (List.mem_append_left _ hw))) (hAm.2.1 w (r3 w (List.mem_append_left _ hw)))) hAm.2.2.1 r4 hin hrf hrl r1 hd O).1
end PG
theorem pm_args_cv (b : Nat) (ad : Nat → Nat) : ∀ (as : List Value) (k : Nat), lv_args k (as.map (pm_cv b ad)) = pm_cl b ad (lv_args k as)
  | [], k => rfl
  | v :: vs, k => by
    show (k, pm_cv b ad v) :: lv_args (if (pm_cv b ad v).category = 2 then k + 2 else k + 1) (vs.map (pm_cv b ad)) = (k, pm_cv b ad v) :: pm_cl b ad (lv_args (if v.category = 2 then k + 2 else k + 1) vs)
    rw [pm_cv_cat, pm_args_cv b ad vs]
theorem pm_sl_len : ∀ (as : List Value), (lg_sl as).length = pm_sum as
  | [] => rfl
  | v :: vs => by
    have ih := pm_sl_len vs
    unfold lg_sl pm_sum at ih ⊢
    rw [List.flatMap_cons, List.length_append, List.map_cons, List.sum_cons, ih]
    rcases lv_cat v with h | h <;> simp [h]
/-- the contract of a method for one call of it: from the heap h with the arguments as, to the value v and the heap h2 -/
def pm_Pc (D : va_G) (aC : Nat → ClassId) (b : Nat) (sc : pm_Sc) (sa : Nat → Nat) (ad : Nat → Nat) (as : List Value) (h : pm_H) (sz : Nat) : Array Value → State → Prop := va_Pc (as.map (pm_cv b ad)) (fun U => U.heap.size = sz ∧ va_P D vwCl (pm_ch b aC ad h.1) U.heap ∧ va_D (fun _ => True) (pm_ch b aC ad h.1) ∧ pm_Amb D aC b sc sa (va_A (pm_ch b aC ad h.1) sz) U)
def pm_Qc (D : va_G) (aC : Nat → ClassId) (b : Nat) (ad : Nat → Nat) (h : pm_H) (sz : Nat) (v : Option Value) (h2 : pm_H) : Array Value → State → Outcome → State → Prop := fun _ st oc t => ∃ ad' : Nat → Nat, (∀ k, k < h.1.length → ad' k = ad k) ∧ oc = .returned (v.map (pm_cv b ad')) ∧ va_P D vwCl (pm_ch b aC ad' h2.1) t.heap ∧ va_D (va_A (pm_ch b aC ad h.1) sz) (pm_ch b aC ad' h2.1) ∧ va_F (va_A (pm_ch b aC ad h.1) sz) st t
def pm_XC (D : va_G) (aC : Nat → ClassId) (b : Nat) (ad : Nat → Nat) (h : pm_H) (sz : Nat) (E : String) (h2 : pm_H) : String → State → State → Prop := fun E2 st t => E2 = E ∧ ∃ ad' : Nat → Nat, (∀ k, k < h.1.length → ad' k = ad k) ∧ va_P D vwCl (pm_ch b aC ad' h2.1) t.heap ∧ va_D (va_A (pm_ch b aC ad h.1) sz) (pm_ch b aC ad' h2.1) ∧ va_F (va_A (pm_ch b aC ad h.1) sz) st t
theorem pm_blind (D : va_G) (aC : Nat → ClassId) (b : Nat) (sc : pm_Sc) (sa : Nat → Nat) (ad : Nat → Nat) (as : List Value) (h : pm_H) (sz : Nat) : FrameBlind (pm_Pc D aC b sc sa ad as h sz) := fun a U g mk q => ⟨q.1, q.2.1, q.2.2.1, q.2.2.2.1, q.2.2.2.2.blind g mk a⟩
/-- runs of n steps are the machine's -/
def pm_Snd (l : Launch) (sc : pm_Sc) (n : Nat) : Prop := ∀ (i : Nat) (s0 o : pm_S), pm_ev sc n i s0 = some o → pm_okS s0 → ∀ (p : Program) (e : Env) (R : Room) (s : State) (m : MethodId) (args : Array Value) (below : List Frame) (meth : Method) (c : Code) (Q : State → Prop) (D : va_G) (aC : Nat → ClassId) (b : Nat) (sa : Nat → Nat) (A : Nat → Prop) (nc0 ns0 : Nat),
  pm_Ctx p R s m args meth c D aC b sc sa A i → pm_Go p l e R s m args below meth c Q D aC b A (pm_nL i) nc0 ns0 s0 o
end
section
/-! A call with more than 8 words below its arguments: vy_runV and vz_runV follow va_runV and vx_runV, with the width free -/
section VY
variable {p : Program} {l : Launch} {e : Env} {R : Room} {s : State} {m : MethodId} {args : Array Value} {below : List Frame} {meth : Method} {c : Code} {H : Heap} {locs : List Loc} {cells slots : Nat}
variable {y : MethodName} {bytes cc : ByteArray} {maxL nL mc ms n index W9 : Nat} {ret : Option FieldType} {ws : List Cond} {rm : Room} {Pc : Array Value → State → Prop} {Qc : Array Value → State → Outcome → State → Prop} {XC : String → State → State → Prop} {free : Addr → Prop} {Ts : List Cond} {own C : String} {b : Addr} {As rest : List Value} {g : JFrame}
theorem vy_runV (S : CallFix p m c cc nL s args Ts own) (hM : Met l y ws rm Pc Qc mc ms free) (cw : CallW R s args own C index y bytes maxL ret ws rm mc ms n) (hlo : W9 + (maxL + 11) + rm.locals ≤ R.locals) (hp : PreV s H C b Pc As)
    (hg : g.method = m) (hn : As.length = n) (hsize : g.locals.size = nL) (hstack : g.stack = As.reverse ++ .ref b :: rest) (hW : 2 * g.monitorRoom + (rest.map fun v => v.category).sum ≤ W9) (hdg : decode cc g.pc = .ok (.invokevirtual index, 3)) (hf : cells + mc ≤ R.cells ∧ slots + ms ≤ R.slots) :
    va_Run p l e R s m args below meth c H locs cells slots mc ms g rest (Qc (Value.ref b :: As).toArray) (free) := by
  have hK : Back l R p e below s args y 3 W9 (PreOf R mc ms Pc) (PostOf Qc mc ms free) := by
    obtain ⟨⟨hrc, hrs, hfr, -, hws, hcw, -, hini, -⟩, -⟩ := cw
    exact back_of (bytes := bytes) (maxL := maxL) (ret := ret) hM hp.1 hrc hrs hfr hlo hws hcw (fun a' U hW => word_at hW (Or.inl (by first | rfl | simp [Cond.onTables, Cond.keeps, Cond.steady])) hini)
  obtain ⟨⟨-, -, -, -, -, -, hcode, -, hy, hlen, hl⟩, hin, hse⟩ := cw
  obtain ⟨hx, hb, hml, ho, -⟩ := S
  obtain ⟨-, ⟨cellB, hcB, hoB, hclB⟩, hPc⟩ := hp
  intro T hT X
  obtain ⟨v, vm₁, ⟨U', l2, c2, s2⟩, hW₁, X', ⟨g', mk, t, L, e1, e2, hq, h1, hL, h2, h3⟩, st⟩ := callV X hx (C := C) (bytes := bytes) (maxL := maxL) (ret := ret) ho hl hin hse hcode hy hK (by rw [hT]; exact hcB) hoB hclB hg (hsize.trans hml.symm) (argsL := As) (rest := rest) (fun sig h => hn.trans (hlen sig h)) hstack hW (by rw [hb]; exact hdg)
    (fun vm₁ hW₁ => ⟨hf.1, hf.2, hPc (T.setVm vm₁) hT hW₁⟩)
  dsimp only [Pt.U, Pt.locs, Pt.cells, Pt.slots] at X' e1 e2 h1 h2 h3 st
  subst h1; subst h2; subst h3
  exact ⟨v, (T.setVm vm₁).calling g' mk (Value.ref b :: As).toArray, t, U', L, hT, X', hL, e1, e2, hq, st⟩
theorem vz_runV (S : CallFix p m c cc nL s args Ts own) (hM : vx_Met l y ws rm Pc Qc XC mc ms free) (cw : CallW R s args own C index y bytes maxL ret ws rm mc ms n) (hlo : W9 + (maxL + 11) + rm.locals ≤ R.locals) (hp : PreV s H C b Pc As)
    (hg : g.method = m) (hn : As.length = n) (hsize : g.locals.size = nL) (hstack : g.stack = As.reverse ++ .ref b :: rest) (hW : 2 * g.monitorRoom + (rest.map fun v => v.category).sum ≤ W9) (hdg : decode cc g.pc = .ok (.invokevirtual index, 3)) (hf : cells + mc ≤ R.cells ∧ slots + ms ≤ R.slots) :
    vx_Run p l e R s m args below meth c H locs cells slots mc ms g rest (Qc (Value.ref b :: As).toArray) XC free := by
  have hK : vx_Back l R p e below s args y 3 W9 (PreOf R mc ms Pc) (PostOf Qc mc ms free) (vx_Post XC mc ms free) := by
    obtain ⟨⟨hrc, hrs, hfr, -, hws, hcw, -, hini, -⟩, -⟩ := cw
    exact vx_back (bytes := bytes) (maxL := maxL) (ret := ret) hM hp.1 hrc hrs hfr hlo hws hcw (fun a' U hW => word_at hW (Or.inl (by first | rfl | simp [Cond.onTables, Cond.keeps, Cond.steady])) hini)
  obtain ⟨⟨-, -, -, -, -, -, hcode, -, hy, hlen, hl⟩, hin, hse⟩ := cw
  obtain ⟨hx, hb, hml, ho, -⟩ := S
  obtain ⟨-, ⟨cellB, hcB, hoB, hclB⟩, hPc⟩ := hp
  intro T hT X
  rcases vx_callV X hx (C := C) (bytes := bytes) (maxL := maxL) (ret := ret) ho hl hin hse hcode hy hK (by rw [hT]; exact hcB) hoB hclB hg (hsize.trans hml.symm) (argsL := As) (rest := rest) (fun sig h => hn.trans (hlen sig h)) hstack hW (by rw [hb]; exact hdg)
    (fun vm₁ hW₁ => ⟨hf.1, hf.2, hPc (T.setVm vm₁) hT hW₁⟩) with ⟨v, vm₁, ⟨U', l2, c2, s2⟩, hW₁, X', ⟨g', mk, t, L, e1, e2, hq, h1, hL, h2, h3⟩, st⟩ | ⟨q, vm₁, ⟨U', l2, c2, s2⟩, hW₁, X', ⟨g', mk, t, L, E, ce, e1, e2, hq, hce, hcv, hcl, h1, hL, h2, h3⟩, st⟩
  · dsimp only [Pt.U, Pt.locs, Pt.cells, Pt.slots] at X' e1 e2 h1 h2 h3 st
    subst h1; subst h2; subst h3
    exact Or.inl ⟨v, (T.setVm vm₁).calling g' mk (Value.ref b :: As).toArray, t, U', L, hT, X', hL, e1, e2, hq, st⟩
  · dsimp only [Pt.U, Pt.locs, Pt.cells, Pt.slots] at X' e1 e2 h1 h2 h3 st hcl
    subst h1; subst h2; subst h3
    exact Or.inr ⟨q, (T.setVm vm₁).calling g' mk (Value.ref b :: As).toArray, t, U', L, E, ce, hT, X', hL, e1, e2, hq, hce, hcv, vx_cls hW₁ hcl, st⟩
end VY
end
section
/-! A METHOD'S CONTRACT, and its calls -/
def pm_rtc (t : Nat) (r : Option FieldType) : Bool := match t, r with
  | 0, none => true
  | 1, some .int => true
  | 2, some .boolean => true
  | 3, some .long => true
  | 4, some (.object _) => true
  | _, _ => false
theorem pm_sta (j : Nat) : (decide ((pm_y j).cls = pm_own j) && (!pm_ini j || decide ((pm_y j).name = "<init>")) && pm_rtc (pm_rt j) (pm_rty j)) = true := by
  match j with
  | 0 => rfl
  | 1 => rfl
  | 2 => rfl
  | 3 => rfl
  | 4 => rfl
  | 5 => rfl
  | 6 => rfl
  | 7 => rfl
  | 8 => rfl
  | 9 => rfl
  | 10 => rfl
  | 11 => rfl
  | 12 => rfl
  | 13 => rfl
  | 14 => rfl
  | 15 => rfl
  | 16 => rfl
  | 17 => rfl
  | 18 => rfl
  | 19 => rfl
  | 20 => rfl
  | 21 => rfl
  | 22 => rfl
  | 23 => rfl
  | 24 => rfl
  | 25 => rfl
  | 26 => rfl
  | 27 => rfl
  | 28 => rfl
  | 29 => rfl
  | 30 => rfl
  | 31 => rfl
  | 32 => rfl
  | 33 => rfl
  | 34 => rfl
  | 35 => rfl
  | 36 => rfl
  | 37 => rfl
  | 38 => rfl
  | 39 => rfl
  | 40 => rfl
  | 41 => rfl
  | 42 => rfl
  | 43 => rfl
  | 44 => rfl
  | 45 => rfl
  | 46 => rfl
  | 47 => rfl
  | 48 => rfl
  | 49 => rfl
  | 50 => rfl
  | 51 => rfl
  | 52 => rfl
  | 53 => rfl
  | 54 => rfl
  | 55 => rfl
  | 56 => rfl
  | 57 => rfl
  | 58 => rfl
  | 59 => rfl
  | 60 => rfl
  | 61 => rfl
  | 62 => rfl
  | 63 => rfl
  | 64 => rfl
  | 65 => rfl
  | 66 => rfl
  | 67 => rfl
  | 68 => rfl
  | 69 => rfl
  | 70 => rfl
  | 71 => rfl
  | 72 => rfl
  | 73 => rfl
  | 74 => rfl
  | 75 => rfl
  | 76 => rfl
  | 77 => rfl
  | 78 => rfl
  | 79 => rfl
  | 80 => rfl
  | 81 => rfl
  | 82 => rfl
  | 83 => rfl
  | 84 => rfl
  | 85 => rfl
  | 86 => rfl
  | 87 => rfl
  | 88 => rfl
  | 89 => rfl
  | 90 => rfl
  | 91 => rfl
  | 92 => rfl
  | 93 => rfl
  | 94 => rfl
  | 95 => rfl
  | 96 => rfl
  | 97 => rfl
  | 98 => rfl
  | 99 => rfl
  | 100 => rfl
  | 101 => rfl
  | 102 => rfl
  | 103 => rfl
  | 104 => rfl
  | 105 => rfl
  | 106 => rfl
  | 107 => rfl
  | 108 => rfl
  | 109 => rfl
  | 110 => rfl
  | 111 => rfl
  | 112 => rfl
  | 113 => rfl
  | 114 => rfl
  | 115 => rfl
  | 116 => rfl
  | 117 => rfl
  | 118 => rfl
  | 119 => rfl
  | 120 => rfl
  | 121 => rfl
  | 122 => rfl
  | 123 => rfl
  | 124 => rfl
  | 125 => rfl
  | 126 => rfl
  | 127 => rfl
  | 128 => rfl
  | 129 => rfl
  | 130 => rfl
  | 131 => rfl
  | 132 => rfl
  | 133 => rfl
  | 134 => rfl
  | 135 => rfl
  | 136 => rfl
  | n + 137 => rfl
theorem pm_nmh2 (j : Nat) : (pm_y j).cls ≠ "java/lang/invoke/MethodHandle" ∧ (pm_y j).cls ≠ "java/lang/invoke/VarHandle" := by
  have h : (decide ((pm_y j).cls ≠ "java/lang/invoke/MethodHandle") && decide ((pm_y j).cls ≠ "java/lang/invoke/VarHandle")) = true := by
    match j with
    | 0 => rfl
    | 1 => rfl
    | 2 => rfl
    | 3 => rfl
    | 4 => rfl
    | 5 => rfl
    | 6 => rfl
    | 7 => rfl
    | 8 => rfl
    | 9 => rfl
    | 10 => rfl
    | 11 => rfl
    | 12 => rfl
    | 13 => rfl
    | 14 => rfl
    | 15 => rfl
    | 16 => rfl
    | 17 => rfl
    | 18 => rfl
    | 19 => rfl
    | 20 => rfl
    | 21 => rfl
    | 22 => rfl
    | 23 => rfl
    | 24 => rfl
    | 25 => rfl
    | 26 => rfl
    | 27 => rfl
    | 28 => rfl
    | 29 => rfl
    | 30 => rfl
    | 31 => rfl
    | 32 => rfl
    | 33 => rfl
    | 34 => rfl
    | 35 => rfl
    | 36 => rfl
    | 37 => rfl
    | 38 => rfl
    | 39 => rfl
    | 40 => rfl
    | 41 => rfl
    | 42 => rfl
    | 43 => rfl
    | 44 => rfl
    | 45 => rfl
    | 46 => rfl
    | 47 => rfl
    | 48 => rfl
    | 49 => rfl
    | 50 => rfl
    | 51 => rfl
    | 52 => rfl
    | 53 => rfl
    | 54 => rfl
    | 55 => rfl
    | 56 => rfl
    | 57 => rfl
    | 58 => rfl
    | 59 => rfl
    | 60 => rfl
    | 61 => rfl
    | 62 => rfl
    | 63 => rfl
    | 64 => rfl
    | 65 => rfl
    | 66 => rfl
    | 67 => rfl
    | 68 => rfl
    | 69 => rfl
    | 70 => rfl
    | 71 => rfl
    | 72 => rfl
    | 73 => rfl
    | 74 => rfl
    | 75 => rfl
    | 76 => rfl
    | 77 => rfl
    | 78 => rfl
    | 79 => rfl
    | 80 => rfl
    | 81 => rfl
    | 82 => rfl
    | 83 => rfl
    | 84 => rfl
    | 85 => rfl
    | 86 => rfl
    | 87 => rfl
    | 88 => rfl
    | 89 => rfl
    | 90 => rfl
    | 91 => rfl
    | 92 => rfl
    | 93 => rfl
    | 94 => rfl
    | 95 => rfl
    | 96 => rfl
    | 97 => rfl
    | 98 => rfl
    | 99 => rfl
    | 100 => rfl
    | 101 => rfl
    | 102 => rfl
    | 103 => rfl
    | 104 => rfl
    | 105 => rfl
    | 106 => rfl
    | 107 => rfl
    | 108 => rfl
    | 109 => rfl
    | 110 => rfl
    | 111 => rfl
    | 112 => rfl
    | 113 => rfl
    | 114 => rfl
    | 115 => rfl
    | 116 => rfl
    | 117 => rfl
    | 118 => rfl
    | 119 => rfl
    | 120 => rfl
    | 121 => rfl
    | 122 => rfl
    | 123 => rfl
    | 124 => rfl
    | 125 => rfl
    | 126 => rfl
    | 127 => rfl
    | 128 => rfl
    | 129 => rfl
    | 130 => rfl
    | 131 => rfl
    | 132 => rfl
    | 133 => rfl
    | 134 => rfl
    | 135 => rfl
    | 136 => rfl
    | n + 137 => rfl
  simp only [Bool.and_eq_true, decide_eq_true_eq] at h
  exact h
theorem pm_nmh (ci : Nat) (q : vw_C) (_ : vwCl[ci]? = some q) {j : Nat} (_ : q.1 = (pm_y j).cls) : (pm_y j).cls ≠ "java/lang/invoke/MethodHandle" ∧ (pm_y j).cls ≠ "java/lang/invoke/VarHandle" := pm_nmh2 j
theorem pm_sta1 (j : Nat) : (pm_y j).cls = pm_own j := by
  have h := pm_sta j
  simp only [Bool.and_eq_true, decide_eq_true_eq] at h
  exact h.1.1
theorem pm_sta2 (j : Nat) (hi : pm_ini j = true) : (pm_y j).name = "<init>" := by
  have h := pm_sta j
  simp only [Bool.and_eq_true, Bool.or_eq_true, decide_eq_true_eq, hi, Bool.not_true] at h
  rcases h.1.2 with z | z
  · cases z
  · exact z
theorem pm_sta3 (j : Nat) : pm_rtc (pm_rt j) (pm_rty j) = true := by
  have h := pm_sta j
  simp only [Bool.and_eq_true] at h
  exact h.2
section PM
variable {p : Program} {l : Launch} {e : Env} {R : Room} {s : State} {m : MethodId} {args : Array Value} {below : List Frame} {meth : Method} {c : Code} {Q : State → Prop}
variable {D : va_G} {aC : Nat → ClassId} {b : Nat} {sc : pm_Sc} {sa : Nat → Nat} {A : Nat → Prop} {nL nc0 ns0 : Nat}
/-- a method's return -/
theorem pm_retW {Qc : Array Value → State → Outcome → State → Prop} {free : Addr → Prop} {cc : ByteArray} {own : String} {ini : Bool} {t pc len : Nat} {ins : Instr} {res : List Nat} {st : List Value} {v : Option Value} {rty : Option FieldType} {ad : Nat → Nat} {ls : Array Slot} {H : Heap} {locs : List Loc} {cells slots : Nat} (hx : p.tables.exec = Jvm.exec) (hb : c.code = cc) (hlk : meth.locks = false) (hr : meth.sig.returnType = rty) (hv : pm_out t (ins, len, res) st = some (.inl v)) (hd : decode cc pc = .ok (ins, len)) (hck : pm_chk own ini ins len res = true) (hrt : pm_rtc t rty = true)
    (hq : ∀ t : State, t.heap = H → s.WarmedH t.vm → Qc args s (.returned (v.map (pm_cv b ad))) t) (hf : ∀ q ∈ locs, free q.base) : W p l e R s m args below meth c H locs cells slots (MQ below Qc args s cells slots free) (F0 m pc ls (st.map (pm_cv b ad))) := by
  have hlen : pm_len ins = 1 → len = 1 := by
    intro h1
    simp only [pm_chk, h1, Bool.and_eq_true, Bool.or_eq_true, beq_iff_eq] at hck
    omega
  unfold pm_out at hv
  dsimp only at hv
  split at hv
  · obtain rfl := hlen rfl
    split at hv
    · next hc =>
      cases hv
      rcases hc with rfl | ⟨rfl, h01⟩
      · cases rty with
        | none => cases hrt
        | some ty =>
          cases ty <;> first | (exact W.iret hx hb hr hq hf hd hlk) | (cases hrt)
      · cases rty with
        | none => cases hrt
        | some ty =>
          cases ty <;> first | (exact W.zret hx hb hr (by rcases h01 with rfl | rfl <;> rfl) hq hf hd hlk) | (cases hrt)
    · cases hv
  · obtain rfl := hlen rfl
    split at hv
    · next hc =>
      cases hv
      subst hc
      cases rty with
      | none => cases hrt
      | some ty =>
        cases ty <;> first | (exact W.lret hx hb hr hq hf hd hlk) | (cases hrt)
    · cases hv
  · obtain rfl := hlen rfl
    split at hv
    · next hc =>
      cases hv
      subst hc
      cases rty with
      | none => cases hrt
      | some ty =>
        cases ty <;> first | (exact W.aret hx hb hr (Or.inl ⟨_, rfl⟩) (Or.inr ⟨_, rfl⟩) hq hf hd hlk) | (cases hrt)
    · cases hv
  · obtain rfl := hlen rfl
    split at hv
    · next hc =>
      cases hv
      subst hc
      cases rty with
      | none => cases hrt
      | some ty =>
        cases ty <;> first | (exact W.aret hx hb hr (Or.inl ⟨_, rfl⟩) (Or.inl rfl) hq hf hd hlk) | (cases hrt)
    · cases hv
  · obtain rfl := hlen rfl
    split at hv
    · next hc =>
      cases hv
      subst hc
      cases rty with
      | none => exact W.vret hx hb hr hq hf hd hlk
      | some ty => cases ty <;> cases hrt
    · cases hv
  · split at hv <;> cases hv
  · cases hv
/-- a method's body, where it returns -/
theorem pm_body {n : Nat} (hS : pm_Snd l sc n) {j : Nat} {as : List Value} {h : pm_H} {o : pm_S} {v : Option Value} {ad : Nat → Nat} (hev : pm_ev sc n j (0, lv_args 0 as, [], h) = some o) (hv : pm_ret j o = some (.inl v)) (hok : pm_okS (0, lv_args 0 as, [], h)) (hsum : pm_sum as ≤ pm_nL j) (X : pm_Ctx p R s m args meth c D aC b sc sa (va_A (pm_ch b aC ad h.1) s.heap.size) j) (hr : meth.sig.returnType = pm_rty j) (hRc : R.cells = o.2.2.2.2.1 - h.2.1) (hRs : R.slots = o.2.2.2.2.2 - h.2.2) (hP : va_P D vwCl (pm_ch b aC ad h.1) s.heap) (hD : va_D (fun _ => True) (pm_ch b aC ad h.1)) :
    W p l e R s m args below meth c s.heap [] 0 0 (MQ below (pm_Qc D aC b ad h s.heap.size v o.2.2.2) args s (o.2.2.2.2.1 - h.2.1) (o.2.2.2.2.2 - h.2.2) (va_A (pm_ch b aC ad h.1) s.heap.size)) (entryFrame m (as.map (pm_cv b ad)).toArray (pm_nL j)) := by
  have E := pm_ev_ok sc n j _ _ hev hok
  have e1 : h.2.1 ≤ o.2.2.2.2.1 := E.2.1
  have e2 : h.2.2 ≤ o.2.2.2.2.2 := E.2.2.1
  have hle : (lg_sl (as.map (pm_cv b ad))).length ≤ pm_nL j := by rw [pm_sl_len, pm_sum_cv]; exact hsum
  have hl := lv_entry (as.map (pm_cv b ad)) hle
  rw [pm_args_cv] at hl
  rw [lg_entry_eq]
  refine hS j _ o hev hok p e R s m args below meth c _ D aC b sa _ h.2.1 h.2.2 X ad _ s.heap [] 0 0 ⟨hP, hD.self, va_S.rf, hl, Nat.zero_add _, Nat.zero_add _⟩ hok (by omega) (by omega) ?_
  intro ad' ls' H' locs' cells' slots' ha F'
  obtain ⟨f1, f2, f3, f4, f5, f6⟩ := F'
  have ec : cells' = o.2.2.2.2.1 - h.2.1 := by omega
  have es : slots' = o.2.2.2.2.2 - h.2.2 := by omega
  subst ec; subst es
  unfold pm_ret at hv
  split at hv
  · next r hr0 =>
    obtain ⟨r1, -, -, r4, -⟩ := pm_row hr0
    obtain ⟨hx, hb, -, -, -, -, -, -, hlk, -⟩ := X
    exact pm_retW (b := b) hx hb hlk hr hv r1 r4 (pm_sta3 j) (fun t ht hW => ⟨ad', ha, rfl, by rw [ht]; exact f1, f2, f3.F ht⟩) f3.2.2
  · cases hv
end PM
theorem pm_met {l : Launch} {sc : pm_Sc} {n : Nat} (hS : pm_Snd l sc n) {j : Nat} {as : List Value} {h : pm_H} {o : pm_S} {v : Option Value} (hev : pm_ev sc n j (0, lv_args 0 as, [], h) = some o) (hv : pm_ret j o = some (.inl v)) (hok : pm_okS (0, lv_args 0 as, [], h)) (hsum : pm_sum as ≤ pm_nL j) (hpl : plainName (pm_y j).cls = true) (hhh : pm_hh j = []) (D : va_G) (aC : Nat → ClassId) (b : Nat) (sa ad : Nat → Nat) (sz : Nat) :
    Met l (pm_y j) (Cond.code (pm_y j) (pm_b j) (pm_nL j) (pm_rty j) :: pm_G) { frames := pm_rk j, cells := o.2.2.2.2.1 - h.2.1, slots := o.2.2.2.2.2 - h.2.2, locals := 42 * pm_rk j } (pm_Pc D aC b sc sa ad as h sz) (pm_Qc D aC b ad h sz v o.2.2.2) (o.2.2.2.2.1 - h.2.1) (o.2.2.2.2.2 - h.2.2) (va_A (pm_ch b aC ad h.1) sz) := by
  refine Met.ofW (cc := pm_b j) (maxL := pm_nL j) (ret := pm_rty j) hpl rfl ?_
  intro p e s m args below meth c s₁ B hml hvv
  obtain ⟨rfl, rfl, hP, hD0, hAm⟩ := hvv
  have hts := atoms_spec (ws := Cond.code (pm_y j) (pm_b j) (pm_nL j) (pm_rty j) :: pm_G) B.pre
  have hown : s.vm.findClass (pm_own j) = some m.cls := by rw [← pm_sta1 j]; exact findClass_of_methodNamed B.named
  have htab : c.exceptionTable.toList = tableOf (pm_hh j) := by
    have z := BodyLoose.noHandlers B (hts _ List.mem_cons_self)
    rw [hhh]
    show _ = []
    have z2 : c.exceptionTable = #[] := by simpa using z
    rw [z2]
  exact pm_body hS hev hv hok hsum ⟨B.exec, B.bytes, hml, hown, fun w hw => hts w (List.mem_cons_of_mem _ hw), hAm, fun q hq => Or.inr hq, fun hi => (name_of_methodNamed B.named B.method).1.trans (pm_sta2 j hi), B.notSynchronized, htab, Nat.le_refl _, Nat.le_refl _⟩ B.returns rfl rfl hP hD0
theorem pm_metW {l : Launch} {sc : pm_Sc} {n : Nat} (hS : pm_Snd l sc n) {j : Nat} {as : List Value} {h : pm_H} {o : pm_S} {v : Option Value} (hev : pm_ev sc n j (0, lv_args 0 as, [], h) = some o) (hv : pm_ret j o = some (.inl v)) (hok : pm_okS (0, lv_args 0 as, [], h)) (hsum : pm_sum as ≤ pm_nL j) (hpl : plainName (pm_y j).cls = true) (D : va_G) (aC : Nat → ClassId) (b : Nat) (sa ad : Nat → Nat) (sz : Nat) :
    Met l (pm_y j) (Cond.codeWith (pm_y j) (pm_b j) (pm_nL j) (pm_rty j) (pm_hh j) :: pm_G) { frames := pm_rk j, cells := o.2.2.2.2.1 - h.2.1, slots := o.2.2.2.2.2 - h.2.2, locals := 42 * pm_rk j } (pm_Pc D aC b sc sa ad as h sz) (pm_Qc D aC b ad h sz v o.2.2.2) (o.2.2.2.2.1 - h.2.1) (o.2.2.2.2.2 - h.2.2) (va_A (pm_ch b aC ad h.1) sz) := by
  refine va_MetW (hh := pm_hh j) (cc := pm_b j) (maxL := pm_nL j) (ret := pm_rty j) hpl rfl ?_
  intro p e s m args below meth c s₁ B hml hvv
  obtain ⟨rfl, rfl, hP, hD0, hAm⟩ := hvv
  have hts := atoms_spec (ws := Cond.codeWith (pm_y j) (pm_b j) (pm_nL j) (pm_rty j) (pm_hh j) :: pm_G) B.pre
  have hown : s.vm.findClass (pm_own j) = some m.cls := by rw [← pm_sta1 j]; exact findClass_of_methodNamed B.named
  have htab : c.exceptionTable.toList = tableOf (pm_hh j) := vx_table (x := pm_y j) B (hts _ List.mem_cons_self)
  exact pm_body hS hev hv hok hsum ⟨B.exec, B.bytes, hml, hown, fun w hw => hts w (List.mem_cons_of_mem _ hw), hAm, fun q hq => Or.inr hq, fun hi => (name_of_methodNamed B.named B.method).1.trans (pm_sta2 j hi), B.notSynchronized, htab, Nat.le_refl _, Nat.le_refl _⟩ B.returns rfl rfl hP hD0
section PN
variable {p : Program} {l : Launch} {e : Env} {R : Room} {s : State} {m : MethodId} {args : Array Value} {below : List Frame} {meth : Method} {c : Code} {Q : State → Prop}
variable {D : va_G} {aC : Nat → ClassId} {b : Nat} {sc : pm_Sc} {sa : Nat → Nat} {A : Nat → Prop} {nL nc0 ns0 : Nat}
/-- behind a call that has returned -/
theorem pm_goRun {pc : Nat} {lv : pm_L} {st r : List Value} {h h2 : pm_H} {v : Option Value} {av : (Nat → Nat) → Array Value} (hA : ∀ q, s.heap.size ≤ q → A q) (hrs : ∀ x ∈ r, x ∈ st) (hlen : h.1.length ≤ h2.1.length) (hcc : h.2.1 ≤ h2.2.1) (hss : h.2.2 ≤ h2.2.2)
    (hr : ∀ (ad : Nat → Nat) (ls : Array Slot) (H : Heap) (locs : List Loc) (cells slots : Nat), pm_Fc s D aC b A nL nc0 ns0 ad lv h ls H locs cells slots → cells + (h2.2.1 - h.2.1) ≤ R.cells → slots + (h2.2.2 - h.2.2) ≤ R.slots → va_Run p l e R s m args below meth c H locs cells slots (h2.2.1 - h.2.1) (h2.2.2 - h.2.2) (F0 m pc ls (st.map (pm_cv b ad))) (r.map (pm_cv b ad)) (pm_Qc D aC b ad h H.size v h2 (av ad)) (va_A (pm_ch b aC ad h.1) H.size)) :
    pm_Go p l e R s m args below meth c Q D aC b A nL nc0 ns0 (pc, lv, st, h) (pc + 3, lv, v.toList ++ r, h2) := by
  intro ad ls H locs cells slots F O hc hs kk T hT X
  have F : pm_Fc s D aC b A nL nc0 ns0 ad lv h ls H locs cells slots := F
  have O : pm_ok lv st h.1 := O
  have hc : h2.2.1 ≤ nc0 + R.cells := hc
  have hs : h2.2.2 ≤ ns0 + R.slots := hs
  have hr2 := hr ad ls H locs cells slots F (by have := F.2.2.2.2.1; omega) (by have := F.2.2.2.2.2; omega)
  obtain ⟨f1, f2, f3, f4, f5, f6⟩ := F
  obtain ⟨v', st₀, t, T', L, h0, X', hL, q1, q2, ⟨ad', ha, hov, hP1, hD1, hF⟩, hst⟩ := hr2 T hT X
  cases hov
  have sub := pm_sub hA f2 f3
  obtain ⟨hz, hk⟩ := hF
  rw [h0] at hz hk
  have hS' : va_S A s.heap T'.heap (locs ++ L) := ⟨Nat.le_trans f3.1 (by rw [q1]; exact hz), fun q g1 g2 => by rw [q1, hk q (Nat.lt_of_lt_of_le g1 f3.1) (fun z => g2 (sub q z))]; exact f3.2.1 q g1 g2, fun q hq => by
    rcases List.mem_append.mp hq with z | z
    · exact f3.2.2 q z
    · exact sub _ (hL q z)⟩
  have hlv : pm_cl b ad' lv = pm_cl b ad lv := pm_cl_ad ha O.1
  have hre : r.map (pm_cv b ad') = r.map (pm_cv b ad) := pm_cvs_ad ha (fun x hx => O.2.1 x (hrs x hx))
  obtain ⟨t2, a1, b1⟩ := kk ad' ls T'.heap (locs ++ L) (cells + (h2.2.1 - h.2.1)) (slots + (h2.2.2 - h.2.2)) ha ⟨by rw [q1]; exact hP1, hD1.weaken (fun k q _ z => sub q.1 z), hS', by show lv_has ls nL (pm_cl b ad' lv); rw [hlv]; exact f4, by show _ = h2.2.1; omega, by show _ = h2.2.2; omega⟩ T' rfl X'
  refine ⟨t2, hst t2 ?_, b1⟩
  have e3 : (v.map (pm_cv b ad')).toList ++ r.map (pm_cv b ad) = (v.toList ++ r).map (pm_cv b ad') := by
    rw [← hre, List.map_append]
    cases v <;> rfl
  show Steps p.tables e below (T'.setTop (F0 m (pc + 3) ls ((v.map (pm_cv b ad')).toList ++ r.map (pm_cv b ad)))) t2
  rw [e3]
  exact a1
theorem pm_warm {U : State} {a' : Array Value} (hG : ∀ w ∈ pm_G, w.before args s = true) {w : Cond} (hw : w ∈ pm_G) (hW : s.WarmedH U.vm) : w.before a' U = true := word_at hW (good_of_word (List.mem_filter.mp hw).2) (hG w hw)
theorem pm_pre {ad : Nat → Nat} {as : List Value} {h : pm_H} {H : Heap} {locs : List Loc} (hAm : pm_Amb D aC b sc sa A s) (hA : ∀ q, s.heap.size ≤ q → A q) (f1 : va_P D vwCl (pm_ch b aC ad h.1) H) (f2 : va_D A (pm_ch b aC ad h.1)) (f3 : va_S A s.heap H locs) : ∀ U : State, U.heap = H → s.WarmedH U.vm → pm_Pc D aC b sc sa ad as h H.size (as.map (pm_cv b ad)).toArray U :=
  fun U hU hW => ⟨rfl, by rw [hU], by rw [hU]; exact f1, f2.weaken (fun _ _ _ _ => trivial), hAm.go hA f2 f3 hU hW⟩
/-- any call that returns -/
theorem pm_go_call {n : Nat} (hS : pm_Snd l sc n) {i : Nat} {s0 : pm_S} {k : pm_K} {w : pm_S} {v : Option Value} (X : pm_Ctx p R s m args meth c D aC b sc sa A i) (hs : pm_step sc i s0 = some (.inr k)) (hsum : pm_sum k.2.1 ≤ pm_nL k.1) (O : pm_okS s0) (hw : pm_ev sc n k.1 (0, lv_args 0 k.2.1, [], s0.2.2.2) = some w) (hv : pm_ret k.1 w = some (.inl v)) :
    pm_Go p l e R s m args below meth c Q D aC b A (pm_nL i) nc0 ns0 s0 (s0.1 + 3, s0.2.1, v.toList ++ k.2.2, w.2.2.2) := by
  obtain ⟨hx, hb, hml, hown, hG, hAm, hA, hin, hlk, htab, hrf, hrl⟩ := X
  obtain ⟨a, ha, hd⟩ := pm_step_at hs
  obtain ⟨m1, m2⟩ := pm_do_sub hd
  have hok := pm_entry_ok O m1
  have E := pm_ev_ok sc n k.1 _ _ hw hok
  obtain ⟨r1, r2, r3, r4, r5⟩ := pm_row ha
  obtain ⟨ins, len, res⟩ := a
  dsimp only at r1 r2 r3 r4 r5 hd
  obtain ⟨pc, lv, st, h⟩ := s0
  dsimp only at hd m1 m2 r1 E hw
  have hlen : pm_len ins = 3 → len = 3 := by
    intro h1
    simp only [pm_chk, h1, Bool.and_eq_true, Bool.or_eq_true, beq_iff_eq] at r4
    omega
  rcases pm_do_call hd with ⟨x, bb, c0, fs, kd, rfl, rfl, hkd, hdr, hcell, hnp, hmc, hsu, hrk, has⟩ | ⟨x, bb, kd, rfl, rfl, hkd, hdr, hnp, hsu, hrk, has⟩ | ⟨x, kd, rfl, rfl, hkd, hdr, hnp, hsu, hrk, has⟩
  all_goals (obtain ⟨j, as, r⟩ := k; dsimp only at hw hv hsum m1 m2 hdr hnp hsu hrk has r5 hok E)
  · -- invokevirtual
    obtain rfl := hlen rfl
    simp only [pm_ckj, Bool.and_eq_true, decide_eq_true_eq, beq_iff_eq, List.isEmpty_iff] at r5
    obtain ⟨⟨⟨⟨⟨rfl, h5a⟩, h5b⟩, h5c⟩, h5d⟩, h5e⟩ := r5
    dsimp only at hmc
    subst hmc
    obtain ⟨q, hq, hqc⟩ : ∃ q, vwCl[pm_mc j]? = some q ∧ q.1 = (pm_y j).cls := by
      cases hcl : vwCl[pm_mc j]? with
      | none => rw [hcl] at h5c; cases h5c
      | some q => rw [hcl] at h5c; exact ⟨q, rfl, Option.some.inj h5c⟩
    have g : ∀ z ∈ [Cond.methodLink (pm_own i) x (pm_y j), .instanceMethod (pm_y j), .selects (pm_y j).cls (pm_y j) (pm_y j), .initialized (pm_y j).cls, .code (pm_y j) (pm_b j) (pm_nL j) (pm_rty j)], z ∈ pm_G := fun z hz => r2 z (List.mem_append_right _ hz)
    have hst : st = (st.take (pm_np j)) ++ .ref bb :: r := by rw [← hdr, List.take_append_drop]
    have hmh : (pm_y j).cls ≠ "java/lang/invoke/MethodHandle" ∧ (pm_y j).cls ≠ "java/lang/invoke/VarHandle" := pm_nmh (pm_mc j) q hq hqc
    refine pm_goRun (av := fun ad => (as.map (pm_cv b ad)).toArray) hA m2 E.2.2.2 E.2.1 E.2.2.1 (fun ad ls H locs cells slots F hc1 hs1 => ?_)
    have hM := pm_met hS hw hv hok hsum h5e h5a D aC b sa ad H.size
    have key := vy_runV (W9 := 12) (R := R) (s := s) (args := args) (own := pm_own i) (C := (pm_y j).cls) (index := x) (bytes := pm_b j) (maxL := pm_nL j) (ret := pm_rty j) (n := pm_np j) (b := ad bb) (As := ((st.take (pm_np j)).reverse).map (pm_cv b ad)) (rest := r.map (pm_cv b ad)) (g := F0 m pc ls (st.map (pm_cv b ad))) (cells := cells) (slots := slots) (locs := locs) (H := H) (below := below) (meth := meth) (e := e) (cc := pm_b i) (nL := pm_nL i)
      ⟨hx, hb, hml, hown, hG⟩ hM ⟨⟨rfl, rfl, by show pm_rk j + 1 ≤ R.frames; omega, by show 8 + (pm_nL j + 11) + 42 * pm_rk j ≤ R.locals; omega, fun w9 hw9 a' U hW => by
        rcases List.mem_cons.mp hw9 with z | z
        · rw [z]; exact pm_warm hG (g _ (by simp)) hW
        · exact pm_warm hG z hW, List.mem_cons_self, hG _ (g _ (by simp)), hG _ (g _ (by simp)), hmh, fun sig hsig => by rw [hsig] at h5d; exact (Option.some.inj h5d).symm, hG _ (g _ (by simp))⟩, hG _ (g _ (by simp)), hG _ (g _ (by simp))⟩ (by show 12 + (pm_nL j + 11) + 42 * pm_rk j ≤ R.locals; omega)
      ⟨pm_blind _ _ _ _ _ _ _ _ _, by rw [← hqc]; exact va_recv hAm.1 F.1 hq (pm_ch_get hcell), by
        have z := pm_pre (as := as) (sa := sa) (h := h) hAm hA F.1 F.2.1 F.2.2.1
        rw [has] at z ⊢
        exact z⟩ rfl (by rw [List.length_map, List.length_reverse, List.length_take]; omega) F.2.2.2.1.1 (by
        show st.map (pm_cv b ad) = _
        conv => lhs; rw [hst]
        rw [List.map_append, List.map_cons, ← List.map_reverse, List.reverse_reverse]
        rfl) (by show 2 * 0 + _ ≤ 12; have z := pm_sum_cv b ad r; unfold pm_sum at z hsu; omega) r1 ⟨hc1, hs1⟩
    rw [has]
    exact key
  · -- invokespecial
    obtain rfl := hlen rfl
    have h5 : pm_hh j = [] ∧ pm_nL j ≤ 23 ∧ pm_ini j = true ∧ pm_rty j = none ∧ (pm_y j).name = "<init>" ∧ (parseMethodDescriptor (pm_y j).desc).map (fun d => d.parameters.length) = some (pm_np j) ∧ plainName (pm_y j).cls = true := by
      simp only [pm_ckj, Bool.and_eq_true, Bool.or_eq_true, decide_eq_true_eq, beq_iff_eq, List.isEmpty_iff] at r5
      rcases r5 with z | z
      · omega
      · exact ⟨z.1.1.1.1.1.1.2, z.1.1.1.1.1.2, z.1.1.1.1.2, z.1.1.1.2, z.1.1.2, z.1.2, z.2⟩
    obtain ⟨h5a, h5b, -, h5r, h5n, h5d, h5e⟩ := h5
    have hst : st = (st.take (pm_np j)) ++ .ref bb :: r := by rw [← hdr, List.take_append_drop]
    have hmh : (pm_y j).cls ≠ "java/lang/invoke/MethodHandle" ∧ (pm_y j).cls ≠ "java/lang/invoke/VarHandle" := pm_nmh2 j
    refine pm_goRun (av := fun ad => (as.map (pm_cv b ad)).toArray) hA m2 E.2.2.2 E.2.1 E.2.2.1 (fun ad ls H locs cells slots F hc1 hs1 => ?_)
    have hM := pm_met hS hw hv hok hsum h5e h5a D aC b sa ad H.size
    rw [h5r] at hM
    have hpre : PreS s H (pm_Pc D aC b sc sa ad as h H.size) (.ref (ad bb) :: ((st.take (pm_np j)).reverse).map (pm_cv b ad)) := ⟨pm_blind _ _ _ _ _ _ _ _ _, by
        have z := pm_pre (as := as) (sa := sa) (h := h) hAm hA F.1 F.2.1 F.2.2.1
        rw [has] at z ⊢
        exact z⟩
    have hstk : (F0 m pc ls (st.map (pm_cv b ad))).stack = (((st.take (pm_np j)).reverse).map (pm_cv b ad)).reverse ++ .ref (ad bb) :: r.map (pm_cv b ad) := by
      show st.map (pm_cv b ad) = _
      conv => lhs; rw [hst]
      rw [List.map_append, List.map_cons, ← List.map_reverse, List.reverse_reverse]
      rfl
    have hroom : (((r.map (pm_cv b ad)).map fun v => v.category).sum) ≤ 8 := by have z := pm_sum_cv b ad r; unfold pm_sum at z hsu; omega
    have hlen2 : (((st.take (pm_np j)).reverse).map (pm_cv b ad)).length = pm_np j := by rw [List.length_map, List.length_reverse, List.length_take]; omega
    rcases hkd with rfl | rfl
    · have g : ∀ z ∈ [Cond.methodLink (pm_own i) x (pm_y j), .instanceMethod (pm_y j), .initialized (pm_y j).cls, .code (pm_y j) (pm_b j) (pm_nL j) none], z ∈ pm_G := fun z hz => r2 z (List.mem_append_right _ hz)
      have key := va_runI (R := R) (s := s) (args := args) (own := pm_own i) (index := x) (bytes := pm_b j) (maxL := pm_nL j) (n := pm_np j) (b := ad bb) (As := ((st.take (pm_np j)).reverse).map (pm_cv b ad)) (rest := r.map (pm_cv b ad)) (g := F0 m pc ls (st.map (pm_cv b ad))) (cells := cells) (slots := slots) (locs := locs) (H := H) (below := below) (meth := meth) (e := e) (cc := pm_b i) (nL := pm_nL i)
        ⟨hx, hb, hml, hown, hG⟩ hM ⟨⟨rfl, rfl, by show pm_rk j + 1 ≤ R.frames; omega, by show 8 + (pm_nL j + 11) + 42 * pm_rk j ≤ R.locals; omega, fun w9 hw9 a' U hW => by
          rcases List.mem_cons.mp hw9 with z | z
          · rw [z]; exact pm_warm hG (g _ (by simp)) hW
          · exact pm_warm hG z hW, List.mem_cons_self, hG _ (g _ (by simp)), hG _ (g _ (by simp)), hmh, fun sig hsig => by rw [hsig] at h5d; exact (Option.some.inj h5d).symm, hG _ (g _ (by simp))⟩, h5n, hG _ (g _ (by simp))⟩
        hpre rfl hlen2 F.2.2.2.1.1 hstk (lv_room hroom) r1 ⟨hc1, hs1⟩
      rw [has]
      exact key
    · have g : ∀ z ∈ [Cond.instanceMethod (pm_y j), .initialized (pm_y j).cls, .code (pm_y j) (pm_b j) (pm_nL j) none], z ∈ pm_G := fun z hz => r2 z (List.mem_append_right _ hz)
      have gn : va_Nw (.methodLinkNest (pm_own i) x (pm_y j) RX7) s := hAm.2.1 _ (r3 _ (List.mem_append_right _ List.mem_cons_self))
      have key := va_runIN (R := R) (s := s) (args := args) (own := pm_own i) (host := RX7) (index := x) (bytes := pm_b j) (maxL := pm_nL j) (n := pm_np j) (b := ad bb) (As := ((st.take (pm_np j)).reverse).map (pm_cv b ad)) (rest := r.map (pm_cv b ad)) (g := F0 m pc ls (st.map (pm_cv b ad))) (cells := cells) (slots := slots) (locs := locs) (H := H) (below := below) (meth := meth) (e := e) (cc := pm_b i) (nL := pm_nL i)
        ⟨hx, hb, hml, hown, hG⟩ hM ⟨⟨⟨rfl, rfl, by show pm_rk j + 1 ≤ R.frames; omega, by show 8 + (pm_nL j + 11) + 42 * pm_rk j ≤ R.locals; omega, fun w9 hw9 a' U hW => by
          rcases List.mem_cons.mp hw9 with z | z
          · rw [z]; exact pm_warm hG (g _ (by simp)) hW
          · exact pm_warm hG z hW, List.mem_cons_self⟩, hG _ (g _ (by simp)), hG _ (g _ (by simp)), hmh, fun sig hsig => by rw [hsig] at h5d; exact (Option.some.inj h5d).symm, va_Nw.use rfl gn⟩, h5n, hG _ (g _ (by simp))⟩
        hpre rfl hlen2 F.2.2.2.1.1 hstk (lv_room hroom) r1 ⟨hc1, hs1⟩
      rw [has]
      exact key
  · -- invokestatic
    obtain rfl := hlen rfl
    have h5 : ((kd = 9) ↔ pm_hh j ≠ []) ∧ pm_nL j ≤ 23 ∧ (parseMethodDescriptor (pm_y j).desc).map (fun d => d.parameters.length) = some (pm_np j) ∧ plainName (pm_y j).cls = true := by
      simp only [pm_ckj, Bool.and_eq_true, Bool.or_eq_true, decide_eq_true_eq, beq_iff_eq, bne_iff_ne, ne_eq] at r5
      rcases r5 with (z | z) | z
      · omega
      · omega
      · refine ⟨?_, z.1.1.2, z.1.2, z.2⟩
        have z9 := z.1.1.1.2
        constructor
        · intro h9 hh
          rw [h9, hh] at z9
          exact z9 rfl
        · intro hh
          by_cases h9 : kd = 9
          · exact h9
          · exfalso
            apply z9
            have a1 : (kd == 9) = false := by simp [h9]
            have a2 : (pm_hh j).isEmpty = false := by simp [hh]
            rw [a1, a2]
    obtain ⟨h5a, h5b, h5d, h5e⟩ := h5
    have hst : st = (st.take (pm_np j)) ++ r := by rw [hdr, List.take_append_drop]
    have hmh : (pm_y j).cls ≠ "java/lang/invoke/MethodHandle" ∧ (pm_y j).cls ≠ "java/lang/invoke/VarHandle" := pm_nmh2 j
    refine pm_goRun (av := fun ad => (as.map (pm_cv b ad)).toArray) hA m2 E.2.2.2 E.2.1 E.2.2.1 (fun ad ls H locs cells slots F hc1 hs1 => ?_)
    have hpre : PreS s H (pm_Pc D aC b sc sa ad as h H.size) (as.map (pm_cv b ad)) := ⟨pm_blind _ _ _ _ _ _ _ _ _, pm_pre (as := as) (sa := sa) (h := h) hAm hA F.1 F.2.1 F.2.2.1⟩
    have hstk : (F0 m pc ls (st.map (pm_cv b ad))).stack = (as.map (pm_cv b ad)).reverse ++ r.map (pm_cv b ad) := by
      show st.map (pm_cv b ad) = _
      conv => lhs; rw [hst]
      rw [List.map_append, has, ← List.map_reverse, List.reverse_reverse]
    have hroom : (((r.map (pm_cv b ad)).map fun v => v.category).sum) ≤ 8 := by have z := pm_sum_cv b ad r; unfold pm_sum at z hsu; omega
    have hlen2 : (as.map (pm_cv b ad)).length = pm_np j := by rw [has, List.length_map, List.length_reverse, List.length_take]; omega
    rcases hkd with rfl | rfl | rfl
    · have hh0 : pm_hh j = [] := Classical.byContradiction fun z => absurd (h5a.mpr z) (by decide)
      have hM := pm_met hS hw hv hok hsum h5e hh0 D aC b sa ad H.size
      have g : ∀ z ∈ [Cond.methodLink (pm_own i) x (pm_y j), .static (pm_y j), .initialized (pm_y j).cls, .code (pm_y j) (pm_b j) (pm_nL j) (pm_rty j)], z ∈ pm_G := fun z hz => r2 z (List.mem_append_right _ hz)
      exact va_runS (R := R) (s := s) (args := args) (own := pm_own i) (index := x) (bytes := pm_b j) (maxL := pm_nL j) (ret := pm_rty j) (n := pm_np j) (As := as.map (pm_cv b ad)) (rest := r.map (pm_cv b ad)) (g := F0 m pc ls (st.map (pm_cv b ad))) (cells := cells) (slots := slots) (locs := locs) (H := H) (below := below) (meth := meth) (e := e) (cc := pm_b i) (nL := pm_nL i)
        ⟨hx, hb, hml, hown, hG⟩ hM ⟨⟨rfl, rfl, by show pm_rk j + 1 ≤ R.frames; omega, by show 8 + (pm_nL j + 11) + 42 * pm_rk j ≤ R.locals; omega, fun w9 hw9 a' U hW => by
          rcases List.mem_cons.mp hw9 with z | z
          · rw [z]; exact pm_warm hG (g _ (by simp)) hW
          · exact pm_warm hG z hW, List.mem_cons_self, hG _ (g _ (by simp)), hG _ (g _ (by simp)), hmh, fun sig hsig => by rw [hsig] at h5d; exact (Option.some.inj h5d).symm, hG _ (g _ (by simp))⟩, hG _ (g _ (by simp))⟩
        hpre rfl hlen2 F.2.2.2.1.1 hstk (lv_room hroom) r1 ⟨hc1, hs1⟩
    · have hh0 : pm_hh j = [] := Classical.byContradiction fun z => absurd (h5a.mpr z) (by decide)
      have hM := pm_met hS hw hv hok hsum h5e hh0 D aC b sa ad H.size
      have g : ∀ z ∈ [Cond.static (pm_y j), .initialized (pm_y j).cls, .code (pm_y j) (pm_b j) (pm_nL j) (pm_rty j)], z ∈ pm_G := fun z hz => r2 z (List.mem_append_right _ hz)
      have gn : va_Nw (.methodLinkNest (pm_own i) x (pm_y j) RX7) s := hAm.2.1 _ (r3 _ (List.mem_append_right _ List.mem_cons_self))
      exact va_runSN (R := R) (s := s) (args := args) (own := pm_own i) (host := RX7) (index := x) (bytes := pm_b j) (maxL := pm_nL j) (ret := pm_rty j) (n := pm_np j) (As := as.map (pm_cv b ad)) (rest := r.map (pm_cv b ad)) (g := F0 m pc ls (st.map (pm_cv b ad))) (cells := cells) (slots := slots) (locs := locs) (H := H) (below := below) (meth := meth) (e := e) (cc := pm_b i) (nL := pm_nL i)
        ⟨hx, hb, hml, hown, hG⟩ hM ⟨⟨⟨rfl, rfl, by show pm_rk j + 1 ≤ R.frames; omega, by show 8 + (pm_nL j + 11) + 42 * pm_rk j ≤ R.locals; omega, fun w9 hw9 a' U hW => by
          rcases List.mem_cons.mp hw9 with z | z
          · rw [z]; exact pm_warm hG (g _ (by simp)) hW
          · exact pm_warm hG z hW, List.mem_cons_self⟩, hG _ (g _ (by simp)), hG _ (g _ (by simp)), hmh, fun sig hsig => by rw [hsig] at h5d; exact (Option.some.inj h5d).symm, va_Nw.use rfl gn⟩, hG _ (g _ (by simp)), trivial⟩
        hpre rfl hlen2 F.2.2.2.1.1 hstk (lv_room hroom) r1 ⟨hc1, hs1⟩
    · have hM := pm_metW hS hw hv hok hsum h5e D aC b sa ad H.size
      have g : ∀ z ∈ [Cond.methodLink (pm_own i) x (pm_y j), .static (pm_y j), .initialized (pm_y j).cls, .codeWith (pm_y j) (pm_b j) (pm_nL j) (pm_rty j) (pm_hh j)], z ∈ pm_G := fun z hz => r2 z (List.mem_append_right _ hz)
      exact vx_runSW (R := R) (s := s) (args := args) (own := pm_own i) (index := x) (bytes := pm_b j) (maxL := pm_nL j) (ret := pm_rty j) (hh := pm_hh j) (n := pm_np j) (As := as.map (pm_cv b ad)) (rest := r.map (pm_cv b ad)) (g := F0 m pc ls (st.map (pm_cv b ad))) (cells := cells) (slots := slots) (locs := locs) (H := H) (below := below) (meth := meth) (e := e) (cc := pm_b i) (nL := pm_nL i)
        ⟨hx, hb, hml, hown, hG⟩ hM ⟨⟨rfl, rfl, by show pm_rk j + 1 ≤ R.frames; omega, by show 8 + (pm_nL j + 11) + 42 * pm_rk j ≤ R.locals; omega, fun w9 hw9 a' U hW => by
          rcases List.mem_cons.mp hw9 with z | z
          · rw [z]; exact pm_warm hG (g _ (by simp)) hW
          · exact pm_warm hG z hW, List.mem_cons_self⟩, hG _ (g _ (by simp)), hG _ (g _ (by simp)), hmh, fun sig hsig => by rw [hsig] at h5d; exact (Option.some.inj h5d).symm, hG _ (g _ (by simp)), hG _ (g _ (by simp))⟩
        hpre rfl hlen2 F.2.2.2.1.1 hstk (lv_room hroom) r1 ⟨hc1, hs1⟩
end PN
end
section
/-! THROWS, and where they are caught -/
def pm_exc (x : Nat) : String := match x with
  | 1 => "java/lang/IllegalArgumentException"
  | 2 => "java/lang/IllegalStateException"
  | _ => "java/util/NoSuchElementException"
abbrev pm_sup : List String := ["java/lang/RuntimeException", "java/lang/Exception"]
def pm_isT (r : pm_R) : Bool := match r.2.1, r.2.2.2 with
  | .new _, [e] => decide (100 < e)
  | _, _ => false
/-- where 'throw new' stands: method, pc; class link, text, constructor link -/
def pm_thr : List (Nat × Nat) := [(55, 18), (55, 40), (56, 13), (58, 4), (60, 7), (61, 26), (62, 28), (63, 75), (65, 23), (66, 22)]
def pm_Site (j pc x : Nat) : Prop := ∃ (ik is ic : Nat) (text : String) (ix : Nat) (rx : ByteArray), (decode rx 0 = .ok (.aload_n 0, 1) ∧ decode rx 1 = .ok (.aload_n 1, 1) ∧ decode rx 2 = .ok (.invokespecial ix, 3) ∧ decode rx 5 = .ok (.return_, 1)) ∧ decode (pm_b j) pc = .ok (.new ik, 3) ∧ decode (pm_b j) (pc + 3) = .ok (.dup, 1) ∧ decode (pm_b j) (pc + 4) = .ok (.ldc is, 2) ∧ decode (pm_b j) (pc + 6) = .ok (.invokespecial ic, 3) ∧ decode (pm_b j) (pc + 9) = .ok (.athrow, 1) ∧ (is, text) ∈ pm_strs ∧ Cond.classLink (pm_own j) ik (pm_exc x) ∈ pm_G ∧ Cond.initialized (pm_exc x) ∈ pm_G ∧
  (vn_atS (pm_own j) ic (pm_exc x) ix rx pm_sup).all (fun w => decide (w ∈ lw_tbl) && (goodWord w || pm_isN w)) = true ∧ pm_own j = RX7 ∧ pm_hh j = [] ∧ 6 ≤ pm_rk j ∧ Bundle.fit (pm_exc x) = true ∧ (∀ n ∈ pm_sup, Bundle.fit n = true)
theorem pm_gin {w : Cond} {i : Nat} (h : lw_tbl[i]? = some w) (hg : goodWord w = true) : w ∈ pm_G := List.mem_filter.mpr ⟨List.mem_of_getElem? h, hg⟩
set_option maxRecDepth 100000 in
theorem ts_48_1 : (vn_atS RX7 48 "java/lang/IllegalArgumentException" 7 prog_12_method_2_code pm_sup).all (fun w => decide (w ∈ lw_tbl) && (goodWord w || pm_isN w)) = true := by decide +kernel
set_option maxRecDepth 100000 in
theorem ts_58_2 : (vn_atS RX7 58 "java/lang/IllegalStateException" 7 prog_13_method_2_code pm_sup).all (fun w => decide (w ∈ lw_tbl) && (goodWord w || pm_isN w)) = true := by decide +kernel
set_option maxRecDepth 100000 in
theorem ts_74_3 : (vn_atS RX7 74 "java/util/NoSuchElementException" 13 prog_20_method_4_code pm_sup).all (fun w => decide (w ∈ lw_tbl) && (goodWord w || pm_isN w)) = true := by decide +kernel
theorem tx_1 : decode prog_12_method_2_code 0 = .ok (.aload_n 0, 1) ∧ decode prog_12_method_2_code 1 = .ok (.aload_n 1, 1) ∧ decode prog_12_method_2_code 2 = .ok (.invokespecial 7, 3) ∧ decode prog_12_method_2_code 5 = .ok (.return_, 1) := by decide +kernel
theorem tx_2 : decode prog_13_method_2_code 0 = .ok (.aload_n 0, 1) ∧ decode prog_13_method_2_code 1 = .ok (.aload_n 1, 1) ∧ decode prog_13_method_2_code 2 = .ok (.invokespecial 7, 3) ∧ decode prog_13_method_2_code 5 = .ok (.return_, 1) := by decide +kernel
theorem tx_3 : decode prog_20_method_4_code 0 = .ok (.aload_n 0, 1) ∧ decode prog_20_method_4_code 1 = .ok (.aload_n 1, 1) ∧ decode prog_20_method_4_code 2 = .ok (.invokespecial 13, 3) ∧ decode prog_20_method_4_code 5 = .ok (.return_, 1) := by decide +kernel
set_option maxRecDepth 100000 in
theorem st_55_18 : pm_Site 55 18 1 := ⟨44, 46, 48, "no such op or key", _, _, tx_1, dX7_issue_18, dX7_issue_21, dX7_issue_22, dX7_issue_24, dX7_issue_27, by decide +kernel, pm_gin (i := 494) rfl rfl, pm_gin (i := 64) rfl rfl, ts_48_1, rfl, rfl, by decide, by decide +kernel, by decide +kernel⟩
set_option maxRecDepth 100000 in
theorem st_55_40 : pm_Site 55 40 2 := ⟨54, 56, 58, "there are 12 requests", _, _, tx_2, dX7_issue_40, dX7_issue_43, dX7_issue_44, dX7_issue_46, dX7_issue_49, by decide +kernel, pm_gin (i := 562) rfl rfl, pm_gin (i := 65) rfl rfl, ts_58_2, rfl, rfl, by decide, by decide +kernel, by decide +kernel⟩
set_option maxRecDepth 100000 in
theorem st_56_13 : pm_Site 56 13 3 := ⟨70, 72, 74, "no such request", _, _, tx_3, dX7_retry_13, dX7_retry_16, dX7_retry_17, dX7_retry_19, dX7_retry_22, by decide +kernel, pm_gin (i := 627) rfl rfl, pm_gin (i := 69) rfl rfl, ts_74_3, rfl, rfl, by decide, by decide +kernel, by decide +kernel⟩
set_option maxRecDepth 100000 in
theorem st_58_4 : pm_Site 58 4 1 := ⟨44, 82, 48, "from is below 0", _, _, tx_1, dX7_flood_4, dX7_flood_7, dX7_flood_8, dX7_flood_10, dX7_flood_13, by decide +kernel, pm_gin (i := 494) rfl rfl, pm_gin (i := 64) rfl rfl, ts_48_1, rfl, rfl, by decide, by decide +kernel, by decide +kernel⟩
set_option maxRecDepth 100000 in
theorem st_60_7 : pm_Site 60 7 1 := ⟨44, 93, 48, "no such replica", _, _, tx_1, dX7_patience_7, dX7_patience_10, dX7_patience_11, dX7_patience_13, dX7_patience_16, by decide +kernel, pm_gin (i := 494) rfl rfl, pm_gin (i := 64) rfl rfl, ts_48_1, rfl, rfl, by decide, by decide +kernel, by decide +kernel⟩
set_option maxRecDepth 100000 in
theorem st_61_26 : pm_Site 61 26 1 := ⟨44, 99, 48, "no such replica or request, or the faulty one", _, _, tx_1, dX7_lie_26, dX7_lie_29, dX7_lie_30, dX7_lie_32, dX7_lie_35, by decide +kernel, pm_gin (i := 494) rfl rfl, pm_gin (i := 64) rfl rfl, ts_48_1, rfl, rfl, by decide, by decide +kernel, by decide +kernel⟩
set_option maxRecDepth 100000 in
theorem st_62_28 : pm_Site 62 28 1 := ⟨44, 99, 48, "no such replica or request, or the faulty one", _, _, tx_1, dX7_echo_28, dX7_echo_31, dX7_echo_32, dX7_echo_34, dX7_echo_37, by decide +kernel, pm_gin (i := 494) rfl rfl, pm_gin (i := 64) rfl rfl, ts_48_1, rfl, rfl, by decide, by decide +kernel, by decide +kernel⟩
set_option maxRecDepth 100000 in
theorem st_63_75 : pm_Site 63 75 1 := ⟨44, 130, 48, "no such replica or what", _, _, tx_1, dX7_replica_75, dX7_replica_78, dX7_replica_79, dX7_replica_81, dX7_replica_84, by decide +kernel, pm_gin (i := 494) rfl rfl, pm_gin (i := 64) rfl rfl, ts_48_1, rfl, rfl, by decide, by decide +kernel, by decide +kernel⟩
set_option maxRecDepth 100000 in
theorem st_65_23 : pm_Site 65 23 3 := ⟨70, 142, 74, "no such message or what", _, _, tx_3, dX7_message_23, dX7_message_26, dX7_message_27, dX7_message_29, dX7_message_32, by decide +kernel, pm_gin (i := 627) rfl rfl, pm_gin (i := 69) rfl rfl, ts_74_3, rfl, rfl, by decide, by decide +kernel, by decide +kernel⟩
set_option maxRecDepth 100000 in
theorem st_66_22 : pm_Site 66 22 3 := ⟨70, 145, 74, "no such request or what", _, _, tx_3, dX7_request_22, dX7_request_25, dX7_request_26, dX7_request_28, dX7_request_31, by decide +kernel, pm_gin (i := 627) rfl rfl, pm_gin (i := 69) rfl rfl, ts_74_3, rfl, rfl, by decide, by decide +kernel, by decide +kernel⟩
theorem pm_thrs (j : Nat) : (pm_tb j).all (fun r => !pm_isT r || pm_thr.contains (j, r.1)) = true := by
  match j with
  | 0 => exact by decide +kernel
  | 1 => exact by decide +kernel
  | 2 => exact by decide +kernel
  | 3 => exact by decide +kernel
  | 4 => exact by decide +kernel
  | 5 => exact by decide +kernel
  | 6 => exact by decide +kernel
  | 7 => exact by decide +kernel
  | 8 => exact by decide +kernel
  | 9 => exact by decide +kernel
  | 10 => exact by decide +kernel
  | 11 => exact by decide +kernel
  | 12 => exact by decide +kernel
  | 13 => exact by decide +kernel
  | 14 => exact by decide +kernel
  | 15 => exact by decide +kernel
  | 16 => exact by decide +kernel
  | 17 => exact by decide +kernel
  | 18 => exact by decide +kernel
  | 19 => exact by decide +kernel
  | 20 => exact by decide +kernel
  | 21 => exact by decide +kernel
  | 22 => exact by decide +kernel
  | 23 => exact by decide +kernel
  | 24 => exact by decide +kernel
  | 25 => exact by decide +kernel
  | 26 => exact by decide +kernel
  | 27 => exact by decide +kernel
  | 28 => exact by decide +kernel
  | 29 => exact by decide +kernel
  | 30 => exact by decide +kernel
  | 31 => exact by decide +kernel
  | 32 => exact by decide +kernel
  | 33 => exact by decide +kernel
  | 34 => exact by decide +kernel
  | 35 => exact by decide +kernel
  | 36 => exact by decide +kernel
  | 37 => exact by decide +kernel
  | 38 => exact by decide +kernel
  | 39 => exact by decide +kernel
  | 40 => exact by decide +kernel
  | 41 => exact by decide +kernel
  | 42 => exact by decide +kernel
  | 43 => exact by decide +kernel
  | 44 => exact by decide +kernel
  | 45 => exact by decide +kernel
  | 46 => exact by decide +kernel
  | 47 => exact by decide +kernel
  | 48 => exact by decide +kernel
  | 49 => exact by decide +kernel
  | 50 => exact by decide +kernel
  | 51 => exact by decide +kernel
  | 52 => exact by decide +kernel
  | 53 => exact by decide +kernel
  | 54 => exact by decide +kernel
  | 55 => exact by decide +kernel
  | 56 => exact by decide +kernel
  | 57 => exact by decide +kernel
  | 58 => exact by decide +kernel
  | 59 => exact by decide +kernel
  | 60 => exact by decide +kernel
  | 61 => exact by decide +kernel
  | 62 => exact by decide +kernel
  | 63 => exact by decide +kernel
  | 64 => exact by decide +kernel
  | 65 => exact by decide +kernel
  | 66 => exact by decide +kernel
  | 67 => exact by decide +kernel
  | 68 => exact by decide +kernel
  | 69 => exact by decide +kernel
  | 70 => exact by decide +kernel
  | 71 => exact by decide +kernel
  | 72 => exact by decide +kernel
  | 73 => exact by decide +kernel
  | 74 => exact by decide +kernel
  | 75 => exact by decide +kernel
  | 76 => exact by decide +kernel
  | 77 => exact by decide +kernel
  | 78 => exact by decide +kernel
  | 79 => exact by decide +kernel
  | 80 => exact by decide +kernel
  | 81 => exact by decide +kernel
  | 82 => exact by decide +kernel
  | 83 => exact by decide +kernel
  | 84 => exact by decide +kernel
  | 85 => exact by decide +kernel
  | 86 => exact by decide +kernel
  | 87 => exact by decide +kernel
  | 88 => exact by decide +kernel
  | 89 => exact by decide +kernel
  | 90 => exact by decide +kernel
  | 91 => exact by decide +kernel
  | 92 => exact by decide +kernel
  | 93 => exact by decide +kernel
  | 94 => exact by decide +kernel
  | 95 => exact by decide +kernel
  | 96 => exact by decide +kernel
  | 97 => exact by decide +kernel
  | 98 => exact by decide +kernel
  | 99 => exact by decide +kernel
  | 100 => exact by decide +kernel
  | 101 => exact by decide +kernel
  | 102 => exact by decide +kernel
  | 103 => exact by decide +kernel
  | 104 => exact by decide +kernel
  | 105 => exact by decide +kernel
  | 106 => exact by decide +kernel
  | 107 => exact by decide +kernel
  | 108 => exact by decide +kernel
  | 109 => exact by decide +kernel
  | 110 => exact by decide +kernel
  | 111 => exact by decide +kernel
  | 112 => exact by decide +kernel
  | 113 => exact by decide +kernel
  | 114 => exact by decide +kernel
  | 115 => exact by decide +kernel
  | 116 => exact by decide +kernel
  | 117 => exact by decide +kernel
  | 118 => exact by decide +kernel
  | 119 => exact by decide +kernel
  | 120 => exact by decide +kernel
  | 121 => exact by decide +kernel
  | 122 => exact by decide +kernel
  | 123 => exact by decide +kernel
  | 124 => exact by decide +kernel
  | 125 => exact by decide +kernel
  | 126 => exact by decide +kernel
  | 127 => exact by decide +kernel
  | 128 => exact by decide +kernel
  | 129 => exact by decide +kernel
  | 130 => exact by decide +kernel
  | 131 => exact by decide +kernel
  | 132 => exact by decide +kernel
  | 133 => exact by decide +kernel
  | 134 => exact by decide +kernel
  | 135 => exact by decide +kernel
  | 136 => exact by decide +kernel
  | n + 137 =>
    have e : pm_tb (n + 137) = [] := by
      unfold pm_tb
      rw [List.getD_eq_getElem?_getD, List.getElem?_eq_none (by show pm_tbs.length ≤ n + 137; exact Nat.le_add_left _ _)]
      rfl
    rw [e]
    rfl
set_option maxRecDepth 100000 in
theorem pm_thr_st : ∀ q ∈ pm_thr, (!pm_ini q.1 && lw_tbl.all (fun w => decide (w ≠ Cond.static (pm_y q.1)))) = true := by decide +kernel
theorem pm_site {j x : Nat} {w : pm_S} (h : pm_ret j w = some (.inr x)) : pm_Site j w.1 x ∧ pm_sum w.2.2.1 ≤ 8 ∧ (j, w.1) ∈ pm_thr := by
  unfold pm_ret at h
  split at h
  · next r hr =>
    have hm := pm_at_row hr
    have ht := List.all_eq_true.mp (pm_thrs j) _ hm
    obtain ⟨ins, len, res⟩ := r
    have key : pm_isT (w.1, ins, len, res) = true ∧ res = [100 + x] ∧ pm_sum w.2.2.1 ≤ 8 := by
      unfold pm_out at h
      dsimp only at h
      split at h
      all_goals (try split at h)
      all_goals (try cases h)
      next hc =>
      refine ⟨decide_eq_true hc.1, ?_, ?_⟩
      · congr 1
        omega
      · first | exact hc.2 | (simp_all)
    obtain ⟨k1, k2, k3⟩ := key
    rw [k1] at ht
    have hin : (j, w.1) ∈ pm_thr := by simpa using ht
    refine ⟨?_, k3, hin⟩
    subst k2
    simp only [pm_thr, List.mem_cons, List.not_mem_nil, or_false, Prod.mk.injEq] at hin
    rcases hin with ⟨rfl, hp⟩ | ⟨rfl, hp⟩ | ⟨rfl, hp⟩ | ⟨rfl, hp⟩ | ⟨rfl, hp⟩ | ⟨rfl, hp⟩ | ⟨rfl, hp⟩ | ⟨rfl, hp⟩ | ⟨rfl, hp⟩ | ⟨rfl, hp⟩
    · rw [hp] at hr ⊢
      have e : pm_at 55 18 = some (.new 44, 3, [101]) := by decide +kernel
      rw [e] at hr
      have e2 : [101] = [100 + x] := congrArg (fun z : Instr × Nat × List Nat => z.2.2) (Option.some.inj hr)
      have e3 : x = 1 := by simp only [List.cons.injEq, and_true] at e2; omega
      subst e3
      exact st_55_18
    · rw [hp] at hr ⊢
      have e : pm_at 55 40 = some (.new 54, 3, [102]) := by decide +kernel
      rw [e] at hr
      have e2 : [102] = [100 + x] := congrArg (fun z : Instr × Nat × List Nat => z.2.2) (Option.some.inj hr)
      have e3 : x = 2 := by simp only [List.cons.injEq, and_true] at e2; omega
      subst e3
      exact st_55_40
    · rw [hp] at hr ⊢
      have e : pm_at 56 13 = some (.new 70, 3, [103]) := by decide +kernel
      rw [e] at hr
      have e2 : [103] = [100 + x] := congrArg (fun z : Instr × Nat × List Nat => z.2.2) (Option.some.inj hr)
      have e3 : x = 3 := by simp only [List.cons.injEq, and_true] at e2; omega
      subst e3
      exact st_56_13
    · rw [hp] at hr ⊢
      have e : pm_at 58 4 = some (.new 44, 3, [101]) := by decide +kernel
      rw [e] at hr
      have e2 : [101] = [100 + x] := congrArg (fun z : Instr × Nat × List Nat => z.2.2) (Option.some.inj hr)
      have e3 : x = 1 := by simp only [List.cons.injEq, and_true] at e2; omega
      subst e3
      exact st_58_4
    · rw [hp] at hr ⊢
      have e : pm_at 60 7 = some (.new 44, 3, [101]) := by decide +kernel
      rw [e] at hr
      have e2 : [101] = [100 + x] := congrArg (fun z : Instr × Nat × List Nat => z.2.2) (Option.some.inj hr)
      have e3 : x = 1 := by simp only [List.cons.injEq, and_true] at e2; omega
      subst e3
      exact st_60_7
    · rw [hp] at hr ⊢
      have e : pm_at 61 26 = some (.new 44, 3, [101]) := by decide +kernel
      rw [e] at hr
      have e2 : [101] = [100 + x] := congrArg (fun z : Instr × Nat × List Nat => z.2.2) (Option.some.inj hr)
      have e3 : x = 1 := by simp only [List.cons.injEq, and_true] at e2; omega
      subst e3
      exact st_61_26
    · rw [hp] at hr ⊢
      have e : pm_at 62 28 = some (.new 44, 3, [101]) := by decide +kernel
      rw [e] at hr
      have e2 : [101] = [100 + x] := congrArg (fun z : Instr × Nat × List Nat => z.2.2) (Option.some.inj hr)
      have e3 : x = 1 := by simp only [List.cons.injEq, and_true] at e2; omega
      subst e3
      exact st_62_28
    · rw [hp] at hr ⊢
      have e : pm_at 63 75 = some (.new 44, 3, [101]) := by decide +kernel
      rw [e] at hr
      have e2 : [101] = [100 + x] := congrArg (fun z : Instr × Nat × List Nat => z.2.2) (Option.some.inj hr)
      have e3 : x = 1 := by simp only [List.cons.injEq, and_true] at e2; omega
      subst e3
      exact st_63_75
    · rw [hp] at hr ⊢
      have e : pm_at 65 23 = some (.new 70, 3, [103]) := by decide +kernel
      rw [e] at hr
      have e2 : [103] = [100 + x] := congrArg (fun z : Instr × Nat × List Nat => z.2.2) (Option.some.inj hr)
      have e3 : x = 3 := by simp only [List.cons.injEq, and_true] at e2; omega
      subst e3
      exact st_65_23
    · rw [hp] at hr ⊢
      have e : pm_at 66 22 = some (.new 70, 3, [103]) := by decide +kernel
      rw [e] at hr
      have e2 : [103] = [100 + x] := congrArg (fun z : Instr × Nat × List Nat => z.2.2) (Option.some.inj hr)
      have e3 : x = 3 := by simp only [List.cons.injEq, and_true] at e2; omega
      subst e3
      exact st_66_22
  · cases h
end
section
/-- the row of a method's table that catches -/
def pm_Hand (i pc x : Nat) (q : Nat × Nat × Nat × Nat × Nat × Nat) : Prop := ∃ (pre : List ExceptionTableEntry) (y : ExceptionTableEntry) (suf : List ExceptionTableEntry), tableOf (pm_hh i) = pre ++ y :: suf ∧ (∀ z ∈ pre, covers z pc = false ∨ (z.catchType ≠ 0 ∧ ∃ nm : String, Cond.classLink (pm_own i) z.catchType nm ∈ pm_G ∧ (pm_exc x, nm) ∈ pm_ncs)) ∧ covers y pc = true ∧ y.catchType ≠ 0 ∧ Cond.classLink (pm_own i) y.catchType (pm_exc x) ∈ pm_G ∧ Cond.castable (pm_exc x) (pm_exc x) ∈ pm_NW ∧ q.2.2.2.2.1 < pm_nL i ∧
  ((∃ k : Fin 4, decode (pm_b i) y.handlerPc = .ok (.astore_n k, 1) ∧ (k : Nat) = q.2.2.2.2.1 ∧ q.2.2.2.2.2 = y.handlerPc + 1) ∨ (decode (pm_b i) y.handlerPc = .ok (.astore q.2.2.2.2.1, 2) ∧ q.2.2.2.2.2 = y.handlerPc + 2))
theorem pm_cov {a b2 hp ct pc : Nat} (h1 : a ≤ pc) (h2 : pc < b2) : covers ⟨a, b2, hp, ct⟩ pc = true := by
  simp [covers, h1, h2]
set_option maxRecDepth 100000 in
theorem pm_hand {i pc x : Nat} {q : Nat × Nat × Nat × Nat × Nat × Nat} (h : pm_hnd (pm_hn i) pc x = some q) : pm_Hand i pc x q := by
  match i, h with
  | 0, h => cases h
  | 1, h => cases h
  | 2, h => cases h
  | 3, h => cases h
  | 4, h => cases h
  | 5, h => cases h
  | 6, h => cases h
  | 7, h => cases h
  | 8, h => cases h
  | 9, h => cases h
  | 10, h => cases h
  | 11, h => cases h
  | 12, h => cases h
  | 13, h => cases h
  | 14, h => cases h
  | 15, h => cases h
  | 16, h => cases h
  | 17, h => cases h
  | 18, h => cases h
  | 19, h => cases h
  | 20, h => cases h
  | 21, h => cases h
  | 22, h => cases h
  | 23, h => cases h
  | 24, h => cases h
  | 25, h => cases h
  | 26, h => cases h
  | 27, h => cases h
  | 28, h => cases h
  | 29, h => cases h
  | 30, h => cases h
  | 31, h => cases h
  | 32, h => cases h
  | 33, h => cases h
  | 34, h => cases h
  | 35, h => cases h
  | 36, h => cases h
  | 37, h => cases h
  | 38, h => cases h
  | 39, h => cases h
  | 40, h => cases h
  | 41, h => cases h
  | 42, h => cases h
  | 43, h => cases h
  | 44, h => cases h
  | 45, h => cases h
  | 46, h => cases h
  | 47, h => cases h
  | 48, h => cases h
  | 49, h => cases h
  | 50, h => cases h
  | 51, h => cases h
  | 52, h => cases h
  | 53, h => cases h
  | 54, h => cases h
  | 55, h => cases h
  | 56, h => cases h
  | 57, h => cases h
  | 58, h => cases h
  | 59, h => cases h
  | 60, h => cases h
  | 61, h => cases h
  | 62, h => cases h
  | 63, h => cases h
  | 64, h => cases h
  | 65, h => cases h
  | 66, h => cases h
  | 67, h => cases h
  | 68, h => cases h
  | 69, h => cases h
  | 70, h => cases h
  | 71, h => cases h
  | 72, h => cases h
  | 73, h => cases h
  | 74, h => cases h
  | 75, h => cases h
  | 76, h => cases h
  | 77, h => cases h
  | 78, h => cases h
  | 79, h => cases h
  | 80, h => cases h
  | 81, h => cases h
  | 82, h => cases h
  | 83, h => cases h
  | 84, h => cases h
  | 85, h => cases h
  | 86, h => cases h
  | 87, h => cases h
  | 88, h => cases h
  | 89, h => cases h
  | 90, h => cases h
  | 91, h => cases h
  | 92, h => cases h
  | 93, h => cases h
  | 94, h => cases h
  | 95, h => cases h
  | 96, h => cases h
  | 97, h => cases h
  | 98, h => cases h
  | 99, h => cases h
  | 100, h => cases h
  | 101, h => cases h
  | 102, h => cases h
  | 103, h => cases h
  | 104, h => cases h
  | 105, h => cases h
  | 106, h => cases h
  | 107, h => cases h
  | 108, h => cases h
  | 109, h => cases h
  | 110, h => cases h
  | 111, h => cases h
  | 112, h => cases h
  | 113, h => cases h
  | 114, h => cases h
  | 115, h => cases h
  | 116, h => cases h
  | 117, h => cases h
  | 118, h => cases h
  | 119, h => cases h
  | 120, h => cases h
  | 121, h => cases h
  | 122, h => cases h
  | 123, h => cases h
  | 124, h => cases h
  | 125, h => cases h
  | 126, h => cases h
  | 127, h =>
    have h0 : pm_hnd [(0, 12, 15, 1, 5, 17), (0, 12, 19, 2, 5, 21)] pc x = some q := h
    have hm := List.mem_of_find?_eq_some h0
    have hc := List.find?_some h0
    simp only [List.mem_cons, List.not_mem_nil, or_false] at hm
    rcases hm with rfl | rfl
    · simp only [Bool.and_eq_true, decide_eq_true_eq, beq_iff_eq] at hc
      obtain ⟨⟨c1, c2⟩, rfl⟩ := hc
      exact ⟨[], ⟨0, 12, 15, 13⟩, [⟨0, 12, 19, 15⟩], rfl, (fun z hz => by cases hz), pm_cov c1 c2, by decide, pm_gin (i := 488) rfl rfl, List.mem_filter.mpr ⟨List.mem_of_getElem? (i := 496) rfl, rfl⟩, by decide, Or.inr ⟨td_L_issue (15, .astore 5, 2, []) (List.mem_of_getElem? (i := 10) rfl), rfl⟩⟩
    · simp only [Bool.and_eq_true, decide_eq_true_eq, beq_iff_eq] at hc
      obtain ⟨⟨c1, c2⟩, rfl⟩ := hc
      exact ⟨[⟨0, 12, 15, 13⟩], ⟨0, 12, 19, 15⟩, [], rfl, (fun z hz => Or.inr (by rw [List.mem_singleton.mp hz]; exact ⟨by decide, "java/lang/IllegalArgumentException", pm_gin (i := 488) rfl rfl, by decide +kernel⟩)), pm_cov c1 c2, by decide, pm_gin (i := 489) rfl rfl, List.mem_filter.mpr ⟨List.mem_of_getElem? (i := 564) rfl, rfl⟩, by decide, Or.inr ⟨td_L_issue (19, .astore 5, 2, []) (List.mem_of_getElem? (i := 13) rfl), rfl⟩⟩
  | 128, h =>
    have h0 : pm_hnd [(0, 9, 12, 3, 3, 13)] pc x = some q := h
    have hm := List.mem_of_find?_eq_some h0
    have hc := List.find?_some h0
    simp only [List.mem_cons, List.not_mem_nil, or_false] at hm
    rcases hm with rfl
    · simp only [Bool.and_eq_true, decide_eq_true_eq, beq_iff_eq] at hc
      obtain ⟨⟨c1, c2⟩, rfl⟩ := hc
      exact ⟨[], ⟨0, 9, 12, 21⟩, [], rfl, (fun z hz => by cases hz), pm_cov c1 c2, by decide, pm_gin (i := 621) rfl rfl, List.mem_filter.mpr ⟨List.mem_of_getElem? (i := 629) rfl, rfl⟩, by decide, Or.inl ⟨3, td_L_retry (12, .astore_n 3, 1, []) (List.mem_of_getElem? (i := 8) rfl), rfl, rfl⟩⟩
  | 129, h =>
    have h0 : pm_hnd [(0, 9, 12, 1, 3, 13)] pc x = some q := h
    have hm := List.mem_of_find?_eq_some h0
    have hc := List.find?_some h0
    simp only [List.mem_cons, List.not_mem_nil, or_false] at hm
    rcases hm with rfl
    · simp only [Bool.and_eq_true, decide_eq_true_eq, beq_iff_eq] at hc
      obtain ⟨⟨c1, c2⟩, rfl⟩ := hc
      exact ⟨[], ⟨0, 9, 12, 13⟩, [], rfl, (fun z hz => by cases hz), pm_cov c1 c2, by decide, pm_gin (i := 488) rfl rfl, List.mem_filter.mpr ⟨List.mem_of_getElem? (i := 496) rfl, rfl⟩, by decide, Or.inl ⟨3, td_L_flood (12, .astore_n 3, 1, []) (List.mem_of_getElem? (i := 8) rfl), rfl, rfl⟩⟩
  | 130, h =>
    have h0 : pm_hnd [(0, 16, 19, 1, 3, 20)] pc x = some q := h
    have hm := List.mem_of_find?_eq_some h0
    have hc := List.find?_some h0
    simp only [List.mem_cons, List.not_mem_nil, or_false] at hm
    rcases hm with rfl
    · simp only [Bool.and_eq_true, decide_eq_true_eq, beq_iff_eq] at hc
      obtain ⟨⟨c1, c2⟩, rfl⟩ := hc
      exact ⟨[], ⟨0, 16, 19, 13⟩, [], rfl, (fun z hz => by cases hz), pm_cov c1 c2, by decide, pm_gin (i := 488) rfl rfl, List.mem_filter.mpr ⟨List.mem_of_getElem? (i := 496) rfl, rfl⟩, by decide, Or.inl ⟨3, td_L_patience (19, .astore_n 3, 1, []) (List.mem_of_getElem? (i := 11) rfl), rfl, rfl⟩⟩
  | 131, h =>
    have h0 : pm_hnd [(0, 17, 20, 1, 4, 22)] pc x = some q := h
    have hm := List.mem_of_find?_eq_some h0
    have hc := List.find?_some h0
    simp only [List.mem_cons, List.not_mem_nil, or_false] at hm
    rcases hm with rfl
    · simp only [Bool.and_eq_true, decide_eq_true_eq, beq_iff_eq] at hc
      obtain ⟨⟨c1, c2⟩, rfl⟩ := hc
      exact ⟨[], ⟨0, 17, 20, 13⟩, [], rfl, (fun z hz => by cases hz), pm_cov c1 c2, by decide, pm_gin (i := 488) rfl rfl, List.mem_filter.mpr ⟨List.mem_of_getElem? (i := 496) rfl, rfl⟩, by decide, Or.inr ⟨td_L_lie (20, .astore 4, 2, []) (List.mem_of_getElem? (i := 12) rfl), rfl⟩⟩
  | 132, h =>
    have h0 : pm_hnd [(0, 17, 20, 1, 4, 22)] pc x = some q := h
    have hm := List.mem_of_find?_eq_some h0
    have hc := List.find?_some h0
    simp only [List.mem_cons, List.not_mem_nil, or_false] at hm
    rcases hm with rfl
    · simp only [Bool.and_eq_true, decide_eq_true_eq, beq_iff_eq] at hc
      obtain ⟨⟨c1, c2⟩, rfl⟩ := hc
      exact ⟨[], ⟨0, 17, 20, 13⟩, [], rfl, (fun z hz => by cases hz), pm_cov c1 c2, by decide, pm_gin (i := 488) rfl rfl, List.mem_filter.mpr ⟨List.mem_of_getElem? (i := 496) rfl, rfl⟩, by decide, Or.inr ⟨td_L_echo (20, .astore 4, 2, []) (List.mem_of_getElem? (i := 12) rfl), rfl⟩⟩
  | 133, h =>
    have h0 : pm_hnd [(0, 10, 13, 1, 4, 15)] pc x = some q := h
    have hm := List.mem_of_find?_eq_some h0
    have hc := List.find?_some h0
    simp only [List.mem_cons, List.not_mem_nil, or_false] at hm
    rcases hm with rfl
    · simp only [Bool.and_eq_true, decide_eq_true_eq, beq_iff_eq] at hc
      obtain ⟨⟨c1, c2⟩, rfl⟩ := hc
      exact ⟨[], ⟨0, 10, 13, 13⟩, [], rfl, (fun z hz => by cases hz), pm_cov c1 c2, by decide, pm_gin (i := 488) rfl rfl, List.mem_filter.mpr ⟨List.mem_of_getElem? (i := 496) rfl, rfl⟩, by decide, Or.inr ⟨td_L_replica (13, .astore 4, 2, []) (List.mem_of_getElem? (i := 9) rfl), rfl⟩⟩
  | 134, h =>
    have h0 : pm_hnd [(0, 10, 13, 3, 4, 15)] pc x = some q := h
    have hm := List.mem_of_find?_eq_some h0
    have hc := List.find?_some h0
    simp only [List.mem_cons, List.not_mem_nil, or_false] at hm
    rcases hm with rfl
    · simp only [Bool.and_eq_true, decide_eq_true_eq, beq_iff_eq] at hc
      obtain ⟨⟨c1, c2⟩, rfl⟩ := hc
      exact ⟨[], ⟨0, 10, 13, 21⟩, [], rfl, (fun z hz => by cases hz), pm_cov c1 c2, by decide, pm_gin (i := 621) rfl rfl, List.mem_filter.mpr ⟨List.mem_of_getElem? (i := 629) rfl, rfl⟩, by decide, Or.inr ⟨td_L_message (13, .astore 4, 2, []) (List.mem_of_getElem? (i := 9) rfl), rfl⟩⟩
  | 135, h =>
    have h0 : pm_hnd [(0, 10, 13, 3, 4, 15)] pc x = some q := h
    have hm := List.mem_of_find?_eq_some h0
    have hc := List.find?_some h0
    simp only [List.mem_cons, List.not_mem_nil, or_false] at hm
    rcases hm with rfl
    · simp only [Bool.and_eq_true, decide_eq_true_eq, beq_iff_eq] at hc
      obtain ⟨⟨c1, c2⟩, rfl⟩ := hc
      exact ⟨[], ⟨0, 10, 13, 21⟩, [], rfl, (fun z hz => by cases hz), pm_cov c1 c2, by decide, pm_gin (i := 621) rfl rfl, List.mem_filter.mpr ⟨List.mem_of_getElem? (i := 629) rfl, rfl⟩, by decide, Or.inr ⟨td_L_request (13, .astore 4, 2, []) (List.mem_of_getElem? (i := 9) rfl), rfl⟩⟩
  | 136, h => cases h
  | n + 137, h =>
    exfalso
    have e : pm_hn (n + 137) = [] := by
      unfold pm_hn
      rw [List.getD_eq_getElem?_getD, List.getElem?_eq_none (by show pm_hns.length ≤ n + 137; exact Nat.le_add_left _ _)]
      rfl
    rw [e] at h
    cases h
end
section
/-! THE PURE MACHINE'S RUN IS THE MACHINE'S -/
theorem pm_dr_cl (b : Nat) (ad : Nat → Nat) (lv : pm_L) (i : Nat) : (pm_cl b ad lv).filter (fun q => !(q.1 == i) && !(q.1 + 1 == i && q.2.category == 2)) = pm_cl b ad (pm_dr lv i) := by
  unfold pm_dr pm_cl
  rw [List.filter_map]
  congr 1
  apply List.filter_congr
  intro q _
  simp [pm_cv_cat]
theorem pm_vxot {w : Cond} (h : (goodWord w || pm_isN w) = true) : vx_ot w = true := by
  simp only [Bool.or_eq_true] at h
  unfold vx_ot
  rcases h with h | h
  · simp [h]
  · have e : w.onTables = true := by cases w <;> first | rfl | (cases h)
    simp [e]
theorem pm_vxotG {w : Cond} (h : w ∈ pm_G) : vx_ot w = true := pm_vxot (by simp [(List.mem_filter.mp h).2])
/-- the contract of a method that throws -/
theorem pm_metX {l : Launch} (hl : l.stackTraces = false) {sc : pm_Sc} {n : Nat} (hS : pm_Snd l sc n) {j x : Nat} {as : List Value} {h : pm_H} {o : pm_S} (hev : pm_ev sc n j (0, lv_args 0 as, [], h) = some o) (hv : pm_ret j o = some (.inr x)) (hok : pm_okS (0, lv_args 0 as, [], h)) (hsum : pm_sum as ≤ pm_nL j) (hpl : plainName (pm_y j).cls = true) (D : va_G) (aC : Nat → ClassId) (b : Nat) (sa ad : Nat → Nat) (sz : Nat) :
    vx_Met l (pm_y j) (Cond.code (pm_y j) (pm_b j) (pm_nL j) (pm_rty j) :: pm_G) { frames := pm_rk j, cells := o.2.2.2.2.1 + 1 - h.2.1, slots := o.2.2.2.2.2 + 6 - h.2.2, locals := 42 * pm_rk j } (pm_Pc D aC b sc sa ad as h sz) (fun _ _ _ _ => False) (pm_XC D aC b ad h sz (pm_exc x) o.2.2.2) (o.2.2.2.2.1 + 1 - h.2.1) (o.2.2.2.2.2 + 6 - h.2.2) (va_A (pm_ch b aC ad h.1) sz) := by
  refine vx_ofW (cc := pm_b j) (maxL := pm_nL j) (ret := pm_rty j) hpl rfl ?_
  intro p e s m args below meth c s₁ B hml hnoh hvv
  obtain ⟨rfl, rfl, hP, hD0, hAm⟩ := hvv
  have hts := atoms_spec (ws := Cond.code (pm_y j) (pm_b j) (pm_nL j) (pm_rty j) :: pm_G) B.pre
  have hown : s.vm.findClass (pm_own j) = some m.cls := by rw [← pm_sta1 j]; exact findClass_of_methodNamed B.named
  obtain ⟨⟨ik, is, ic, text, ix, rx, ⟨x0, x1, x2, x5⟩, d0, d3, d4, d6, d9, hstr, hck, hini, hats, ho7, hhh, hrk, hfit, hfits⟩, hsu, -⟩ := pm_site hv
  have htab : c.exceptionTable.toList = tableOf (pm_hh j) := by
    rw [hhh]
    show _ = []
    exact List.eq_nil_iff_forall_not_mem.mpr (fun z hz => hnoh z hz)
  have X : pm_Ctx p { frames := pm_rk j, cells := o.2.2.2.2.1 + 1 - h.2.1, slots := o.2.2.2.2.2 + 6 - h.2.2, locals := 42 * pm_rk j } s m (as.map (pm_cv b ad)).toArray meth c D aC b sc sa (va_A (pm_ch b aC ad h.1) s.heap.size) j := ⟨B.exec, B.bytes, hml, hown, fun w hw => hts w (List.mem_cons_of_mem _ hw), hAm, fun q hq => Or.inr hq, fun hi => (name_of_methodNamed B.named B.method).1.trans (pm_sta2 j hi), B.notSynchronized, htab, Nat.le_refl _, Nat.le_refl _⟩
  have E := pm_ev_ok sc n j _ _ hev hok
  have e1 : h.2.1 ≤ o.2.2.2.2.1 := E.2.1
  have e2 : h.2.2 ≤ o.2.2.2.2.2 := E.2.2.1
  have hle : (lg_sl (as.map (pm_cv b ad))).length ≤ pm_nL j := by rw [pm_sl_len, pm_sum_cv]; exact hsum
  have hle2 := lv_entry (as.map (pm_cv b ad)) hle
  rw [pm_args_cv] at hle2
  rw [lg_entry_eq]
  refine hS j _ o hev hok p e _ s m _ below meth c _ D aC b sa _ h.2.1 h.2.2 X ad _ s.heap [] 0 0 ⟨hP, hD0.self, va_S.rf, hle2, Nat.zero_add _, Nat.zero_add _⟩ hok (by show _ ≤ h.2.1 + (o.2.2.2.2.1 + 1 - h.2.1); omega) (by show _ ≤ h.2.2 + (o.2.2.2.2.2 + 6 - h.2.2); omega) ?_
  intro ad' ls' H' locs' cells' slots' ha F'
  obtain ⟨f1, f2, f3, f4, f5, f6⟩ := F'
  have hsu2 : ((o.2.2.1.map (pm_cv b ad')).map fun v => v.category).sum ≤ 8 := by
    have z := pm_sum_cv b ad' o.2.2.1
    unfold pm_sum at z hsu
    omega
  have hat : ∀ w ∈ vn_atS (pm_own j) ic (pm_exc x) ix rx pm_sup, w.before (as.map (pm_cv b ad)).toArray s = true := by
    intro w hw
    have z := List.all_eq_true.mp hats w hw
    simp only [Bool.and_eq_true, decide_eq_true_eq, Bool.or_eq_true] at z
    rcases z.2 with g | g
    · exact hts w (List.mem_cons_of_mem _ (List.mem_filter.mpr ⟨z.1, g⟩))
    · have hn : w ∈ pm_NW := List.mem_filter.mpr ⟨z.1, g⟩
      exact va_Nw.use (pm_NW_on hn) (hAm.2.1 w hn)
  have hgood : ∀ w ∈ Cond.classLink (pm_own j) ik (pm_exc x) :: Cond.initialized (pm_exc x) :: vn_atS (pm_own j) ic (pm_exc x) ix rx pm_sup, vx_ot w = true := by
    intro w hw
    rcases List.mem_cons.mp hw with g | g
    · rw [g]; exact pm_vxotG hck
    · rcases List.mem_cons.mp g with g | g
      · rw [g]; exact pm_vxotG hini
      · have z := List.all_eq_true.mp hats w g
        simp only [Bool.and_eq_true] at z
        exact pm_vxot z.2
  refine vn_throwS x0 x1 x2 x5 (own := pm_own j) (cls := pm_exc x) (text := text) (names := pm_sup) (ik := ik) (is := is) (ic := ic) (sa := sa is) (A := va_A (pm_ch b aC ad h.1) s.heap.size) B.exec B.bytes hl hown hfit hfits (hts _ (List.mem_cons_of_mem _ hck)) (hts _ (List.mem_cons_of_mem _ hini)) (by rw [ho7]; exact hAm.2.2.2.2.1.1 (is, text) hstr) hat hgood hAm.2.2.2.2.1.2.1 hAm.2.2.2.2.1.2.2 f3 (f4.1.trans hml.symm) d0 d3 d4 d6 d9 (fun z hz => (hnoh z hz).elim) (by show 2 + 3 < pm_rk j; omega) (by show _ + (13 * (2 + 1) + 43) ≤ 42 * pm_rk j; omega) (by show cells' + 1 ≤ o.2.2.2.2.1 + 1 - h.2.1; omega) (by show slots' + 6 ≤ o.2.2.2.2.2 + 6 - h.2.2; omega) B.notSynchronized ?_ f3.2.2 (by omega) (by omega)
  intro t hal hsz hk
  exact ⟨rfl, ad', ha, f1.kept (fun k q hq => hk q.1 (f1 k q hq).lt), f2, ⟨Nat.le_trans f3.1 hsz, fun q g1 g2 => (hk q (Nat.lt_of_lt_of_le g1 f3.1)).trans (f3.2.1 q g1 g2)⟩⟩
section PX
variable {p : Program} {l : Launch} {e : Env} {R : Room} {s : State} {m : MethodId} {args : Array Value} {below : List Frame} {meth : Method} {c : Code} {Q : State → Prop}
variable {D : va_G} {aC : Nat → ClassId} {b : Nat} {sc : pm_Sc} {sa : Nat → Nat} {A : Nat → Prop} {nc0 ns0 : Nat}
/-- a call that throws, caught here -/
theorem pm_go_throw (hl : l.stackTraces = false) {n : Nat} (hS : pm_Snd l sc n) {i : Nat} {s0 : pm_S} {k : pm_K} {w : pm_S} {x : Nat} {q : Nat × Nat × Nat × Nat × Nat × Nat} (X : pm_Ctx p R s m args meth c D aC b sc sa A i) (hs : pm_step sc i s0 = some (.inr k)) (hsum : pm_sum k.2.1 ≤ pm_nL k.1) (O : pm_okS s0) (hw : pm_ev sc n k.1 (0, lv_args 0 k.2.1, [], s0.2.2.2) = some w) (hv : pm_ret k.1 w = some (.inr x)) (hq : pm_hnd (pm_hn i) s0.1 x = some q) :
    pm_Go p l e R s m args below meth c Q D aC b A (pm_nL i) nc0 ns0 s0 (q.2.2.2.2.2, pm_dr s0.2.1 q.2.2.2.2.1, [], (w.2.2.2.1, w.2.2.2.2.1 + 1, w.2.2.2.2.2 + 6)) := by
  obtain ⟨hx, hb, hml, hown, hG, hAm, hA, hin, hlk, htab, hrf, hrl⟩ := X
  obtain ⟨a, ha, hd⟩ := pm_step_at hs
  obtain ⟨m1, m2⟩ := pm_do_sub hd
  have hok := pm_entry_ok O m1
  have E := pm_ev_ok sc n k.1 _ _ hw hok
  obtain ⟨r1, r2, r3, r4, r5⟩ := pm_row ha
  obtain ⟨ins, len, res⟩ := a
  dsimp only at r1 r2 r3 r4 r5 hd
  obtain ⟨pc, lv, st, h⟩ := s0
  dsimp only at hd m1 m2 r1 E hw hq
  have hsite := (pm_site hv).2.2
  have hlen : pm_len ins = 3 → len = 3 := by
    intro h1
    simp only [pm_chk, h1, Bool.and_eq_true, Bool.or_eq_true, beq_iff_eq] at r4
    omega
  rcases pm_do_call hd with ⟨y, bb, c0, fs, kd, rfl, rfl, hkd, hdr, hcell, hnp, hmc, hsu, hrk, has⟩ | ⟨y, bb, kd, rfl, rfl, hkd, hdr, hnp, hsu, hrk, has⟩ | ⟨y, kd, rfl, rfl, hkd, hdr, hnp, hsu, hrk, has⟩
  all_goals (obtain ⟨j, as, r⟩ := k; dsimp only at hw hv hsum m1 m2 hdr hnp hsu hrk has r5 hok E hsite)
  · obtain rfl := hlen rfl
    simp only [pm_ckj, Bool.and_eq_true, decide_eq_true_eq, beq_iff_eq, List.isEmpty_iff] at r5
    obtain ⟨⟨⟨⟨⟨rfl, h5a⟩, h5b⟩, h5c⟩, h5d⟩, h5e⟩ := r5
    dsimp only at hmc
    subst hmc
    obtain ⟨qc, hqc1, hqc⟩ : ∃ q, vwCl[pm_mc j]? = some q ∧ q.1 = (pm_y j).cls := by
      cases hcl : vwCl[pm_mc j]? with
      | none => rw [hcl] at h5c; cases h5c
      | some q => rw [hcl] at h5c; exact ⟨q, rfl, Option.some.inj h5c⟩
    have g : ∀ z ∈ [Cond.methodLink (pm_own i) y (pm_y j), .instanceMethod (pm_y j), .selects (pm_y j).cls (pm_y j) (pm_y j), .initialized (pm_y j).cls, .code (pm_y j) (pm_b j) (pm_nL j) (pm_rty j)], z ∈ pm_G := fun z hz => r2 z (List.mem_append_right _ hz)
    have hst : st = (st.take (pm_np j)) ++ .ref bb :: r := by rw [← hdr, List.take_append_drop]
    have hmh := pm_nmh2 j
    intro ad ls H locs cells slots F O hc hs1 kk T hT X0
    have F : pm_Fc s D aC b A (pm_nL i) nc0 ns0 ad lv h ls H locs cells slots := F
    have O : pm_ok lv st h.1 := O
    have hc : w.2.2.2.2.1 + 1 ≤ nc0 + R.cells := hc
    have hs1 : w.2.2.2.2.2 + 6 ≤ ns0 + R.slots := hs1
    have e1 : h.2.1 ≤ w.2.2.2.2.1 := E.2.1
    have e2 : h.2.2 ≤ w.2.2.2.2.2 := E.2.2.1
    have hM := pm_metX hl hS hw hv hok hsum h5e D aC b sa ad H.size
    obtain ⟨f1, f2, f3, f4, f5, f6⟩ := F
    have run := vz_runV (W9 := 12) (R := R) (s := s) (args := args) (own := pm_own i) (C := (pm_y j).cls) (index := y) (bytes := pm_b j) (maxL := pm_nL j) (ret := pm_rty j) (n := pm_np j) (b := ad bb) (As := ((st.take (pm_np j)).reverse).map (pm_cv b ad)) (rest := r.map (pm_cv b ad)) (g := F0 m pc ls (st.map (pm_cv b ad))) (cells := cells) (slots := slots) (locs := locs) (H := H) (below := below) (meth := meth) (e := e) (cc := pm_b i) (nL := pm_nL i)
      ⟨hx, hb, hml, hown, hG⟩ hM ⟨⟨rfl, rfl, by show pm_rk j + 1 ≤ R.frames; omega, by show 8 + (pm_nL j + 11) + 42 * pm_rk j ≤ R.locals; omega, fun w9 hw9 a' U hW => by
        rcases List.mem_cons.mp hw9 with z | z
        · rw [z]; exact pm_warm hG (g _ (by simp)) hW
        · exact pm_warm hG z hW, List.mem_cons_self, hG _ (g _ (by simp)), hG _ (g _ (by simp)), hmh, fun sig hsig => by rw [hsig] at h5d; exact (Option.some.inj h5d).symm, hG _ (g _ (by simp))⟩, hG _ (g _ (by simp)), hG _ (g _ (by simp))⟩ (by show 12 + (pm_nL j + 11) + 42 * pm_rk j ≤ R.locals; omega)
      ⟨pm_blind _ _ _ _ _ _ _ _ _, by rw [← hqc]; exact va_recv hAm.1 f1 hqc1 (pm_ch_get hcell), by
        have z := pm_pre (as := as) (sa := sa) (h := h) hAm hA f1 f2 f3
        rw [has] at z ⊢
        exact z⟩ rfl (by rw [List.length_map, List.length_reverse, List.length_take]; omega) f4.1 (by
        show st.map (pm_cv b ad) = _
        conv => lhs; rw [hst]
        rw [List.map_append, List.map_cons, ← List.map_reverse, List.reverse_reverse]
        rfl) (by show 2 * 0 + _ ≤ 12; have z := pm_sum_cv b ad r; unfold pm_sum at z hsu; omega) r1 ⟨by omega, by omega⟩
    rcases run T hT X0 with ⟨_, _, _, _, _, _, _, _, _, _, hfalse, _⟩ | ⟨qa, st₀, t, T', L, Ex, ce, h0, X', hL, q1, q2, ⟨rfl, ad', hae, hP1, hD1, hF⟩, hce, hcv, hcl, hgo⟩
    · exact hfalse.elim
    · have sub := pm_sub hA f2 f3
      obtain ⟨hz, hk⟩ := hF
      rw [h0] at hz hk
      have hS' : va_S A s.heap T'.heap (locs ++ L) := ⟨Nat.le_trans f3.1 (by rw [q1]; exact hz), fun q g1 g2 => by rw [q1, hk q (Nat.lt_of_lt_of_le g1 f3.1) (fun z => g2 (sub q z))]; exact f3.2.1 q g1 g2, fun q hq => by
        rcases List.mem_append.mp hq with z | z
        · exact f3.2.2 q z
        · exact sub _ (hL q z)⟩
      have hlv : pm_cl b ad' lv = pm_cl b ad lv := pm_cl_ad hae O.1
      obtain ⟨pre, yy, suf, hsplit, hpass, hcov, hct, hlnk, hcast, hkn, hst2⟩ := pm_hand hq
      have fin : ∀ ls' : Array Slot, lv_has ls' (pm_nL i) ((q.2.2.2.2.1, Value.ref qa) :: (pm_cl b ad lv).filter (fun z => !(z.1 == q.2.2.2.2.1) && !(z.1 + 1 == q.2.2.2.2.1 && z.2.category == 2))) → W p l e R s m args below meth c T'.heap (locs ++ L) (cells + (w.2.2.2.2.1 + 1 - h.2.1)) (slots + (w.2.2.2.2.2 + 6 - h.2.2)) Q (F0 m q.2.2.2.2.2 ls' []) := by
        intro ls' hl'
        refine kk ad' ls' T'.heap (locs ++ L) _ _ hae ⟨by rw [q1]; exact hP1, hD1.weaken (fun k q _ z => sub q.1 z), hS', ?_, by show _ = w.2.2.2.2.1 + 1; omega, by show _ = w.2.2.2.2.2 + 6; omega⟩
        show lv_has ls' (pm_nL i) (pm_cl b ad' (pm_dr lv q.2.2.2.2.1))
        rw [← pm_dr_cl, hlv]
        exact ⟨hl'.1, hl'.2.1, fun z hz => hl'.2.2 z (List.mem_cons_of_mem _ hz)⟩
      have kx : vx_W p l e R s m args below meth c T'.heap (locs ++ L) (cells + (w.2.2.2.2.1 + 1 - h.2.1)) (slots + (w.2.2.2.2.2 + 6 - h.2.2)) Q (F0 m pc ls (r.map (pm_cv b ad))) qa := by
        refine vx_catch (own := pm_own i) (name := pm_exc x) (E := pm_exc x) (ce := ce) hown pre yy suf (htab.trans hsplit) (fun z hz => ?_) hcov hct (hG _ hlnk) (va_Nw.use rfl (hAm.2.1 _ hcast)) (by rw [q1]; exact hce) hcv hcl ?_
        · rcases hpass z hz with g1 | ⟨g1, nm, g2, g3⟩
          · exact Or.inl g1
          · exact Or.inr ⟨g1, nm, hG _ g2, hAm.2.2.2.2.2 (pm_exc x, nm) g3⟩
        · rcases hst2 with ⟨k4, dk, ek, epc⟩ | ⟨dk, epc⟩
          · refine lv_astore_n hx hb dk ek f4 hkn rfl (fun ls' hl' => ?_)
            have z := fin ls' hl'
            rw [epc] at z
            exact z
          · refine lv_astore hx hb dk f4 hkn rfl (fun ls' hl' => ?_)
            have z := fin ls' hl'
            rw [epc] at z
            exact z
      obtain ⟨t2, a1, b1⟩ := kx T' rfl X'
      exact ⟨t2, hgo.trans a1, b1⟩
  · -- a constructor doesn't throw
    exfalso
    simp only [pm_ckj, Bool.and_eq_true, Bool.or_eq_true, decide_eq_true_eq, beq_iff_eq, List.isEmpty_iff] at r5
    rcases r5 with z | z
    · omega
    · have y9 := pm_thr_st _ hsite
      simp only [Bool.and_eq_true, Bool.not_eq_true'] at y9
      rw [z.1.1.1.1.2] at y9
      cases y9.1
  · exfalso
    have y9 := pm_thr_st _ hsite
    simp only [Bool.and_eq_true] at y9
    have y8 : Cond.static (pm_y j) ∈ pm_G := r2 _ (List.mem_append_right _ (by rcases hkd with rfl | rfl | rfl <;> simp [pm_need2]))
    exact absurd rfl (of_decide_eq_true (List.all_eq_true.mp y9.2 _ (List.mem_filter.mp y8).1))
end PX
theorem pm_snd (l : Launch) (hl : l.stackTraces = false) (sc : pm_Sc) : ∀ n, pm_Snd l sc n := by
  intro n
  induction n with
  | zero => intro i s0 o h; rw [pm_ev] at h; cases h
  | succ n ih =>
    intro i s0 o h O p e R s m args below meth c Q D aC b sa A nc0 ns0 X
    rcases pm_ev_inv h with ⟨-, rfl⟩ | ⟨s', hs, h⟩ | ⟨k, w, v, hs, hsum, hw, hv, h⟩ | ⟨k, w, x, q, hs, hsum, hw, hv, hq, h⟩
    · exact pm_Go.rf
    · obtain ⟨a, -, hd⟩ := pm_step_at hs
      have o1 : pm_Ok2 s0 s' := pm_do_ok hd O
      exact (pm_go_step X hs O).tr o1 (ih i s' o h o1.1 p e R s m args below meth c Q D aC b sa A nc0 ns0 X) (pm_ev_ok sc n i s' o h o1.1)
    · obtain ⟨a, -, hd⟩ := pm_step_at hs
      obtain ⟨m1, m2⟩ := pm_do_sub hd
      have E := pm_ev_ok sc n _ _ _ hw (pm_entry_ok O m1)
      have B : pm_Ok2 s0 (s0.1 + 3, s0.2.1, v.toList ++ k.2.2, w.2.2.2) := pm_back_ok O E (fun q hq => hq) (pm_ret_ok hv (fun x hx => Or.inr hx) (fun x hx => Or.inl (m2 x hx))) (Nat.le_refl _) (Nat.le_refl _)
      exact (pm_go_call ih X hs hsum O hw hv).tr B (ih i _ o h B.1 p e R s m args below meth c Q D aC b sa A nc0 ns0 X) (pm_ev_ok sc n i _ o h B.1)
    · obtain ⟨a, -, hd⟩ := pm_step_at hs
      obtain ⟨m1, m2⟩ := pm_do_sub hd
      have E := pm_ev_ok sc n _ _ _ hw (pm_entry_ok O m1)
      have B : pm_Ok2 s0 (q.2.2.2.2.2, pm_dr s0.2.1 q.2.2.2.2.1, [], (w.2.2.2.1, w.2.2.2.2.1 + 1, w.2.2.2.2.2 + 6)) := pm_back_ok O E pm_dr_sub (fun x hx => by cases hx) (Nat.le_succ _) (Nat.le_add_right _ _)
      exact (pm_go_throw hl ih X hs hsum O hw hv hq).tr B (ih i _ o h B.1 p e R s m args below meth c Q D aC b sa A nc0 ns0 X) (pm_ev_ok sc n i _ o h B.1)
end
section
/-! THE CLAIM OUT OF ONE WALK OF THE LAW'S BODY. Your part is whole_start (and what it stands on); all else here is the same for every law, but numbers. -/
def R_law : String := "SpecOrderLaw"
def lw_P (b : Addr) (xs : List Int32) (args : Array Value) (s : State) : Prop := args = #[.ref b] ∧ s.IntsAt b xs ∧ xs.length ≤ 2049 ∧ (Jvm.Cond.and given_1 narrow_1).before args s = true
def lw_Q (_ : Array Value) (s : State) (o : Outcome) (t : State) : Prop := o = .returned (some (.int 1)) ∧ Framed s o t [] room_1.cells room_1.slots
def lw_Z (below : List Frame) (a : Array Value) (s : State) : State → Prop := fun t => ∃ o, t.status = .running ∧ Ended t below o ∧ lw_Q a s o t
/-- the law's own end, with 1 on the stack, nothing written that was there before, its room as the claim has it -/
theorem lw_ret {p : Program} {l : Launch} {e : Env} {s : State} {m : MethodId} {below : List Frame} {meth : Method} {c : Code} {b : Nat} (hx : p.tables.exec = Jvm.exec) (hb : c.code = code) (hr : meth.sig.returnType = ret) (hlocks : meth.locks = false) {pc : Nat} {H : Heap} {ls : Array Slot} (hdg : decode code pc = .ok (.ireturn, 1)) : W p l e room_1 s m #[Value.ref b] below meth c H [] room_1.cells room_1.slots (lw_Z below #[Value.ref b] s) (F0 m pc ls [.int 1]) := by
  intro T hT X
  obtain ⟨fs, hret, hrun, hended, hW, hframe⟩ := X.leave (v := some (.int 1)) (hlocks := hlocks) (fun h => by rw [hr] at h; cases h)
  have hmeth' : T.vm.method? m = some meth := X.method'
  refine ⟨T.setFrames fs, ?_, .returned (some (.int 1)), hrun, hended, rfl, ⟨_, rfl⟩, hW, hframe⟩
  jvm_step X.here [X.here.top, hx, hb, hdg, hmeth', hr, ret, narrow_b1]
  (try refine ⟨rfl, ?_⟩); (try refine ⟨rfl, ?_⟩)
  first | (intro acts; rw [hret _ acts rfl rfl rfl]) | rw [hret _ _ rfl rfl rfl]
  exact Steps.refl _
/-- what holds at the law's entry: the machine, the code, the tables' words (any of lw_tbl by 'hts w (by decide +kernel)'), the script of L ints xs at the cell b, what the Statement gives of the start (any of its parts by flat_of_before) -/
def lw_At (p : Program) (s : State) (m : MethodId) (meth : Method) (c : Code) (b L : Nat) (xs : Nat → Int32) : Prop :=
  p.tables.exec = Jvm.exec ∧ c.code = code ∧ meth.sig.returnType = ret ∧ c.maxLocals = 7 ∧ s.vm.findClass R_law = some m.cls ∧ (∀ w ∈ lw_tbl, w.before #[Value.ref b] s = true) ∧ va_X b L xs s s.heap ∧ b < s.heap.size ∧ meth.locks = false ∧ (Jvm.Cond.and given_1 narrow_1).before #[Value.ref b] s = true ∧ c.exceptionTable.isEmpty = true
theorem lw_arrP {args : Array Value} {s : State} (ty : FieldType) (h0 : ty = .int ∨ ty = .long ∨ ty = .boolean) (h : (Cond.arrayClass ty).before args s = true) : ∃ cA, ArrOfT s cA ty ∧ va_RA s cA ty := by
  obtain ⟨cA, kA, comp, h1, h2, h3⟩ := Cond.arrayClass_spec h
  refine ⟨cA, fun n z => ⟨fun k h => (by cases h), kA, h2, comp, h3⟩, ?_⟩
  rcases h0 with rfl | rfl | rfl <;> exact h1
theorem lw_arrO {args : Array Value} {s : State} (C : String) (h : (Cond.arrayOver (.object C)).before args s = true) : ∃ cA, ArrOfT s cA (.object C) ∧ va_RA s cA (.object C) := by
  obtain ⟨comp, cA, kA, h1, h2, h3, h4, h5⟩ := Cond.arrayOver_spec h
  exact ⟨cA, fun n z => ⟨fun k h => (by cases h), kA, h3, comp, h4⟩, kA, comp, h3, h4, h1, h5⟩
theorem lw_strP {args : Array Value} {s : State} {cur : Nat} (hcur : s.vm.findClass RX7 = some cur) (k : Nat) (t : String) (h : (Cond.stringRef RX7 k t).before args s = true) : ∃ a, vk_R RX7 k t a s := by
  obtain ⟨_, _, _, a, _, _, _, _, _, h6⟩ := Cond.stringRef_spec hcur h
  exact ⟨a, vk_R.of h h6⟩
set_option maxRecDepth 100000 in
theorem lw_nar {args : Array Value} {s : State} (h : (Jvm.Cond.and given_1 narrow_1).before args s = true) : (Cond.isRef (.static "java/lang/Throwable" "UNASSIGNED_STACK" "[Ljava/lang/StackTraceElement;")).before args s = true ∧ (Cond.isRef (.static "java/lang/Throwable" "SUPPRESSED_SENTINEL" "Ljava/util/List;")).before args s = true ∧ (Cond.not (.castable "java/lang/IllegalStateException" "java/lang/IllegalArgumentException")).before args s = true := by
  have hs := flat_of_before _ h
  exact ⟨hs _ (by decide +kernel), hs _ (by decide +kernel), hs _ (by decide +kernel)⟩
set_option maxHeartbeats 4000000 in
set_option maxRecDepth 100000 in
/-- the law's run, out of the pure machine's -/
theorem pm_law {p : Program} {e : Env} {s : State} {m : MethodId} {below : List Frame} {meth : Method} {c : Code} (l : Launch) (hl : l.stackTraces = false) {b L : Nat} {xs : Nat → Int32} (C0 : lw_At p s m meth c b L xs) {n : Nat} {o : pm_S} (hev : pm_ev (L, xs) n 136 (0, [(0, .retAddr 0)], [], ([], 0, 0)) = some o) (hst : o.2.2.1 = [.int 1]) (hat : pm_at 136 o.1 = some (.ireturn, 1, [])) (hc : o.2.2.2.2.1 ≤ room_1.cells) (hs : o.2.2.2.2.2 ≤ room_1.slots) :
    W p l e room_1 s m #[Value.ref b] below meth c s.heap [] 0 0 (lw_Z below #[Value.ref b] s) (entryFrame m ([Value.ref b] : List Value).toArray 7) := by
  obtain ⟨hx, hb, hr, hml, hown, hts, hX, hbl, hlocks, hgv, htb⟩ := C0
  have hG : ∀ w ∈ pm_G, w.before #[Value.ref b] s = true := fun w hw => hts w (List.mem_filter.mp hw).1
  have arrP := fun ty h0 h => lw_arrP (args := #[Value.ref b]) (s := s) ty h0 h
  have arrO := fun C h => lw_arrO (args := #[Value.ref b]) (s := s) C h

  obtain ⟨c0, iS0, hKn0⟩ := u_known (C := RX0) (T := TX0) (N := 5) (n := 5) hts (fun w hw => (List.mem_filter.mp (pm_usT 0 _ rfl w hw)).1) (hts (.instantiable RX0 5) (List.mem_of_getElem? (i := 103) rfl))
  obtain ⟨c1, iS1, hKn1⟩ := u_known (C := RX1) (T := TX1) (N := 3) (n := 3) hts (fun w hw => (List.mem_filter.mp (pm_usT 1 _ rfl w hw)).1) (hts (.instantiable RX1 3) (List.mem_of_getElem? (i := 136) rfl))
  obtain ⟨c2, iS2, hKn2⟩ := u_known (C := RX2) (T := TX2) (N := 7) (n := 7) hts (fun w hw => (List.mem_filter.mp (pm_usT 2 _ rfl w hw)).1) (hts (.instantiable RX2 7) (List.mem_of_getElem? (i := 287) rfl))
  obtain ⟨c3, iS3, hKn3⟩ := u_known (C := RX3) (T := TX3) (N := 4) (n := 4) hts (fun w hw => (List.mem_filter.mp (pm_usT 3 _ rfl w hw)).1) (hts (.instantiable RX3 4) (List.mem_of_getElem? (i := 343) rfl))
  obtain ⟨c4, iS4, hKn4⟩ := u_known (C := RX4) (T := TX4) (N := 2) (n := 2) hts (fun w hw => (List.mem_filter.mp (pm_usT 4 _ rfl w hw)).1) (hts (.instantiable RX4 2) (List.mem_of_getElem? (i := 84) rfl))
  obtain ⟨c5, iS5, hKn5⟩ := u_known (C := RX5) (T := TX5) (N := 11) (n := 11) hts (fun w hw => (List.mem_filter.mp (pm_usT 5 _ rfl w hw)).1) (hts (.instantiable RX5 11) (List.mem_of_getElem? (i := 130) rfl))
  obtain ⟨c6, iS6, hKn6⟩ := u_known (C := RX6) (T := TX6) (N := 8) (n := 8) hts (fun w hw => (List.mem_filter.mp (pm_usT 6 _ rfl w hw)).1) (hts (.instantiable RX6 8) (List.mem_of_getElem? (i := 245) rfl))
  obtain ⟨c7, iS7, hKn7⟩ := u_known (C := RX7) (T := TX7) (N := 4) (n := 4) hts (fun w hw => (List.mem_filter.mp (pm_usT 7 _ rfl w hw)).1) (hts (.instantiable RX7 4) (List.mem_of_getElem? (i := 74) rfl))
  obtain ⟨c8, iS8, hKn8⟩ := u_known (C := RX8) (T := TX8) (N := 46) (n := 46) hts (fun w hw => (List.mem_filter.mp (pm_usT 8 _ rfl w hw)).1) (hts (.instantiable RX8 46) (List.mem_of_getElem? (i := 729) rfl))
  have strP := fun k t h => lw_strP (args := #[Value.ref b]) (s := s) hKn7.2.1 k t h
  obtain ⟨a0, ha0⟩ := arrP .int (by first | exact Or.inl rfl | exact Or.inr (Or.inl rfl) | exact Or.inr (Or.inr rfl)) (hts (.arrayClass .int) (List.mem_of_getElem? (i := 154) rfl))
  obtain ⟨a1, ha1⟩ := arrP .long (by first | exact Or.inl rfl | exact Or.inr (Or.inl rfl) | exact Or.inr (Or.inr rfl)) (hts (.arrayClass .long) (List.mem_of_getElem? (i := 873) rfl))
  obtain ⟨a2, ha2⟩ := arrP .boolean (by first | exact Or.inl rfl | exact Or.inr (Or.inl rfl) | exact Or.inr (Or.inr rfl)) (hts (.arrayClass .boolean) (List.mem_of_getElem? (i := 874) rfl))
  obtain ⟨a3, ha3⟩ := arrO RX2 (hts (.arrayOver (.object RX2)) (List.mem_of_getElem? (i := 109) rfl))
  obtain ⟨a4, ha4⟩ := arrO RX3 (hts (.arrayOver (.object RX3)) (List.mem_of_getElem? (i := 90) rfl))
  obtain ⟨a5, ha5⟩ := arrO RX5 (hts (.arrayOver (.object RX5)) (List.mem_of_getElem? (i := 129) rfl))
  obtain ⟨a6, ha6⟩ := arrO RX6 (hts (.arrayOver (.object RX6)) (List.mem_of_getElem? (i := 82) rfl))
  obtain ⟨q0, hq0⟩ := strP 46 "no such op or key" (hts (.stringRef RX7 46 "no such op or key") (List.mem_of_getElem? (i := 535) rfl))
  obtain ⟨q1, hq1⟩ := strP 56 "there are 12 requests" (hts (.stringRef RX7 56 "there are 12 requests") (List.mem_of_getElem? (i := 571) rfl))
  obtain ⟨q2, hq2⟩ := strP 72 "no such request" (hts (.stringRef RX7 72 "no such request") (List.mem_of_getElem? (i := 636) rfl))
  obtain ⟨q3, hq3⟩ := strP 82 "from is below 0" (hts (.stringRef RX7 82 "from is below 0") (List.mem_of_getElem? (i := 656) rfl))
  obtain ⟨q4, hq4⟩ := strP 93 "no such replica" (hts (.stringRef RX7 93 "no such replica") (List.mem_of_getElem? (i := 664) rfl))
  obtain ⟨q5, hq5⟩ := strP 99 "no such replica or request, or the faulty one" (hts (.stringRef RX7 99 "no such replica or request, or the faulty one") (List.mem_of_getElem? (i := 677) rfl))
  obtain ⟨q6, hq6⟩ := strP 130 "no such replica or what" (hts (.stringRef RX7 130 "no such replica or what") (List.mem_of_getElem? (i := 694) rfl))
  obtain ⟨q7, hq7⟩ := strP 142 "no such message or what" (hts (.stringRef RX7 142 "no such message or what") (List.mem_of_getElem? (i := 707) rfl))
  obtain ⟨q8, hq8⟩ := strP 145 "no such request or what" (hts (.stringRef RX7 145 "no such request or what") (List.mem_of_getElem? (i := 719) rfl))
  obtain ⟨n1, n2, n3⟩ := lw_nar hgv
  obtain ⟨dC, dI, hKc⟩ : ∃ (dC : Nat → ClassId) (dI : Nat → Nat → Nat), ∀ (k : Nat) (q : vw_C), vwCl[k]? = some q → u_Kn s q.1 q.2.1 q.2.2 (dC k) (dI k) := by
    refine ⟨fun k => match k with | 0 => c0 | 1 => c1 | 2 => c2 | 3 => c3 | 4 => c4 | 5 => c5 | 6 => c6 | 7 => c7 | _ => c8, fun k => match k with | 0 => iS0 | 1 => iS1 | 2 => iS2 | 3 => iS3 | 4 => iS4 | 5 => iS5 | 6 => iS6 | 7 => iS7 | _ => iS8, ?_⟩
    intro k q hq
    match k, hq with
    | 0, hq => cases hq; exact hKn0
    | 1, hq => cases hq; exact hKn1
    | 2, hq => cases hq; exact hKn2
    | 3, hq => cases hq; exact hKn3
    | 4, hq => cases hq; exact hKn4
    | 5, hq => cases hq; exact hKn5
    | 6, hq => cases hq; exact hKn6
    | 7, hq => cases hq; exact hKn7
    | 8, hq => cases hq; exact hKn8
    | k + 9, hq => simp [vwCl] at hq
  obtain ⟨aC, hKa⟩ : ∃ aC : Nat → ClassId, ∀ (k : Nat) (q : ClassId × FieldType), (pm_tys aC)[k]? = some q → ArrOfT s q.1 q.2 ∧ va_RA s q.1 q.2 := by
    refine ⟨fun k => match k with | 0 => a0 | 1 => a1 | 2 => a2 | 3 => a3 | 4 => a4 | 5 => a5 | _ => a6, ?_⟩
    intro k q hq
    match k, hq with
    | 0, hq => cases hq; exact ha0
    | 1, hq => cases hq; exact ha1
    | 2, hq => cases hq; exact ha2
    | 3, hq => cases hq; exact ha3
    | 4, hq => cases hq; exact ha4
    | 5, hq => cases hq; exact ha5
    | 6, hq => cases hq; exact ha6
    | k + 7, hq => simp [pm_tys] at hq
  have hK : va_K (dC, dI) vwCl (pm_tys aC) s := ⟨hKc, hKa⟩
  have hnA : ∀ a : Nat, a < s.heap.size → ¬ (fun q : Nat => s.heap.size ≤ q) a := fun a h => Nat.not_le.mpr h
  have hAm : pm_Amb (dC, dI) aC b (L, xs) (fun k => if k = 46 then q0 else if k = 56 then q1 else if k = 72 then q2 else if k = 82 then q3 else if k = 93 then q4 else if k = 99 then q5 else if k = 130 then q6 else if k = 142 then q7 else if k = 145 then q8 else 0) (fun q : Nat => s.heap.size ≤ q) s := by
    refine ⟨hK, fun w hw => va_Nw.of (pm_NW_on hw) (hts w (List.mem_filter.mp hw).1), fun t h3 h6 => ?_, ⟨hX, hbl, hnA b hbl⟩, ⟨fun q hq => ?_, vx_Zqof (hts (.laysStatic "java/lang/Throwable" "UNASSIGNED_STACK" "[Ljava/lang/StackTraceElement;") (List.mem_of_getElem? (i := 521) rfl)) (hts (.initialized "java/lang/Throwable") (List.mem_of_getElem? (i := 61) rfl)) n1 hnA, vx_Zqof (hts (.laysStatic "java/lang/Throwable" "SUPPRESSED_SENTINEL" "Ljava/util/List;") (List.mem_of_getElem? (i := 523) rfl)) (hts (.initialized "java/lang/Throwable") (List.mem_of_getElem? (i := 61) rfl)) n2 hnA⟩, fun q hq => ?_⟩
    · match t, h3, h6 with
      | 3, _, _ => exact va_AO.of (hts (.arrayOver (.object RX2)) (List.mem_of_getElem? (i := 109) rfl))
      | 4, _, _ => exact va_AO.of (hts (.arrayOver (.object RX3)) (List.mem_of_getElem? (i := 90) rfl))
      | 5, _, _ => exact va_AO.of (hts (.arrayOver (.object RX5)) (List.mem_of_getElem? (i := 129) rfl))
      | 6, _, _ => exact va_AO.of (hts (.arrayOver (.object RX6)) (List.mem_of_getElem? (i := 82) rfl))
      | n + 7, _, z => omega
    · simp only [pm_strs, List.mem_cons, List.not_mem_nil, or_false] at hq
      rcases hq with rfl | rfl | rfl | rfl | rfl | rfl | rfl | rfl | rfl
      · exact hq0
      · exact hq1
      · exact hq2
      · exact hq3
      · exact hq4
      · exact hq5
      · exact hq6
      · exact hq7
      · exact hq8
    · rw [List.mem_singleton.mp hq]
      exact va_Nc.of n3
  have hok : pm_okS (0, [(0, .retAddr 0)], [], ([], 0, 0)) := ⟨fun q hq => by rw [List.mem_singleton.mp hq]; exact pm_okv_ra _ _, fun v hv => (by cases hv), fun c hc => (by cases hc)⟩
  have htab : c.exceptionTable.toList = tableOf (pm_hh 136) := by
    show _ = []
    have z2 : c.exceptionTable = #[] := by simpa using htb
    rw [z2]
  have X : pm_Ctx p room_1 s m #[Value.ref b] meth c (dC, dI) aC b (L, xs) (fun k => if k = 46 then q0 else if k = 56 then q1 else if k = 72 then q2 else if k = 82 then q3 else if k = 93 then q4 else if k = 99 then q5 else if k = 130 then q6 else if k = 142 then q7 else if k = 145 then q8 else 0) (fun q : Nat => s.heap.size ≤ q) 136 := ⟨hx, hb, hml, hown, hG, hAm, fun _ h => h, fun h => (by cases h), hlocks, htab, by decide, by decide⟩
  have G := pm_snd l hl (L, xs) n 136 _ o hev hok p e room_1 s m #[Value.ref b] below meth c (lw_Z below #[Value.ref b] s) (dC, dI) aC b _ _ 0 0 X
  have hP : va_P (dC, dI) vwCl (pm_ch b aC (fun _ => 0) []) s.heap := fun k q h => by simp [pm_ch] at h
  have hD : va_D (fun q : Nat => s.heap.size ≤ q) (pm_ch b aC (fun _ => 0) []) := ⟨fun i j p q h => by simp [pm_ch] at h, fun k q h => by simp [pm_ch] at h⟩
  have hl7 := lv_entry ([.ref b]) (n := 7) (Nat.le_of_ble_eq_true rfl)
  rw [lg_entry_eq]
  refine G (fun _ => 0) _ s.heap [] 0 0 ⟨hP, hD, va_S.rf, hl7, rfl, rfl⟩ hok (by rw [Nat.zero_add]; exact hc) (by rw [Nat.zero_add]; exact hs) ?_
  intro ad' ls' H' locs' cells' slots' ha F'
  obtain ⟨f1, f2, f3, f4, f5, f6⟩ := F'
  rw [hst]
  refine va_forget (fun q hq => f3.2.2 q hq) ?_
  refine W.widen (k := room_1.cells) (n := room_1.slots) (by omega) (by omega) ?_
  exact lw_ret hx hb hr hlocks (pm_row hat).1
end
section
/-! WALKING THE PURE MACHINE: pw sc i s Q: method i, from the frame s, ends with a result and a heap that Q tells -/
def pw (sc : pm_Sc) (i : Nat) (s : pm_S) (Q : (Option Value ⊕ Nat) → pm_H → Prop) : Prop := ∃ (n : Nat) (w : pm_S) (r : Option Value ⊕ Nat), pm_ev sc n i s = some w ∧ pm_ret i w = some r ∧ Q r w.2.2.2
theorem pw.imp {sc : pm_Sc} {i : Nat} {s : pm_S} {Q Q' : (Option Value ⊕ Nat) → pm_H → Prop} (h : pw sc i s Q) (hq : ∀ r h1, Q r h1 → Q' r h1) : pw sc i s Q' := by
  obtain ⟨n, w, r, h1, h2, h3⟩ := h
  exact ⟨n, w, r, h1, h2, hq _ _ h3⟩
section PW
variable {sc : pm_Sc} {i : Nat} {pc : Nat} {lv : pm_L} {st r : List Value} {h : pm_H} {Q : (Option Value ⊕ Nat) → pm_H → Prop}
theorem pw_ret {a : Instr × Nat × List Nat} {x : Option Value ⊕ Nat} (ha : pm_at i pc = some a) (he : pm_end a = true) (hr : pm_out (pm_rt i) a st = some x) (hq : Q x h) : pw sc i (pc, lv, st, h) Q := by
  refine ⟨1, (pc, lv, st, h), x, ?_, ?_, hq⟩
  · rw [pm_ev, if_pos]
    show pm_term i pc = true
    unfold pm_term
    rw [ha]
    exact he
  · show (match pm_at i pc with | some r => pm_out (pm_rt i) r st | none => none) = _
    rw [ha]
    exact hr
theorem pw_st {a : Instr × Nat × List Nat} {s' : pm_S} (ha : pm_at i pc = some a) (he : pm_end a = false) (hd : pm_do sc (pm_nL i) (pm_rk i) pm_np pm_mc pm_rk a.1 a.2.2 pc lv st h = some (.inl s')) (k : pw sc i s' Q) : pw sc i (pc, lv, st, h) Q := by
  obtain ⟨n, w, x, h1, h2, h3⟩ := k
  refine ⟨n + 1, w, x, ?_, h2, h3⟩
  have ht : ¬ pm_term i pc = true := by
    unfold pm_term
    rw [ha]
    show ¬ pm_end a = true
    rw [he]
    exact Bool.false_ne_true
  have hs : pm_step sc i (pc, lv, st, h) = some (.inl s') := by
    show (match pm_at i pc with | some r => pm_do sc (pm_nL i) (pm_rk i) pm_np pm_mc pm_rk r.1 r.2.2 pc lv st h | none => none) = _
    rw [ha]
    exact hd
  rw [pm_ev, if_neg ht, hs]
  exact h1
theorem pw_call {a : Instr × Nat × List Nat} {k : pm_K} {Q1 : (Option Value ⊕ Nat) → pm_H → Prop} (ha : pm_at i pc = some a) (he : pm_end a = false) (hd : pm_do sc (pm_nL i) (pm_rk i) pm_np pm_mc pm_rk a.1 a.2.2 pc lv st h = some (.inr k)) (hsum : pm_sum k.2.1 ≤ pm_nL k.1) (hj : pw sc k.1 (0, lv_args 0 k.2.1, [], h) Q1)
    (kk : ∀ x h1, Q1 x h1 → (∃ v, x = .inl v ∧ pw sc i (pc + 3, lv, v.toList ++ k.2.2, h1) Q) ∨ (∃ y w, x = .inr y ∧ pm_hnd (pm_hn i) pc y = some w ∧ pw sc i (w.2.2.2.2.2, pm_dr lv w.2.2.2.2.1, [], (h1.1, h1.2.1 + 1, h1.2.2 + 6)) Q)) : pw sc i (pc, lv, st, h) Q := by
  obtain ⟨n, w, x, h1, h2, h3⟩ := hj
  have ht : ¬ pm_term i pc = true := by
    unfold pm_term
    rw [ha]
    show ¬ pm_end a = true
    rw [he]
    exact Bool.false_ne_true
  have hs : pm_step sc i (pc, lv, st, h) = some (.inr k) := by
    show (match pm_at i pc with | some r => pm_do sc (pm_nL i) (pm_rk i) pm_np pm_mc pm_rk r.1 r.2.2 pc lv st h | none => none) = _
    rw [ha]
    exact hd
  rcases kk x w.2.2.2 h3 with ⟨v, rfl, n2, w2, x2, g1, g2, g3⟩ | ⟨y, q, rfl, hq, n2, w2, x2, g1, g2, g3⟩
  · refine ⟨n + n2 + 1, w2, x2, ?_, g2, g3⟩
    rw [pm_ev, if_neg ht, hs]
    dsimp only
    rw [if_pos hsum, pm_ev_le sc (Nat.le_add_right n n2) h1]
    dsimp only
    rw [h2]
    exact pm_ev_le sc (Nat.le_add_left n2 n) g1
  · refine ⟨n + n2 + 1, w2, x2, ?_, g2, g3⟩
    rw [pm_ev, if_neg ht, hs]
    dsimp only
    rw [if_pos hsum, pm_ev_le sc (Nat.le_add_right n n2) h1]
    dsimp only
    rw [h2]
    dsimp only
    rw [hq]
    exact pm_ev_le sc (Nat.le_add_left n2 n) g1
/-- a call that returns -/
theorem pw_calv {a : Instr × Nat × List Nat} {k : pm_K} {Q1 : (Option Value ⊕ Nat) → pm_H → Prop} (ha : pm_at i pc = some a) (he : pm_end a = false) (hd : pm_do sc (pm_nL i) (pm_rk i) pm_np pm_mc pm_rk a.1 a.2.2 pc lv st h = some (.inr k)) (hsum : pm_sum k.2.1 ≤ pm_nL k.1) (hj : pw sc k.1 (0, lv_args 0 k.2.1, [], h) Q1)
    (kk : ∀ x h1, Q1 x h1 → ∃ v, x = .inl v ∧ pw sc i (pc + 3, lv, v.toList ++ k.2.2, h1) Q) : pw sc i (pc, lv, st, h) Q := pw_call ha he hd hsum hj (fun x h1 q => Or.inl (kk x h1 q))
theorem w_aconst_null  {len : Nat} (ha : pm_at i pc = some (.aconst_null, len, [])) (k : pw sc i (pc + 1, lv, .null :: r, h) Q) : pw sc i (pc, lv, r, h) Q := pw_st ha rfl (rfl) k
theorem w_iconst {n : Int} {v : Int32} {len : Nat} (ha : pm_at i pc = some (.iconst n, len, [])) (hv : Int32.ofInt n = v) (k : pw sc i (pc + 1, lv, .int v :: r, h) Q) : pw sc i (pc, lv, r, h) Q := pw_st ha rfl (by subst hv; rfl) k
theorem w_bipush {n : Int} {v : Int32} {len : Nat} (ha : pm_at i pc = some (.bipush n, len, [])) (hv : (Int8.ofInt n).toInt32 = v) (k : pw sc i (pc + 2, lv, .int v :: r, h) Q) : pw sc i (pc, lv, r, h) Q := pw_st ha rfl (by subst hv; rfl) k
theorem w_sipush {n : Int} {v : Int32} {len : Nat} (ha : pm_at i pc = some (.sipush n, len, [])) (hv : (Int16.ofInt n).toInt32 = v) (k : pw sc i (pc + 3, lv, .int v :: r, h) Q) : pw sc i (pc, lv, r, h) Q := pw_st ha rfl (by subst hv; rfl) k
theorem w_lconst {n : Fin 2} {v : Int64} {len : Nat} (ha : pm_at i pc = some (.lconst n, len, [])) (hv : Int64.ofNat (n : Nat) = v) (k : pw sc i (pc + 1, lv, .long v :: r, h) Q) : pw sc i (pc, lv, r, h) Q := pw_st ha rfl (by subst hv; rfl) k
theorem w_ldc_w {n c : Nat} {v : Int32} {len : Nat} (ha : pm_at i pc = some (.ldc_w n, len, [c])) (hv : Int32.ofNat c = v) (k : pw sc i (pc + 3, lv, .int v :: r, h) Q) : pw sc i (pc, lv, r, h) Q := pw_st ha rfl (by subst hv; rfl) k
theorem w_ldc2_w {n c : Nat} {v : Int64} {len : Nat} (ha : pm_at i pc = some (.ldc2_w n, len, [c])) (hv : Int64.ofNat c = v) (k : pw sc i (pc + 3, lv, .long v :: r, h) Q) : pw sc i (pc, lv, r, h) Q := pw_st ha rfl (by subst hv; rfl) k
theorem w_iload_n {k : Fin 4} {x : Int32} {len : Nat} (ha : pm_at i pc = some (.iload_n k, len, [])) (hl : pm_ld lv k = some (.int x)) (k : pw sc i (pc + 1, lv, .int x :: r, h) Q) : pw sc i (pc, lv, r, h) Q := pw_st ha rfl (by simp only [pm_do, hl]) k
theorem w_iload {k : Nat} {x : Int32} {len : Nat} (ha : pm_at i pc = some (.iload k, len, [])) (hl : pm_ld lv k = some (.int x)) (k : pw sc i (pc + 2, lv, .int x :: r, h) Q) : pw sc i (pc, lv, r, h) Q := pw_st ha rfl (by simp only [pm_do, hl]) k
theorem w_lload_n {k : Fin 4} {x : Int64} {len : Nat} (ha : pm_at i pc = some (.lload_n k, len, [])) (hl : pm_ld lv k = some (.long x)) (k : pw sc i (pc + 1, lv, .long x :: r, h) Q) : pw sc i (pc, lv, r, h) Q := pw_st ha rfl (by simp only [pm_do, hl]) k
theorem w_lload {k : Nat} {x : Int64} {len : Nat} (ha : pm_at i pc = some (.lload k, len, [])) (hl : pm_ld lv k = some (.long x)) (k : pw sc i (pc + 2, lv, .long x :: r, h) Q) : pw sc i (pc, lv, r, h) Q := pw_st ha rfl (by simp only [pm_do, hl]) k
theorem w_aload_n {k : Fin 4} {x : Nat} {len : Nat} (ha : pm_at i pc = some (.aload_n k, len, [])) (hl : pm_ld lv k = some (.ref x)) (k : pw sc i (pc + 1, lv, .ref x :: r, h) Q) : pw sc i (pc, lv, r, h) Q := pw_st ha rfl (by simp only [pm_do, hl]) k
theorem w_aload {k : Nat} {x : Nat} {len : Nat} (ha : pm_at i pc = some (.aload k, len, [])) (hl : pm_ld lv k = some (.ref x)) (k : pw sc i (pc + 2, lv, .ref x :: r, h) Q) : pw sc i (pc, lv, r, h) Q := pw_st ha rfl (by simp only [pm_do, hl]) k
theorem w_aload_nN {k : Fin 4} {len : Nat} (ha : pm_at i pc = some (.aload_n k, len, [])) (hl : pm_ld lv k = some .null) (k : pw sc i (pc + 1, lv, .null :: r, h) Q) : pw sc i (pc, lv, r, h) Q := pw_st ha rfl (by simp only [pm_do, hl]) k
theorem w_aload_nS {k : Fin 4} {x : Nat} {len : Nat} (ha : pm_at i pc = some (.aload_n k, len, [])) (hl : pm_ld lv k = some (.retAddr x)) (k : pw sc i (pc + 1, lv, .retAddr x :: r, h) Q) : pw sc i (pc, lv, r, h) Q := pw_st ha rfl (by simp only [pm_do, hl]) k
theorem w_istore_n {k : Fin 4} {x : Int32} {len : Nat} (ha : pm_at i pc = some (.istore_n k, len, [])) (hn : (k : Nat) < pm_nL i) (k : pw sc i (pc + 1, pm_s1 lv k (.int x), r, h) Q) : pw sc i (pc, lv, .int x :: r, h) Q := pw_st ha rfl (if_pos hn) k
theorem w_lstore_n {k : Fin 4} {x : Int64} {len : Nat} (ha : pm_at i pc = some (.lstore_n k, len, [])) (hn : (k : Nat) + 1 < pm_nL i) (k : pw sc i (pc + 1, pm_s2 lv k (.long x), r, h) Q) : pw sc i (pc, lv, .long x :: r, h) Q := pw_st ha rfl (if_pos hn) k
theorem w_astore_n {k : Fin 4} {x : Nat} {len : Nat} (ha : pm_at i pc = some (.astore_n k, len, [])) (hn : (k : Nat) < pm_nL i) (k : pw sc i (pc + 1, pm_s1 lv k (.ref x), r, h) Q) : pw sc i (pc, lv, .ref x :: r, h) Q := pw_st ha rfl (if_pos hn) k
theorem w_astore_nN {k : Fin 4} {len : Nat} (ha : pm_at i pc = some (.astore_n k, len, [])) (hn : (k : Nat) < pm_nL i) (k : pw sc i (pc + 1, pm_s1 lv k .null, r, h) Q) : pw sc i (pc, lv, .null :: r, h) Q := pw_st ha rfl (if_pos hn) k
theorem w_aloadN {k : Nat} {len : Nat} (ha : pm_at i pc = some (.aload k, len, [])) (hl : pm_ld lv k = some .null) (k : pw sc i (pc + 2, lv, .null :: r, h) Q) : pw sc i (pc, lv, r, h) Q := pw_st ha rfl (by simp only [pm_do, hl]) k
theorem w_aloadS {k : Nat} {x : Nat} {len : Nat} (ha : pm_at i pc = some (.aload k, len, [])) (hl : pm_ld lv k = some (.retAddr x)) (k : pw sc i (pc + 2, lv, .retAddr x :: r, h) Q) : pw sc i (pc, lv, r, h) Q := pw_st ha rfl (by simp only [pm_do, hl]) k
theorem w_istore {k : Nat} {x : Int32} {len : Nat} (ha : pm_at i pc = some (.istore k, len, [])) (hn : (k : Nat) < pm_nL i) (k : pw sc i (pc + 2, pm_s1 lv k (.int x), r, h) Q) : pw sc i (pc, lv, .int x :: r, h) Q := pw_st ha rfl (if_pos hn) k
theorem w_lstore {k : Nat} {x : Int64} {len : Nat} (ha : pm_at i pc = some (.lstore k, len, [])) (hn : (k : Nat) + 1 < pm_nL i) (k : pw sc i (pc + 2, pm_s2 lv k (.long x), r, h) Q) : pw sc i (pc, lv, .long x :: r, h) Q := pw_st ha rfl (if_pos hn) k
theorem w_astore {k : Nat} {x : Nat} {len : Nat} (ha : pm_at i pc = some (.astore k, len, [])) (hn : (k : Nat) < pm_nL i) (k : pw sc i (pc + 2, pm_s1 lv k (.ref x), r, h) Q) : pw sc i (pc, lv, .ref x :: r, h) Q := pw_st ha rfl (if_pos hn) k
theorem w_astoreN {k : Nat} {len : Nat} (ha : pm_at i pc = some (.astore k, len, [])) (hn : (k : Nat) < pm_nL i) (k : pw sc i (pc + 2, pm_s1 lv k .null, r, h) Q) : pw sc i (pc, lv, .null :: r, h) Q := pw_st ha rfl (if_pos hn) k
theorem w_iinc {k : Nat} {n : Int} {x v : Int32} {len : Nat} (ha : pm_at i pc = some (.iinc k n, len, [])) (hl : pm_ld lv k = some (.int x)) (hn : k < pm_nL i) (hv : x + Int32.ofInt n = v) (k : pw sc i (pc + 3, pm_s1 lv k (.int v), r, h) Q) : pw sc i (pc, lv, r, h) Q := pw_st ha rfl (by subst hv; simp only [pm_do, hl, hn, if_true]) k
theorem w_iadd {x y : Int32} {len : Nat} (ha : pm_at i pc = some (.iadd, len, [])) (k : pw sc i (pc + 1, lv, .int (x + y) :: r, h) Q) : pw sc i (pc, lv, .int y :: .int x :: r, h) Q := pw_st ha rfl (rfl) k
theorem w_isub {x y : Int32} {len : Nat} (ha : pm_at i pc = some (.isub, len, [])) (k : pw sc i (pc + 1, lv, .int (x - y) :: r, h) Q) : pw sc i (pc, lv, .int y :: .int x :: r, h) Q := pw_st ha rfl (rfl) k
theorem w_imul {x y : Int32} {len : Nat} (ha : pm_at i pc = some (.imul, len, [])) (k : pw sc i (pc + 1, lv, .int (x * y) :: r, h) Q) : pw sc i (pc, lv, .int y :: .int x :: r, h) Q := pw_st ha rfl (rfl) k
theorem w_iand {x y : Int32} {len : Nat} (ha : pm_at i pc = some (.iand, len, [])) (k : pw sc i (pc + 1, lv, .int (x &&& y) :: r, h) Q) : pw sc i (pc, lv, .int y :: .int x :: r, h) Q := pw_st ha rfl (rfl) k
theorem w_ior {x y : Int32} {len : Nat} (ha : pm_at i pc = some (.ior, len, [])) (k : pw sc i (pc + 1, lv, .int (x ||| y) :: r, h) Q) : pw sc i (pc, lv, .int y :: .int x :: r, h) Q := pw_st ha rfl (rfl) k
theorem w_ixor {x y : Int32} {len : Nat} (ha : pm_at i pc = some (.ixor, len, [])) (k : pw sc i (pc + 1, lv, .int (x ^^^ y) :: r, h) Q) : pw sc i (pc, lv, .int y :: .int x :: r, h) Q := pw_st ha rfl (rfl) k
theorem w_ishl {x y : Int32} {len : Nat} (ha : pm_at i pc = some (.ishl, len, [])) (k : pw sc i (pc + 1, lv, .int (x <<< (y &&& 31)) :: r, h) Q) : pw sc i (pc, lv, .int y :: .int x :: r, h) Q := pw_st ha rfl (rfl) k
theorem w_ishr {x y : Int32} {len : Nat} (ha : pm_at i pc = some (.ishr, len, [])) (k : pw sc i (pc + 1, lv, .int (x >>> (y &&& 31)) :: r, h) Q) : pw sc i (pc, lv, .int y :: .int x :: r, h) Q := pw_st ha rfl (rfl) k
theorem w_iushr {x y : Int32} {len : Nat} (ha : pm_at i pc = some (.iushr, len, [])) (k : pw sc i (pc + 1, lv, .int ((x.toUInt32 >>> (y.toUInt32 &&& Int32.toUInt32 31)).toInt32) :: r, h) Q) : pw sc i (pc, lv, .int y :: .int x :: r, h) Q := pw_st ha rfl (rfl) k
theorem w_irem {x y : Int32} {len : Nat} (ha : pm_at i pc = some (.irem, len, [])) (hy : ¬ y = 0) (k : pw sc i (pc + 1, lv, .int (x - x / y * y) :: r, h) Q) : pw sc i (pc, lv, .int y :: .int x :: r, h) Q := pw_st ha rfl (if_neg hy) k
theorem w_lsub {x y : Int64} {len : Nat} (ha : pm_at i pc = some (.lsub, len, [])) (k : pw sc i (pc + 1, lv, .long (x - y) :: r, h) Q) : pw sc i (pc, lv, .long y :: .long x :: r, h) Q := pw_st ha rfl (rfl) k
theorem w_land {x y : Int64} {len : Nat} (ha : pm_at i pc = some (.land, len, [])) (k : pw sc i (pc + 1, lv, .long (x &&& y) :: r, h) Q) : pw sc i (pc, lv, .long y :: .long x :: r, h) Q := pw_st ha rfl (rfl) k
theorem w_lor {x y : Int64} {len : Nat} (ha : pm_at i pc = some (.lor, len, [])) (k : pw sc i (pc + 1, lv, .long (x ||| y) :: r, h) Q) : pw sc i (pc, lv, .long y :: .long x :: r, h) Q := pw_st ha rfl (rfl) k
theorem w_lshl {x : Int64} {y : Int32} {len : Nat} (ha : pm_at i pc = some (.lshl, len, [])) (k : pw sc i (pc + 1, lv, .long (x <<< (y.toInt64 &&& 63)) :: r, h) Q) : pw sc i (pc, lv, .int y :: .long x :: r, h) Q := pw_st ha rfl (rfl) k
theorem w_lshr {x : Int64} {y : Int32} {len : Nat} (ha : pm_at i pc = some (.lshr, len, [])) (k : pw sc i (pc + 1, lv, .long (x >>> (y.toInt64 &&& 63)) :: r, h) Q) : pw sc i (pc, lv, .int y :: .long x :: r, h) Q := pw_st ha rfl (rfl) k
theorem w_i2l {x : Int32} {len : Nat} (ha : pm_at i pc = some (.i2l, len, [])) (k : pw sc i (pc + 1, lv, .long x.toInt64 :: r, h) Q) : pw sc i (pc, lv, .int x :: r, h) Q := pw_st ha rfl (rfl) k
theorem w_l2i {x : Int64} {len : Nat} (ha : pm_at i pc = some (.l2i, len, [])) (k : pw sc i (pc + 1, lv, .int x.toInt32 :: r, h) Q) : pw sc i (pc, lv, .long x :: r, h) Q := pw_st ha rfl (rfl) k
theorem w_lcmp {x y : Int64} {len : Nat} (ha : pm_at i pc = some (.lcmp, len, [])) (k : pw sc i (pc + 1, lv, .int (lg_cmp x y) :: r, h) Q) : pw sc i (pc, lv, .long y :: .long x :: r, h) Q := pw_st ha rfl (rfl) k
theorem w_dup {v : Value} {len : Nat} (ha : pm_at i pc = some (.dup, len, [])) (hv : v.category = 1) (k : pw sc i (pc + 1, lv, v :: v :: r, h) Q) : pw sc i (pc, lv, v :: r, h) Q := pw_st ha rfl (if_pos hv) k
theorem w_pop {v : Value} {len : Nat} (ha : pm_at i pc = some (.pop, len, [])) (hv : v.category = 1) (k : pw sc i (pc + 1, lv, r, h) Q) : pw sc i (pc, lv, v :: r, h) Q := pw_st ha rfl (if_pos hv) k
theorem w_dup2 {v w : Value} {len : Nat} (ha : pm_at i pc = some (.dup2, len, [])) (hv : v.category = 1) (hw : w.category = 1) (k : pw sc i (pc + 1, lv, v :: w :: v :: w :: r, h) Q) : pw sc i (pc, lv, v :: w :: r, h) Q := pw_st ha rfl (if_pos ⟨hv, hw⟩) k
theorem w_goto {off : Int} {t : Nat} {len : Nat} (ha : pm_at i pc = some (.goto off, len, [])) (ht : pm_br pc off = some t) (k : pw sc i (t, lv, r, h) Q) : pw sc i (pc, lv, r, h) Q := pw_st ha rfl (by simp only [pm_do, ht]) k
theorem w_ifnullN {off : Int} {t : Nat} {len : Nat} (ha : pm_at i pc = some (.ifnull off, len, [])) (ht : pm_br pc off = some t) (k : pw sc i (t, lv, r, h) Q) : pw sc i (pc, lv, .null :: r, h) Q := pw_st ha rfl (by simp only [pm_do, ht]) k
theorem w_ifnull {off : Int} {t x : Nat} {len : Nat} (ha : pm_at i pc = some (.ifnull off, len, [])) (ht : pm_br pc off = some t) (k : pw sc i (pc + 3, lv, r, h) Q) : pw sc i (pc, lv, .ref x :: r, h) Q := pw_st ha rfl (by simp only [pm_do, ht]) k
theorem w_ifnonnull {off : Int} {t x : Nat} {len : Nat} (ha : pm_at i pc = some (.ifnonnull off, len, [])) (ht : pm_br pc off = some t) (k : pw sc i (t, lv, r, h) Q) : pw sc i (pc, lv, .ref x :: r, h) Q := pw_st ha rfl (by simp only [pm_do, ht]) k
theorem w_ifnonnullN {off : Int} {t : Nat} {len : Nat} (ha : pm_at i pc = some (.ifnonnull off, len, [])) (ht : pm_br pc off = some t) (k : pw sc i (pc + 3, lv, r, h) Q) : pw sc i (pc, lv, .null :: r, h) Q := pw_st ha rfl (by simp only [pm_do, ht]) k
theorem w_ifCond_eq {x : Int32} {off : Int} {t len : Nat} (ha : pm_at i pc = some (.ifCond .eq off, len, [])) (ht : pm_br pc off = some t) (kt : x = 0 → pw sc i (t, lv, r, h) Q) (kf : ¬ x = 0 → pw sc i (pc + 3, lv, r, h) Q) : pw sc i (pc, lv, .int x :: r, h) Q := by
  by_cases hc : x = 0
  · exact pw_st (s' := (t, lv, r, h)) ha rfl (by simp only [pm_do, ht, pm_cmp, decide_eq_true hc, if_true]) (kt hc)
  · exact pw_st (s' := (pc + 3, lv, r, h)) ha rfl (by simp only [pm_do, ht, pm_cmp, decide_eq_false hc, Bool.false_eq_true, if_false]) (kf hc)
theorem w_if_icmp_eq {x y : Int32} {off : Int} {t len : Nat} (ha : pm_at i pc = some (.if_icmp .eq off, len, [])) (ht : pm_br pc off = some t) (kt : x = y → pw sc i (t, lv, r, h) Q) (kf : ¬ x = y → pw sc i (pc + 3, lv, r, h) Q) : pw sc i (pc, lv, .int y :: .int x :: r, h) Q := by
  by_cases hc : x = y
  · exact pw_st (s' := (t, lv, r, h)) ha rfl (by simp only [pm_do, ht, pm_cmp, decide_eq_true hc, if_true]) (kt hc)
  · exact pw_st (s' := (pc + 3, lv, r, h)) ha rfl (by simp only [pm_do, ht, pm_cmp, decide_eq_false hc, Bool.false_eq_true, if_false]) (kf hc)
theorem w_ifCond_ne {x : Int32} {off : Int} {t len : Nat} (ha : pm_at i pc = some (.ifCond .ne off, len, [])) (ht : pm_br pc off = some t) (kt : ¬ x = 0 → pw sc i (t, lv, r, h) Q) (kf : x = 0 → pw sc i (pc + 3, lv, r, h) Q) : pw sc i (pc, lv, .int x :: r, h) Q := by
  by_cases hc : ¬ x = 0
  · exact pw_st (s' := (t, lv, r, h)) ha rfl (by simp only [pm_do, ht, pm_cmp, decide_eq_true hc, if_true]) (kt hc)
  · exact pw_st (s' := (pc + 3, lv, r, h)) ha rfl (by simp only [pm_do, ht, pm_cmp, decide_eq_false hc, Bool.false_eq_true, if_false]) (kf (Classical.byContradiction hc))
theorem w_if_icmp_ne {x y : Int32} {off : Int} {t len : Nat} (ha : pm_at i pc = some (.if_icmp .ne off, len, [])) (ht : pm_br pc off = some t) (kt : ¬ x = y → pw sc i (t, lv, r, h) Q) (kf : x = y → pw sc i (pc + 3, lv, r, h) Q) : pw sc i (pc, lv, .int y :: .int x :: r, h) Q := by
  by_cases hc : ¬ x = y
  · exact pw_st (s' := (t, lv, r, h)) ha rfl (by simp only [pm_do, ht, pm_cmp, decide_eq_true hc, if_true]) (kt hc)
  · exact pw_st (s' := (pc + 3, lv, r, h)) ha rfl (by simp only [pm_do, ht, pm_cmp, decide_eq_false hc, Bool.false_eq_true, if_false]) (kf (Classical.byContradiction hc))
theorem w_ifCond_lt {x : Int32} {off : Int} {t len : Nat} (ha : pm_at i pc = some (.ifCond .lt off, len, [])) (ht : pm_br pc off = some t) (kt : x < 0 → pw sc i (t, lv, r, h) Q) (kf : ¬ x < 0 → pw sc i (pc + 3, lv, r, h) Q) : pw sc i (pc, lv, .int x :: r, h) Q := by
  by_cases hc : x < 0
  · exact pw_st (s' := (t, lv, r, h)) ha rfl (by simp only [pm_do, ht, pm_cmp, decide_eq_true hc, if_true]) (kt hc)
  · exact pw_st (s' := (pc + 3, lv, r, h)) ha rfl (by simp only [pm_do, ht, pm_cmp, decide_eq_false hc, Bool.false_eq_true, if_false]) (kf hc)
theorem w_if_icmp_lt {x y : Int32} {off : Int} {t len : Nat} (ha : pm_at i pc = some (.if_icmp .lt off, len, [])) (ht : pm_br pc off = some t) (kt : x < y → pw sc i (t, lv, r, h) Q) (kf : ¬ x < y → pw sc i (pc + 3, lv, r, h) Q) : pw sc i (pc, lv, .int y :: .int x :: r, h) Q := by
  by_cases hc : x < y
  · exact pw_st (s' := (t, lv, r, h)) ha rfl (by simp only [pm_do, ht, pm_cmp, decide_eq_true hc, if_true]) (kt hc)
  · exact pw_st (s' := (pc + 3, lv, r, h)) ha rfl (by simp only [pm_do, ht, pm_cmp, decide_eq_false hc, Bool.false_eq_true, if_false]) (kf hc)
theorem w_ifCond_ge {x : Int32} {off : Int} {t len : Nat} (ha : pm_at i pc = some (.ifCond .ge off, len, [])) (ht : pm_br pc off = some t) (kt : 0 ≤ x → pw sc i (t, lv, r, h) Q) (kf : ¬ 0 ≤ x → pw sc i (pc + 3, lv, r, h) Q) : pw sc i (pc, lv, .int x :: r, h) Q := by
  by_cases hc : 0 ≤ x
  · exact pw_st (s' := (t, lv, r, h)) ha rfl (by simp only [pm_do, ht, pm_cmp, decide_eq_true hc, if_true]) (kt hc)
  · exact pw_st (s' := (pc + 3, lv, r, h)) ha rfl (by simp only [pm_do, ht, pm_cmp, decide_eq_false hc, Bool.false_eq_true, if_false]) (kf hc)
theorem w_if_icmp_ge {x y : Int32} {off : Int} {t len : Nat} (ha : pm_at i pc = some (.if_icmp .ge off, len, [])) (ht : pm_br pc off = some t) (kt : y ≤ x → pw sc i (t, lv, r, h) Q) (kf : ¬ y ≤ x → pw sc i (pc + 3, lv, r, h) Q) : pw sc i (pc, lv, .int y :: .int x :: r, h) Q := by
  by_cases hc : y ≤ x
  · exact pw_st (s' := (t, lv, r, h)) ha rfl (by simp only [pm_do, ht, pm_cmp, decide_eq_true hc, if_true]) (kt hc)
  · exact pw_st (s' := (pc + 3, lv, r, h)) ha rfl (by simp only [pm_do, ht, pm_cmp, decide_eq_false hc, Bool.false_eq_true, if_false]) (kf hc)
theorem w_ifCond_gt {x : Int32} {off : Int} {t len : Nat} (ha : pm_at i pc = some (.ifCond .gt off, len, [])) (ht : pm_br pc off = some t) (kt : 0 < x → pw sc i (t, lv, r, h) Q) (kf : ¬ 0 < x → pw sc i (pc + 3, lv, r, h) Q) : pw sc i (pc, lv, .int x :: r, h) Q := by
  by_cases hc : 0 < x
  · exact pw_st (s' := (t, lv, r, h)) ha rfl (by simp only [pm_do, ht, pm_cmp, decide_eq_true hc, if_true]) (kt hc)
  · exact pw_st (s' := (pc + 3, lv, r, h)) ha rfl (by simp only [pm_do, ht, pm_cmp, decide_eq_false hc, Bool.false_eq_true, if_false]) (kf hc)
theorem w_if_icmp_gt {x y : Int32} {off : Int} {t len : Nat} (ha : pm_at i pc = some (.if_icmp .gt off, len, [])) (ht : pm_br pc off = some t) (kt : y < x → pw sc i (t, lv, r, h) Q) (kf : ¬ y < x → pw sc i (pc + 3, lv, r, h) Q) : pw sc i (pc, lv, .int y :: .int x :: r, h) Q := by
  by_cases hc : y < x
  · exact pw_st (s' := (t, lv, r, h)) ha rfl (by simp only [pm_do, ht, pm_cmp, decide_eq_true hc, if_true]) (kt hc)
  · exact pw_st (s' := (pc + 3, lv, r, h)) ha rfl (by simp only [pm_do, ht, pm_cmp, decide_eq_false hc, Bool.false_eq_true, if_false]) (kf hc)
theorem w_ifCond_le {x : Int32} {off : Int} {t len : Nat} (ha : pm_at i pc = some (.ifCond .le off, len, [])) (ht : pm_br pc off = some t) (kt : x ≤ 0 → pw sc i (t, lv, r, h) Q) (kf : ¬ x ≤ 0 → pw sc i (pc + 3, lv, r, h) Q) : pw sc i (pc, lv, .int x :: r, h) Q := by
  by_cases hc : x ≤ 0
  · exact pw_st (s' := (t, lv, r, h)) ha rfl (by simp only [pm_do, ht, pm_cmp, decide_eq_true hc, if_true]) (kt hc)
  · exact pw_st (s' := (pc + 3, lv, r, h)) ha rfl (by simp only [pm_do, ht, pm_cmp, decide_eq_false hc, Bool.false_eq_true, if_false]) (kf hc)
theorem w_if_icmp_le {x y : Int32} {off : Int} {t len : Nat} (ha : pm_at i pc = some (.if_icmp .le off, len, [])) (ht : pm_br pc off = some t) (kt : x ≤ y → pw sc i (t, lv, r, h) Q) (kf : ¬ x ≤ y → pw sc i (pc + 3, lv, r, h) Q) : pw sc i (pc, lv, .int y :: .int x :: r, h) Q := by
  by_cases hc : x ≤ y
  · exact pw_st (s' := (t, lv, r, h)) ha rfl (by simp only [pm_do, ht, pm_cmp, decide_eq_true hc, if_true]) (kt hc)
  · exact pw_st (s' := (pc + 3, lv, r, h)) ha rfl (by simp only [pm_do, ht, pm_cmp, decide_eq_false hc, Bool.false_eq_true, if_false]) (kf hc)
theorem w_tableOut {d lo hi : Int} {offs : Array Int} {t len : Nat} {x : Int32} (ha : pm_at i pc = some (.tableswitch d lo hi offs, len, [])) (hc : x.toInt < lo ∨ hi < x.toInt) (ht : pm_br pc d = some t) (k : pw sc i (t, lv, r, h) Q) : pw sc i (pc, lv, .int x :: r, h) Q := pw_st ha rfl (by simp only [pm_do, hc, if_true, ht]) k
theorem w_tableIn {d lo hi off : Int} {offs : Array Int} {t len : Nat} {x : Int32} (ha : pm_at i pc = some (.tableswitch d lo hi offs, len, [])) (hc : ¬ (x.toInt < lo ∨ hi < x.toInt)) (ho : offs[(x.toInt - lo).toNat]? = some off) (ht : pm_br pc off = some t) (k : pw sc i (t, lv, r, h) Q) : pw sc i (pc, lv, .int x :: r, h) Q := pw_st ha rfl (by simp only [pm_do, hc, if_false, ho, ht]) k
theorem w_getfield {n ci k lk p len : Nat} {fs : List Value} {v : Value} (ha : pm_at i pc = some (.getfield n, len, [ci, k, lk])) (hp : h.1[p]? = some (.inr (ci, fs))) (hv : fs[k]? = some v) (kk : pw sc i (pc + 3, lv, v :: r, h) Q) : pw sc i (pc, lv, .ref p :: r, h) Q := pw_st ha rfl (by simp only [pm_do, hp, hv, if_true]) kk
theorem w_putfield {n ci k lk p len : Nat} {fs : List Value} {v : Value} (ha : pm_at i pc = some (.putfield n, len, [ci, k, lk])) (hp : h.1[p]? = some (.inr (ci, fs))) (hl : k < fs.length) (hf : pm_fit (pm_ty ci k) v = true) (kk : pw sc i (pc + 3, lv, r, (h.1.set p (.inr (ci, fs.set k v)), h.2)) Q) : pw sc i (pc, lv, v :: .ref p :: r, h) Q := pw_st ha rfl (by simp only [pm_do, hp, hl, hf, and_self, if_true]) kk
theorem w_alen {p t len : Nat} {vs : List Value} (ha : pm_at i pc = some (.arraylength, len, [])) (hp : h.1[p]? = some (.inl (t, vs))) (ht : t < 7) (kk : pw sc i (pc + 1, lv, .int (Int32.ofNat vs.length) :: r, h) Q) : pw sc i (pc, lv, .ref p :: r, h) Q := pw_st ha rfl (by simp only [pm_do, hp, ht, if_true]) kk
theorem w_slen {x len : Nat} (ha : pm_at i pc = some (.arraylength, len, [])) (kk : pw sc i (pc + 1, lv, .int (Int32.ofNat sc.1) :: r, h) Q) : pw sc i (pc, lv, .retAddr x :: r, h) Q := pw_st ha rfl rfl kk
theorem w_sld {x len : Nat} {j : Int32} (ha : pm_at i pc = some (.iaload, len, [])) (hj : ¬ j < 0 ∧ j.toNatClampNeg < sc.1) (kk : pw sc i (pc + 1, lv, .int (sc.2 j.toNatClampNeg) :: r, h) Q) : pw sc i (pc, lv, .int j :: .retAddr x :: r, h) Q := pw_st ha rfl (if_pos hj) kk
theorem w_iaload {p len : Nat} {vs : List Value} {j : Int32} {x : Int32} (ha : pm_at i pc = some (.iaload, len, [])) (hp : h.1[p]? = some (.inl (0, vs))) (hj : ¬ j < 0) (hv : vs[j.toNatClampNeg]? = some (.int x)) (kk : pw sc i (pc + 1, lv, .int x :: r, h) Q) : pw sc i (pc, lv, .int j :: .ref p :: r, h) Q := pw_st ha rfl (by simp only [pm_do, hp, hj, if_false, hv]) kk
theorem w_laload {p len : Nat} {vs : List Value} {j : Int32} {x : Int64} (ha : pm_at i pc = some (.laload, len, [])) (hp : h.1[p]? = some (.inl (1, vs))) (hj : ¬ j < 0) (hv : vs[j.toNatClampNeg]? = some (.long x)) (kk : pw sc i (pc + 1, lv, .long x :: r, h) Q) : pw sc i (pc, lv, .int j :: .ref p :: r, h) Q := pw_st ha rfl (by simp only [pm_do, hp, hj, if_false, hv]) kk
theorem w_baload {p len : Nat} {vs : List Value} {j : Int32} {x : Int32} (ha : pm_at i pc = some (.baload, len, [])) (hp : h.1[p]? = some (.inl (2, vs))) (hj : ¬ j < 0) (hv : vs[j.toNatClampNeg]? = some (.int x)) (kk : pw sc i (pc + 1, lv, .int x :: r, h) Q) : pw sc i (pc, lv, .int j :: .ref p :: r, h) Q := pw_st ha rfl (by simp only [pm_do, hp, hj, if_false, hv]) kk
theorem w_aaload {p t len : Nat} {vs : List Value} {j : Int32} {x : Nat} (ha : pm_at i pc = some (.aaload, len, [])) (hp : h.1[p]? = some (.inl (t, vs))) (hj : ¬ (j < 0 ∨ t < 3 ∨ 6 < t)) (hv : vs[j.toNatClampNeg]? = some (.ref x)) (kk : pw sc i (pc + 1, lv, .ref x :: r, h) Q) : pw sc i (pc, lv, .int j :: .ref p :: r, h) Q := pw_st ha rfl (by simp only [pm_do, hp, hj, if_false, hv]) kk
theorem w_aaloadN {p t len : Nat} {vs : List Value} {j : Int32}  (ha : pm_at i pc = some (.aaload, len, [])) (hp : h.1[p]? = some (.inl (t, vs))) (hj : ¬ (j < 0 ∨ t < 3 ∨ 6 < t)) (hv : vs[j.toNatClampNeg]? = some (.null)) (kk : pw sc i (pc + 1, lv, .null :: r, h) Q) : pw sc i (pc, lv, .int j :: .ref p :: r, h) Q := pw_st ha rfl (by simp only [pm_do, hp, hj, if_false, hv]) kk
theorem w_iastore {p len : Nat} {vs : List Value} {j : Int32} {x : Int32} (ha : pm_at i pc = some (.iastore, len, [])) (hp : h.1[p]? = some (.inl (0, vs))) (hj : ¬ j < 0 ∧ j.toNatClampNeg < vs.length) (kk : pw sc i (pc + 1, lv, r, (h.1.set p (.inl (0, vs.set j.toNatClampNeg (.int x))), h.2)) Q) : pw sc i (pc, lv, .int x :: .int j :: .ref p :: r, h) Q := pw_st ha rfl (by simp only [pm_do, hp]; exact if_pos hj) kk
theorem w_lastore {p len : Nat} {vs : List Value} {j : Int32} {x : Int64} (ha : pm_at i pc = some (.lastore, len, [])) (hp : h.1[p]? = some (.inl (1, vs))) (hj : ¬ j < 0 ∧ j.toNatClampNeg < vs.length) (kk : pw sc i (pc + 1, lv, r, (h.1.set p (.inl (1, vs.set j.toNatClampNeg (.long x))), h.2)) Q) : pw sc i (pc, lv, .long x :: .int j :: .ref p :: r, h) Q := pw_st ha rfl (by simp only [pm_do, hp]; exact if_pos hj) kk
theorem w_bastore {p len : Nat} {vs : List Value} {j : Int32} {x : Int32} (ha : pm_at i pc = some (.bastore, len, [])) (hp : h.1[p]? = some (.inl (2, vs))) (hj : (x = 0 ∨ x = 1) ∧ ¬ j < 0 ∧ j.toNatClampNeg < vs.length) (kk : pw sc i (pc + 1, lv, r, (h.1.set p (.inl (2, vs.set j.toNatClampNeg (.int x))), h.2)) Q) : pw sc i (pc, lv, .int x :: .int j :: .ref p :: r, h) Q := pw_st ha rfl (by simp only [pm_do, hp]; exact if_pos hj) kk
theorem w_aastore {p q t c len : Nat} {vs fs : List Value} {j : Int32} (ha : pm_at i pc = some (.aastore, len, [])) (hp : h.1[p]? = some (.inl (t, vs))) (hq : h.1[q]? = some (.inr (c, fs))) (hj : ¬ j < 0 ∧ j.toNatClampNeg < vs.length ∧ 3 ≤ t ∧ t ≤ 6 ∧ c = pm_el t) (kk : pw sc i (pc + 1, lv, r, (h.1.set p (.inl (t, vs.set j.toNatClampNeg (.ref q))), h.2)) Q) : pw sc i (pc, lv, .ref q :: .int j :: .ref p :: r, h) Q := pw_st ha rfl (by simp only [pm_do, hp, hq]; exact if_pos hj) kk
theorem w_aastoreN {p t len : Nat} {vs : List Value} {j : Int32} (ha : pm_at i pc = some (.aastore, len, [])) (hp : h.1[p]? = some (.inl (t, vs))) (hj : ¬ j < 0 ∧ j.toNatClampNeg < vs.length ∧ 3 ≤ t ∧ t ≤ 6) (kk : pw sc i (pc + 1, lv, r, (h.1.set p (.inl (t, vs.set j.toNatClampNeg .null)), h.2)) Q) : pw sc i (pc, lv, .null :: .int j :: .ref p :: r, h) Q := pw_st ha rfl (by simp only [pm_do, hp]; exact if_pos hj) kk
theorem w_new {n ci len : Nat} (ha : pm_at i pc = some (.new n, len, [ci])) (hc : ci < 9) (kk : pw sc i (pc + 3, lv, .ref h.1.length :: r, (h.1 ++ [.inr (ci, pm_df ci)], h.2.1 + 1, h.2.2 + (pm_df ci).length)) Q) : pw sc i (pc, lv, r, h) Q := pw_st ha (by show decide (100 < ci) = false; exact decide_eq_false (by omega)) (if_pos hc) kk
theorem w_newarray {a : ArrayType} {t len : Nat} {n : Int32} (ha : pm_at i pc = some (.newarray a, len, [t])) (hc : ((a = .int ∧ t = 0) ∨ (a = .long ∧ t = 1) ∨ (a = .boolean ∧ t = 2)) ∧ ¬ n < 0 ∧ n.toNatClampNeg ≤ 1000) (kk : pw sc i (pc + 2, lv, .ref h.1.length :: r, (h.1 ++ [.inl (t, List.replicate n.toNatClampNeg (pm_dv t))], h.2.1 + 1, h.2.2 + n.toNatClampNeg)) Q) : pw sc i (pc, lv, .int n :: r, h) Q := pw_st ha rfl (if_pos hc) kk
theorem w_anewarray {m t len : Nat} {n : Int32} (ha : pm_at i pc = some (.anewarray m, len, [t])) (hc : 3 ≤ t ∧ t ≤ 6 ∧ ¬ n < 0 ∧ n.toNatClampNeg ≤ 1000) (kk : pw sc i (pc + 3, lv, .ref h.1.length :: r, (h.1 ++ [.inl (t, List.replicate n.toNatClampNeg .null)], h.2.1 + 1, h.2.2 + n.toNatClampNeg)) Q) : pw sc i (pc, lv, .int n :: r, h) Q := pw_st ha rfl (if_pos hc) kk
theorem w_objinit {n j p len : Nat} (ha : pm_at i pc = some (.invokespecial n, len, [j, 6])) (hc : pm_sum r ≤ 8 ∧ 1 ≤ pm_rk i) (kk : pw sc i (pc + 3, lv, r, h) Q) : pw sc i (pc, lv, .ref p :: r, h) Q := pw_st ha rfl (if_pos hc) kk
theorem w_max {n j len : Nat} {x y : Int32} (ha : pm_at i pc = some (.invokestatic n, len, [j, 7])) (hc : pm_sum r ≤ 8 ∧ 1 ≤ pm_rk i) (kk : pw sc i (pc + 3, lv, .int (if x < y then y else x) :: r, h) Q) : pw sc i (pc, lv, .int y :: .int x :: r, h) Q := pw_st ha rfl (if_pos hc) kk
theorem w_copy {m j p q len : Nat} {n dp sp : Int32} {vs ws : List Value} (ha : pm_at i pc = some (.invokestatic m, len, [j, 8])) (hp : h.1[p]? = some (.inl (0, vs))) (hq : h.1[q]? = some (.inl (0, ws))) (hc : pm_sum r ≤ 8 ∧ 1 ≤ pm_rk i ∧ ¬ sp < 0 ∧ ¬ dp < 0 ∧ ¬ n < 0 ∧ sp.toNatClampNeg + n.toNatClampNeg ≤ vs.length ∧ dp.toNatClampNeg + n.toNatClampNeg ≤ ws.length) (kk : pw sc i (pc + 3, lv, r, (h.1.set q (.inl (0, pm_cpy vs ws sp.toNatClampNeg dp.toNatClampNeg n.toNatClampNeg)), h.2)) Q) : pw sc i (pc, lv, .int n :: .int dp :: .ref q :: .int sp :: .ref p :: r, h) Q := pw_st ha rfl (by simp only [pm_do, hp, hq]; exact if_pos hc) kk
/-- calls: the callee's arguments, the rest of the stack; what it gives goes on -/
theorem w_virtual {n j b c len : Nat} {fs as : List Value} {Q1 : (Option Value ⊕ Nat) → pm_H → Prop} (ha : pm_at i pc = some (.invokevirtual n, len, [j, 0])) (hst : st.drop (pm_np j) = .ref b :: r) (hb : h.1[b]? = some (.inr (c, fs))) (hc : pm_np j < st.length ∧ c = pm_mc j ∧ pm_sum r ≤ 12 ∧ pm_rk j < pm_rk i) (has : (st.take (pm_np j)).reverse = as) (hsum : pm_sum (.ref b :: as) ≤ pm_nL j) (hj : pw sc j (0, lv_args 0 (.ref b :: as), [], h) Q1)
    (kk : ∀ x h1, Q1 x h1 → ∃ v, x = .inl v ∧ pw sc i (pc + 3, lv, v.toList ++ r, h1) Q) : pw sc i (pc, lv, st, h) Q := by
  subst has
  exact pw_calv (k := (j, .ref b :: (st.take (pm_np j)).reverse, r)) ha rfl (by simp only [pm_do, hst, hb]; exact (if_pos (Nat.zero_le 1)).trans (if_pos hc)) hsum hj kk
theorem w_virtualX {n j b c len : Nat} {fs as : List Value} {Q1 : (Option Value ⊕ Nat) → pm_H → Prop} (ha : pm_at i pc = some (.invokevirtual n, len, [j, 0])) (hst : st.drop (pm_np j) = .ref b :: r) (hb : h.1[b]? = some (.inr (c, fs))) (hc : pm_np j < st.length ∧ c = pm_mc j ∧ pm_sum r ≤ 12 ∧ pm_rk j < pm_rk i) (has : (st.take (pm_np j)).reverse = as) (hsum : pm_sum (.ref b :: as) ≤ pm_nL j) (hj : pw sc j (0, lv_args 0 (.ref b :: as), [], h) Q1)
    (kk : ∀ x h1, Q1 x h1 → (∃ v, x = .inl v ∧ pw sc i (pc + 3, lv, v.toList ++ r, h1) Q) ∨ (∃ y w, x = .inr y ∧ pm_hnd (pm_hn i) pc y = some w ∧ pw sc i (w.2.2.2.2.2, pm_dr lv w.2.2.2.2.1, [], (h1.1, h1.2.1 + 1, h1.2.2 + 6)) Q)) : pw sc i (pc, lv, st, h) Q := by
  subst has
  exact pw_call (k := (j, .ref b :: (st.take (pm_np j)).reverse, r)) ha rfl (by simp only [pm_do, hst, hb]; exact (if_pos (Nat.zero_le 1)).trans (if_pos hc)) hsum hj kk
theorem w_special {n j kd b len : Nat} {as : List Value} {Q1 : (Option Value ⊕ Nat) → pm_H → Prop} (ha : pm_at i pc = some (.invokespecial n, len, [j, kd])) (hkd : ¬ kd = 6 ∧ (kd = 2 ∨ kd = 3)) (hst : st.drop (pm_np j) = .ref b :: r) (hc : pm_np j < st.length ∧ pm_sum r ≤ 8 ∧ pm_rk j < pm_rk i) (has : (st.take (pm_np j)).reverse = as) (hsum : pm_sum (.ref b :: as) ≤ pm_nL j) (hj : pw sc j (0, lv_args 0 (.ref b :: as), [], h) Q1)
    (kk : ∀ x h1, Q1 x h1 → ∃ v, x = .inl v ∧ pw sc i (pc + 3, lv, v.toList ++ r, h1) Q) : pw sc i (pc, lv, st, h) Q := by
  subst has
  exact pw_calv (k := (j, .ref b :: (st.take (pm_np j)).reverse, r)) ha rfl (by simp only [pm_do, hst, hkd.1, hkd.2, if_true, if_false]; exact if_pos hc) hsum hj kk
theorem w_static {n j kd len : Nat} {as : List Value} {Q1 : (Option Value ⊕ Nat) → pm_H → Prop} (ha : pm_at i pc = some (.invokestatic n, len, [j, kd])) (hkd : ¬ kd = 7 ∧ ¬ kd = 8 ∧ (kd = 4 ∨ kd = 5 ∨ kd = 9)) (hst : st.drop (pm_np j) = r) (hc : pm_np j ≤ st.length ∧ pm_sum r ≤ 8 ∧ pm_rk j < pm_rk i) (has : (st.take (pm_np j)).reverse = as) (hsum : pm_sum as ≤ pm_nL j) (hj : pw sc j (0, lv_args 0 as, [], h) Q1)
    (kk : ∀ x h1, Q1 x h1 → ∃ v, x = .inl v ∧ pw sc i (pc + 3, lv, v.toList ++ r, h1) Q) : pw sc i (pc, lv, st, h) Q := by
  subst has
  subst hst
  exact pw_calv (k := (j, (st.take (pm_np j)).reverse, st.drop (pm_np j))) ha rfl (by simp only [pm_do, hkd.1, hkd.2.1, hkd.2.2, if_true, if_false]; exact if_pos hc) hsum hj kk
theorem w_ireturn {len : Nat} {x : Int32} (ha : pm_at i pc = some (.ireturn, len, [])) (ht : pm_rt i = 1 ∨ (pm_rt i = 2 ∧ (x = 0 ∨ x = 1))) (hq : Q (.inl (some (.int x))) h) : pw sc i (pc, lv, [.int x], h) Q := pw_ret ha rfl (if_pos ht) hq
theorem w_lreturn {len : Nat} {x : Int64} (ha : pm_at i pc = some (.lreturn, len, [])) (ht : pm_rt i = 3) (hq : Q (.inl (some (.long x))) h) : pw sc i (pc, lv, [.long x], h) Q := pw_ret ha rfl (if_pos ht) hq
theorem w_areturn {len x : Nat} (ha : pm_at i pc = some (.areturn, len, [])) (ht : pm_rt i = 4) (hq : Q (.inl (some (.ref x))) h) : pw sc i (pc, lv, [.ref x], h) Q := pw_ret ha rfl (if_pos ht) hq
theorem w_areturnN {len : Nat} (ha : pm_at i pc = some (.areturn, len, [])) (ht : pm_rt i = 4) (hq : Q (.inl (some .null)) h) : pw sc i (pc, lv, [.null], h) Q := pw_ret ha rfl (if_pos ht) hq
theorem w_return {len : Nat} (ha : pm_at i pc = some (.return_, len, [])) (ht : pm_rt i = 0) (hq : Q (.inl none) h) : pw sc i (pc, lv, [], h) Q := pw_ret ha rfl (if_pos ht) hq
theorem w_throw {n x len : Nat} (ha : pm_at i pc = some (.new n, len, [100 + x])) (hx : 0 < x) (hs : pm_sum r ≤ 8) (hq : Q (.inr x) h) : pw sc i (pc, lv, r, h) Q := pw_ret ha (by show decide (100 < 100 + x) = true; exact decide_eq_true (by omega)) (by show (if 100 < 100 + x ∧ pm_sum r ≤ 8 then some (Sum.inr (100 + x - 100)) else none) = some (Sum.inr x); rw [if_pos ⟨by omega, hs⟩, Nat.add_sub_cancel_left]) hq
end PW
/-! the heap behind a change -/
theorem gs_self {cs : List pm_C} {p : Nat} {c0 c : pm_C} (hp : cs[p]? = some c0) : (cs.set p c)[p]? = some c := by
  have hl : p < cs.length := (List.getElem?_eq_some_iff.mp hp).1
  rw [List.getElem?_set, if_pos rfl, if_pos hl]
theorem gs_ne {cs : List pm_C} {p q : Nat} {c : pm_C} (hn : p ≠ q) : (cs.set p c)[q]? = cs[q]? := by
  rw [List.getElem?_set, if_neg hn]
theorem ga_old {cs ys : List pm_C} {q : Nat} {c : pm_C} (hq : cs[q]? = some c) : (cs ++ ys)[q]? = some c := by
  have hl : q < cs.length := (List.getElem?_eq_some_iff.mp hq).1
  rw [List.getElem?_append_left hl]
  exact hq
theorem ga_new {cs : List pm_C} {c : pm_C} : (cs ++ [c])[cs.length]? = some c := by simp
theorem g_lt {cs : List pm_C} {q : Nat} {c : pm_C} (hq : cs[q]? = some c) : q < cs.length := (List.getElem?_eq_some_iff.mp hq).1
end
section
/-- OPEN: the pure machine's run of the law, for every script -/
theorem pu_law (L : Nat) (xs : Nat → Int32) (hL : L ≤ 2049) : ∃ (n : Nat) (o : pm_S), pm_ev (L, xs) n 136 (0, [(0, .retAddr 0)], [], ([], 0, 0)) = some o ∧ o.2.2.1 = [.int 1] ∧ pm_at 136 o.1 = some (.ireturn, 1, []) ∧ o.2.2.2.2.1 ≤ 400000 ∧ o.2.2.2.2.2 ≤ 5000000 := by
  sorry
end
section
/-- THE LAW, from its entry -/
theorem whole_start {p : Program} {e : Env} {s : State} {m : MethodId} {below : List Frame} {meth : Method} {c : Code} (l : Launch) (hfl : l.flags = flags0) {b L : Nat} {xs : Nat → Int32} (hL : L ≤ 2049) (C0 : lw_At p s m meth c b L xs) : W p l e room_1 s m #[Value.ref b] below meth c s.heap [] 0 0 (lw_Z below #[Value.ref b] s) (entryFrame m ([Value.ref b] : List Value).toArray 7) := by
  obtain ⟨n, o, h1, h2, h3, h4, h5⟩ := pu_law L xs hL
  exact pm_law l (by rw [Launch.stackTraces, hfl]; decide +kernel) C0 h1 h2 h3 (Nat.le_trans h4 (Nat.le_of_ble_eq_true rfl)) (Nat.le_trans h5 (Nat.le_of_ble_eq_true rfl))
set_option maxHeartbeats 4000000 in
theorem lw_walk (l : Launch) (hfl : l.flags = flags0) (b : Addr) (xs : List Int32) : MetFree l x (headSpec (Jvm.Cond.code x code maxLocals ret :: tables_1) room_1) (lw_P b xs) (fun _ _ _ _ _ => True) lw_Q := by
  refine MetFree.of_bodyS (code := code) (maxLocals := maxLocals) (ret := ret) (by decide) ?_ ?_
  · intro args s m h hn
    obtain ⟨meth, c, h1, h2, h3, h4, h5, h6, -, -⟩ := Cond.code_spec hn (atoms_spec (ws := Jvm.Cond.code x code maxLocals ret :: tables_1) h _ List.mem_cons_self)
    exact ⟨meth, c, h1, h2, h3, h4, h5, h6⟩
  · intro p e s m args below meth c s₁ B hml0 hP _
    obtain ⟨rfl, hx, hbd, hgv⟩ := hP
    obtain ⟨scr, harrAt, hlist, hof, hsmall⟩ := hx
    obtain ⟨hcb, hkn, -, -⟩ := State.arrayAt?_spec harrAt
    have hown : s.vm.findClass R_law = some m.cls := findClass_of_methodNamed B.named
    have hts0 : ∀ c ∈ (Jvm.Cond.code x code maxLocals ret :: tables_1), c.before #[Value.ref b] s = true := atoms_spec (ws := Jvm.Cond.code x code maxLocals ret :: tables_1) B.pre
    have hts : ∀ w ∈ lw_tbl, w.before #[Value.ref b] s = true := k2_hts_sels lw_privs (fun w hw => hts0 w (List.mem_cons_of_mem _ hw)) lw_privs_ok
    have hml : c.maxLocals = 7 := B.maxLocals_eq (hts0 _ List.mem_cons_self)
    have X₀ : Stand p l e room_1 s m #[Value.ref b] below meth c s₁ [] 0 0 := Stand.of_body B
    have hh0 : s₁.heap = s.heap := by rw [B.state]; rfl
    have hsz : scr.slots.size = xs.length := by rw [← Array.length_toList, hlist, List.length_map]
    have hval : ∀ j : Nat, j < xs.length → scr.slots[j]? = some (.int (xs.getD j 0)) := fun j hj => by
      rw [← Array.getElem?_toList, hlist]
      simp [hj]
    have hbl : b < s.heap.size := (Array.getElem?_eq_some_iff.mp hcb).1
    have hX : va_X b xs.length (fun j => xs.getD j 0) s s.heap := ⟨scr, hcb, hof, hkn, hsz, hval⟩
    have K : W p l e room_1 s m #[Value.ref b] below meth c s₁.heap [] 0 0 (lw_Z below #[Value.ref b] s) (entryFrame m ([Value.ref b] : List Value).toArray 7) := by
      rw [hh0]
      exact whole_start l hfl hbd ⟨B.exec, B.bytes, B.returns, hml, hown, hts, hX, hbl, B.notSynchronized, hgv, BodyLoose.noHandlers B (hts0 _ List.mem_cons_self)⟩
    obtain ⟨t, a1, o, b1, b2, b3⟩ := K s₁ rfl X₀
    exact ⟨t, o, a1, b1, b2, b3⟩
theorem lw_pre_spec {args : Array Value} {s : State} (h : (Jvm.Cond.and given_1 narrow_1).before args s = true) (hr : rest_1_c.before args s = true) : ∃ (b : Addr) (xs : List Int32), lw_P b xs args s := by
  have hs := flat_of_before _ h
  have hq := flat_of_before _ hr
  have hc : (Cond.count 1).before args s = true := hs _ (by decide +kernel)
  have harr : (Cond.arrayOf (.arg 0) .int).before args s = true := hs _ (by decide +kernel)
  have hle : (Cond.le (.length (.arg 0)) (.int 2049)).before args s = true := hs _ (by decide +kernel)
  have hlen : (Cond.isInt (.length (.arg 0))).before args s = true := hq _ (by decide +kernel)
  have hall : (Cond.all (.arg 0) (.isInt (.elem (.arg 0) (.index 0)))).before args s = true := hq _ (by decide +kernel)
  obtain ⟨b, xs, hb, hx⟩ := State.ints_of_pre rfl harr hlen hall
  have hsm : xs.length < 2 ^ 31 := hx.choose_spec.2.2.2
  have hev : (Term.length (.arg 0)).eval args s none [] s = some (.int xs.length.toInt32) := hx.length_eval hb
  have hv := Cond.le_ints hev (show (Term.int 2049).eval args s none [] s = some (.int 2049) from rfl)
  have hd : xs.length.toInt32 ≤ 2049 := by
    simpa [Cond.before, Cond.holds, hv] using hle
  have hN : xs.length ≤ 2049 := (Int32.ofNat_le_ofNat hsm (by decide)).mp (show Int32.ofNat xs.length ≤ Int32.ofNat 2049 from hd)
  exact ⟨b, xs, Cond.one_arg hc (show args[0]? = some (.ref b) from hb), hx, hN, h⟩
theorem lw_comes (l : Launch) (hfl : l.flags = flags0) : Comes l x (Jvm.Cond.code x code maxLocals ret :: tables_1) room_1 (fun tb e args s => Calls_1 tb e args s ∧ rest_1 tb e args s ∧ Pre_1 tb e args s)
    (fun _ _ args s o t => lw_Q args s o t) := by
  intro p e ha hc hk s m args below hf hfit hheap happ hpre
  obtain ⟨b, xs, hP⟩ := lw_pre_spec hpre.2.2 hpre.2.1
  obtain ⟨k, o, h1, h2, h3, hQ⟩ := lw_walk l hfl b xs p e ha hc hk s m args below hf ((Spec.applies_iff_loose hf).mp happ).1 hP trivial
  exact ⟨k, o, h1, h2, h3, hQ⟩
theorem lw_frame {s t : State} {o : Outcome} {args : Array Value} (h : Framed s o t [] room_1.cells room_1.slots) :
    Framed s o t (fieldLocs frame_1_writes args s ++ arrayLocs frame_1_arrays args s ++ staticLocs frame_1_statics s) room_1.cells room_1.slots := h
theorem lw_limb (L : Cond) (hL : ∀ (args : Array Value) (s t : State), L.after args s (.returned (some (.int 1))) t = true) :
    ArmFor flags0 classFile x code maxLocals ret World_1 tables_1 room_1 Calls_1 rest_1 Pre_1
      (fun tb e a s o t => postC L tb e a s o t ∧ Framed s o t (fieldLocs frame_1_writes a s ++ arrayLocs frame_1_arrays a s ++ staticLocs frame_1_statics s) room_1.cells room_1.slots) := by
  intro l hfl _ _ p e ha hc hk s m args below hf hfit hheap happ hpre
  obtain ⟨k, o, h1, h2, h3, rfl, hF⟩ := lw_comes l hfl p e ha hc hk s m args below hf hfit hheap happ hpre
  exact ⟨k, _, h1, h2, h3, hL args s _, lw_frame hF⟩
theorem i_vc : Claimed_1_1 ∧ Claimed_1_2 := ⟨lw_limb limb_1_1 (fun args s t => by simp [limb_1_1, Cond.after, Cond.holds, Cond.value]), lw_limb limb_1_2 (fun args s t => Cond.after_iff.mpr (by
  first | (rw [show limb_1_2 = Cond.eq .result (.int 1) from rfl, Cond.eq_ints (x := 1) (y := 1) rfl rfl]; simp; done) | (simp [limb_1_2, Cond.value, Term.eval]; done)))⟩
end
